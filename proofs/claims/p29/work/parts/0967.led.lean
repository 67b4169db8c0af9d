/-! what led answers, what prove writes. Own work (scripts laid by wip/pm/gen34.py). -/
section LD
variable {G : pG} {d : Nat} {F : pF} {I : pI} {Q : Option pV → pF → pI → Prop}
abbrev VPR (m o f t : Int) : Prop := (1 ≤ m ∧ m ≤ 5) ∧ (0 ≤ o ∧ o ≤ 5) ∧ (101 ≤ f ∧ f ≤ 9999) ∧ 0 < f % 100 ∧ (0 ≤ t ∧ t ≤ 99) ∧ o < m
theorem uJ_eqi {I : pI} {q b j : Nat} {v : Int} (h : j = b) : uI I q b v q j = v := by subst h; exact uJ_eq
theorem c_prove8 (hF : FS F) (hR : Rg I) {v0 v1 v2 v3 : Int}  (hQ : ∀ (r : Int) (I' : pI), Rg I' → AR I' → iR r → (∀ k j, ¬ (k = 203 ∨ (8 ≤ k ∧ k < 12)) → I' k j = I k j) → ((∀ j : Nat, j < 6 → I' 8 (j + 0) = if VPR v0 v1 v2 v3 ∧ (j : Int) = v0 then v1 else I 8 (j + 0)) ∧ (∀ j : Nat, j < 6 → I' 9 (j + 0) = if VPR v0 v1 v2 v3 ∧ (j : Int) = v0 then v2 / 100 else I 9 (j + 0)) ∧ (∀ j : Nat, j < 6 → I' 10 (j + 0) = if VPR v0 v1 v2 v3 ∧ (j : Int) = v0 then v2 % 100 else I 10 (j + 0)) ∧ (∀ j : Nat, j < 6 → I' 11 (j + 0) = if VPR v0 v1 v2 v3 ∧ (j : Int) = v0 then v3 else I 11 (j + 0))) → Q (some (vi r)) F I') : CallN G (d + 3) kX11_prove [vr 0, vi v0, vi v1, vi v2, vi v3] NP F I Q := by
  refine CallN_in (fun hok hA => CallN_out ?_)
  have iv0 : -2147483648 ≤ v0 ∧ v0 < 2147483648 := hok (vi v0) (by simp)
  have iv1 : -2147483648 ≤ v1 ∧ v1 < 2147483648 := hok (vi v1) (by simp)
  have iv2 : -2147483648 ≤ v2 ∧ v2 < 2147483648 := hok (vi v2) (by simp)
  have iv3 : -2147483648 ≤ v3 ∧ v3 < 2147483648 := hok (vi v3) (by simp)
  have tq := td100 v2
  refine Call_wp (lv := [some (vr 0), some (vi v0), some (vi v1), some (vi v2), some (vi v3), none, none]) (by decide) ckX11_prove [] rfl rfl ?_
  refine ⟨(by decide), ?_⟩
  refine ⟨(by decide), ?_⟩
  refine s_X11_within (fun (w1 : ((1 : Int) ≤ v0 ∧ (v0 : Int) ≤ 5)) => ?_) (fun (w1 : ¬ ((1 : Int) ≤ v0 ∧ (v0 : Int) ≤ 5)) => ?_)
  ·
    refine ⟨fun c => absurd c (show (¬ ((1 : Int) = 0)) from by decide), fun _ => ?_⟩
    refine s_X11_isMeter (fun (w2 : ((0 : Int) ≤ v1 ∧ (v1 : Int) ≤ 5)) => ?_) (fun (w2 : ¬ ((0 : Int) ≤ v1 ∧ (v1 : Int) ≤ 5)) => ?_)
    ·
      refine ⟨fun c => absurd c (show (¬ ((1 : Int) = 0)) from by decide), fun _ => ?_⟩
      have n3 : -21474836 ≤ (Int.tdiv v2 100) ∧ (Int.tdiv v2 100) ≤ 21474836 := td_b (by decide) (by decide) (by omega) (by omega)
      have n4 : (wr (Int.tdiv v2 100)) = (Int.tdiv v2 100) := wr_id (show -2147483648 ≤ ((Int.tdiv v2 100) : Int) ∧ ((Int.tdiv v2 100) : Int) < 2147483648 from by omega)
      refine s_X11_within (fun (w5 : ((1 : Int) ≤ (wr (Int.tdiv v2 100)) ∧ ((wr (Int.tdiv v2 100)) : Int) ≤ 99)) => ?_) (fun (w5 : ¬ ((1 : Int) ≤ (wr (Int.tdiv v2 100)) ∧ ((wr (Int.tdiv v2 100)) : Int) ≤ 99)) => ?_)
      ·
        refine ⟨fun c => absurd c (show (¬ ((1 : Int) = 0)) from by decide), fun _ => ?_⟩
        have n6 : -100 < (Int.tmod v2 100) ∧ (Int.tmod v2 100) < 100 := tm_b (by decide)
        refine s_X11_within (fun (w7 : ((1 : Int) ≤ (Int.tmod v2 100) ∧ ((Int.tmod v2 100) : Int) ≤ 99)) => ?_) (fun (w7 : ¬ ((1 : Int) ≤ (Int.tmod v2 100) ∧ ((Int.tmod v2 100) : Int) ≤ 99)) => ?_)
        ·
          refine ⟨fun c => absurd c (show (¬ ((1 : Int) = 0)) from by decide), fun _ => ?_⟩
          refine s_X11_within (fun (w8 : ((0 : Int) ≤ v3 ∧ (v3 : Int) ≤ 99)) => ?_) (fun (w8 : ¬ ((0 : Int) ≤ v3 ∧ (v3 : Int) ≤ 99)) => ?_)
          ·
            refine ⟨fun _ => ?_, fun c => absurd c (show (¬ (1 : Int) = 0) from by decide)⟩
            refine ⟨fun (c9 : ((v1 : Int) < v0)) => ?_, fun (c9 : (¬ ((v1 : Int) < v0))) => ?_⟩
            ·
              refine ⟨_, rfl, (by decide), ?_⟩
              refine fun w0 hw0 => ?_; obtain rfl : w0 = some 1 := hw0.symm.trans (FS.g hF rfl)
              refine ⟨_, rfl, (by decide), ?_⟩
              refine fun w0 hw0 => ?_; obtain rfl : w0 = some 7 := hw0.symm.trans (FS.g hF rfl)
              refine ⟨⟨_, rfl, (by decide)⟩, ?_⟩
              refine Call_wp (lv := [some (vr 7), some (vi v0), some (vi v1), some (vi (wr (Int.tdiv v2 100))), some (vi (Int.tmod v2 100)), some (vi v3)]) (by decide) ckX2_set [] rfl rfl ?_
              refine s_X11_isMeter (fun _ => ?_) (fun hw => absurd (show ((0 : Int) ≤ v0 ∧ (v0 : Int) ≤ 5) from by first | omega | (simp only [wr, wl] at *; omega)) hw)
              refine ⟨fun c => absurd c (show (¬ ((1 : Int) = 0)) from by decide), fun _ => ?_⟩
              refine ⟨_, rfl, (by decide), ?_⟩
              refine fun w0 hw0 => ?_; obtain rfl : w0 = some 8 := hw0.symm.trans (FS.g hF rfl)
              refine ⟨_, rfl, (by decide), (show (0 : Int) ≤ v0 from by first | with_reducible assumption | omega | (simp only [wr, wl] at *; omega)), (show v0 < (6 : Int) from by first | with_reducible assumption | omega | (simp only [wr, wl] at *; omega)), ?_⟩
              refine ⟨_, rfl, (by decide), ?_⟩
              refine fun w0 hw0 => ?_; obtain rfl : w0 = some 9 := hw0.symm.trans (FS.g hF rfl)
              refine ⟨_, rfl, (by decide), (show (0 : Int) ≤ v0 from by first | with_reducible assumption | omega | (simp only [wr, wl] at *; omega)), (show v0 < (6 : Int) from by first | with_reducible assumption | omega | (simp only [wr, wl] at *; omega)), ?_⟩
              refine ⟨_, rfl, (by decide), ?_⟩
              refine fun w0 hw0 => ?_; obtain rfl : w0 = some 10 := hw0.symm.trans (FS.g hF rfl)
              refine ⟨_, rfl, (by decide), (show (0 : Int) ≤ v0 from by first | with_reducible assumption | omega | (simp only [wr, wl] at *; omega)), (show v0 < (6 : Int) from by first | with_reducible assumption | omega | (simp only [wr, wl] at *; omega)), ?_⟩
              refine ⟨_, rfl, (by decide), ?_⟩
              refine fun w0 hw0 => ?_; obtain rfl : w0 = some 11 := hw0.symm.trans (FS.g hF rfl)
              refine ⟨_, rfl, (by decide), (show (0 : Int) ≤ v0 from by first | with_reducible assumption | omega | (simp only [wr, wl] at *; omega)), (show v0 < (6 : Int) from by first | with_reducible assumption | omega | (simp only [wr, wl] at *; omega)), ?_⟩
              refine ⟨rfl, ?_⟩
              exact ⟨rfl, fun hv hA' => hQ _ _ (Rg.u (Rg.u (Rg.u (Rg.u hR (Pr_p (k := 8) rfl _ _)) (Pr_p (k := 9) rfl _ _)) (Pr_p (k := 10) rfl _ _)) (Pr_p (k := 11) rfl _ _)) hA' (hv _ rfl) (fun ka ja hk => ((uI_o (show ¬ (ka = 11 ∧ ja = (Int.toNat v0)) from by first | (intro e; obtain ⟨rfl, _⟩ := e; exact hk (by decide)) | omega))).trans (((uI_o (show ¬ (ka = 10 ∧ ja = (Int.toNat v0)) from by first | (intro e; obtain ⟨rfl, _⟩ := e; exact hk (by decide)) | omega))).trans (((uI_o (show ¬ (ka = 9 ∧ ja = (Int.toNat v0)) from by first | (intro e; obtain ⟨rfl, _⟩ := e; exact hk (by decide)) | omega))).trans ((uI_o (show ¬ (ka = 8 ∧ ja = (Int.toNat v0)) from by first | (intro e; obtain ⟨rfl, _⟩ := e; exact hk (by decide)) | omega)))))) (⟨fun j hj => (by
                              by_cases e : (j : Int) = v0
                              · rw [if_pos ⟨show VPR v0 v1 v2 v3 from by unfold VPR; omega, e⟩]
                                exact (uI_o (fun e => absurd e.1 (by decide))).trans ((uI_o (fun e => absurd e.1 (by decide))).trans ((uI_o (fun e => absurd e.1 (by decide))).trans ((uJ_eqi (by omega)).trans (show v1 = v1 from by omega))))
                              · rw [if_neg (fun h => e h.2)]
                                exact (uI_o (fun e => absurd e.1 (by decide))).trans ((uI_o (fun e => absurd e.1 (by decide))).trans ((uI_o (fun e => absurd e.1 (by decide))).trans (uJ_ne (by omega))))), fun j hj => (by
                              by_cases e : (j : Int) = v0
                              · rw [if_pos ⟨show VPR v0 v1 v2 v3 from by unfold VPR; omega, e⟩]
                                exact (uI_o (fun e => absurd e.1 (by decide))).trans ((uI_o (fun e => absurd e.1 (by decide))).trans ((uJ_eqi (by omega)).trans (show (wr (Int.tdiv v2 100)) = v2 / 100 from by omega)))
                              · rw [if_neg (fun h => e h.2)]
                                exact (uI_o (fun e => absurd e.1 (by decide))).trans ((uI_o (fun e => absurd e.1 (by decide))).trans ((uJ_ne (by omega)).trans (uI_o (fun e => absurd e.1 (by decide)))))), fun j hj => (by
                              by_cases e : (j : Int) = v0
                              · rw [if_pos ⟨show VPR v0 v1 v2 v3 from by unfold VPR; omega, e⟩]
                                exact (uI_o (fun e => absurd e.1 (by decide))).trans ((uJ_eqi (by omega)).trans (show (Int.tmod v2 100) = v2 % 100 from by omega))
                              · rw [if_neg (fun h => e h.2)]
                                exact (uI_o (fun e => absurd e.1 (by decide))).trans ((uJ_ne (by omega)).trans ((uI_o (fun e => absurd e.1 (by decide))).trans (uI_o (fun e => absurd e.1 (by decide)))))), fun j hj => (by
                              by_cases e : (j : Int) = v0
                              · rw [if_pos ⟨show VPR v0 v1 v2 v3 from by unfold VPR; omega, e⟩]
                                exact (uJ_eqi (by omega)).trans (show v3 = v3 from by omega)
                              · rw [if_neg (fun h => e h.2)]
                                exact (uJ_ne (by omega)).trans ((uI_o (fun e => absurd e.1 (by decide))).trans ((uI_o (fun e => absurd e.1 (by decide))).trans (uI_o (fun e => absurd e.1 (by decide))))))⟩)⟩
            ·
              refine ⟨⟨_, rfl, (by decide)⟩, ?_⟩
              refine s_X11_refuse hF (e := 3) (by decide) ?_
              exact ⟨rfl, fun hv hA' => hQ _ _ (Rg.u hR (Pr_f rfl)) hA' (hv _ rfl) (fun ka ja hk => (uI_o (show ¬ (ka = 203 ∧ ja = 3) from by first | (intro e; obtain ⟨rfl, rfl⟩ := e; exact hk (by decide)) | omega))) (⟨fun j hj => (uI_o (fun e => absurd e.1 (by decide))).trans (if_neg (fun h => absurd h.1 (by unfold VPR; omega))).symm, fun j hj => (uI_o (fun e => absurd e.1 (by decide))).trans (if_neg (fun h => absurd h.1 (by unfold VPR; omega))).symm, fun j hj => (uI_o (fun e => absurd e.1 (by decide))).trans (if_neg (fun h => absurd h.1 (by unfold VPR; omega))).symm, fun j hj => (uI_o (fun e => absurd e.1 (by decide))).trans (if_neg (fun h => absurd h.1 (by unfold VPR; omega))).symm⟩)⟩
          ·
            refine ⟨fun c => absurd (show ((0 : Int) = 0) from by decide) c, fun _ => ?_⟩
            refine ⟨⟨_, rfl, (by decide)⟩, ?_⟩
            refine s_X11_refuse hF (e := 1) (by decide) ?_
            exact ⟨rfl, fun hv hA' => hQ _ _ (Rg.u hR (Pr_f rfl)) hA' (hv _ rfl) (fun ka ja hk => (uI_o (show ¬ (ka = 203 ∧ ja = 1) from by first | (intro e; obtain ⟨rfl, rfl⟩ := e; exact hk (by decide)) | omega))) (⟨fun j hj => (uI_o (fun e => absurd e.1 (by decide))).trans (if_neg (fun h => absurd h.1 (by unfold VPR; omega))).symm, fun j hj => (uI_o (fun e => absurd e.1 (by decide))).trans (if_neg (fun h => absurd h.1 (by unfold VPR; omega))).symm, fun j hj => (uI_o (fun e => absurd e.1 (by decide))).trans (if_neg (fun h => absurd h.1 (by unfold VPR; omega))).symm, fun j hj => (uI_o (fun e => absurd e.1 (by decide))).trans (if_neg (fun h => absurd h.1 (by unfold VPR; omega))).symm⟩)⟩
        ·
          refine ⟨fun _ => ?_, fun c => absurd (show ((0 : Int) = 0) from by decide) c⟩
          refine ⟨⟨_, rfl, (by decide)⟩, ?_⟩
          refine s_X11_refuse hF (e := 1) (by decide) ?_
          exact ⟨rfl, fun hv hA' => hQ _ _ (Rg.u hR (Pr_f rfl)) hA' (hv _ rfl) (fun ka ja hk => (uI_o (show ¬ (ka = 203 ∧ ja = 1) from by first | (intro e; obtain ⟨rfl, rfl⟩ := e; exact hk (by decide)) | omega))) (⟨fun j hj => (uI_o (fun e => absurd e.1 (by decide))).trans (if_neg (fun h => absurd h.1 (by unfold VPR; omega))).symm, fun j hj => (uI_o (fun e => absurd e.1 (by decide))).trans (if_neg (fun h => absurd h.1 (by unfold VPR; omega))).symm, fun j hj => (uI_o (fun e => absurd e.1 (by decide))).trans (if_neg (fun h => absurd h.1 (by unfold VPR; omega))).symm, fun j hj => (uI_o (fun e => absurd e.1 (by decide))).trans (if_neg (fun h => absurd h.1 (by unfold VPR; omega))).symm⟩)⟩
      ·
        refine ⟨fun _ => ?_, fun c => absurd (show ((0 : Int) = 0) from by decide) c⟩
        refine ⟨⟨_, rfl, (by decide)⟩, ?_⟩
        refine s_X11_refuse hF (e := 1) (by decide) ?_
        exact ⟨rfl, fun hv hA' => hQ _ _ (Rg.u hR (Pr_f rfl)) hA' (hv _ rfl) (fun ka ja hk => (uI_o (show ¬ (ka = 203 ∧ ja = 1) from by first | (intro e; obtain ⟨rfl, rfl⟩ := e; exact hk (by decide)) | omega))) (⟨fun j hj => (uI_o (fun e => absurd e.1 (by decide))).trans (if_neg (fun h => absurd h.1 (by unfold VPR; omega))).symm, fun j hj => (uI_o (fun e => absurd e.1 (by decide))).trans (if_neg (fun h => absurd h.1 (by unfold VPR; omega))).symm, fun j hj => (uI_o (fun e => absurd e.1 (by decide))).trans (if_neg (fun h => absurd h.1 (by unfold VPR; omega))).symm, fun j hj => (uI_o (fun e => absurd e.1 (by decide))).trans (if_neg (fun h => absurd h.1 (by unfold VPR; omega))).symm⟩)⟩
    ·
      refine ⟨fun _ => ?_, fun c => absurd (show ((0 : Int) = 0) from by decide) c⟩
      refine ⟨⟨_, rfl, (by decide)⟩, ?_⟩
      refine s_X11_refuse hF (e := 1) (by decide) ?_
      exact ⟨rfl, fun hv hA' => hQ _ _ (Rg.u hR (Pr_f rfl)) hA' (hv _ rfl) (fun ka ja hk => (uI_o (show ¬ (ka = 203 ∧ ja = 1) from by first | (intro e; obtain ⟨rfl, rfl⟩ := e; exact hk (by decide)) | omega))) (⟨fun j hj => (uI_o (fun e => absurd e.1 (by decide))).trans (if_neg (fun h => absurd h.1 (by unfold VPR; omega))).symm, fun j hj => (uI_o (fun e => absurd e.1 (by decide))).trans (if_neg (fun h => absurd h.1 (by unfold VPR; omega))).symm, fun j hj => (uI_o (fun e => absurd e.1 (by decide))).trans (if_neg (fun h => absurd h.1 (by unfold VPR; omega))).symm, fun j hj => (uI_o (fun e => absurd e.1 (by decide))).trans (if_neg (fun h => absurd h.1 (by unfold VPR; omega))).symm⟩)⟩
  ·
    refine ⟨fun _ => ?_, fun c => absurd (show ((0 : Int) = 0) from by decide) c⟩
    refine ⟨⟨_, rfl, (by decide)⟩, ?_⟩
    refine s_X11_refuse hF (e := 1) (by decide) ?_
    exact ⟨rfl, fun hv hA' => hQ _ _ (Rg.u hR (Pr_f rfl)) hA' (hv _ rfl) (fun ka ja hk => (uI_o (show ¬ (ka = 203 ∧ ja = 1) from by first | (intro e; obtain ⟨rfl, rfl⟩ := e; exact hk (by decide)) | omega))) (⟨fun j hj => (uI_o (fun e => absurd e.1 (by decide))).trans (if_neg (fun h => absurd h.1 (by unfold VPR; omega))).symm, fun j hj => (uI_o (fun e => absurd e.1 (by decide))).trans (if_neg (fun h => absurd h.1 (by unfold VPR; omega))).symm, fun j hj => (uI_o (fun e => absurd e.1 (by decide))).trans (if_neg (fun h => absurd h.1 (by unfold VPR; omega))).symm, fun j hj => (uI_o (fun e => absurd e.1 (by decide))).trans (if_neg (fun h => absurd h.1 (by unfold VPR; omega))).symm⟩)⟩
theorem r_prove8 (hF : FS F) (hR : Rg I) {v0 v1 v2 v3 : Int}  (hQ : ∀ (r : Int) (I' : pI), Rg I' → AR I' → iR r → (∀ k j, ¬ (k = 238 ∨ (k = 236 ∧ 16 ≤ j ∧ j < 40)) → I' k j = I k j) → ((∀ j : Nat, j < 6 → I' 236 (16 + 4 * j) = if VPR v0 v1 v2 v3 ∧ (j : Int) = v0 then v1 else I 236 (16 + 4 * j)) ∧ (∀ j : Nat, j < 6 → I' 236 (17 + 4 * j) = if VPR v0 v1 v2 v3 ∧ (j : Int) = v0 then v2 / 100 else I 236 (17 + 4 * j)) ∧ (∀ j : Nat, j < 6 → I' 236 (18 + 4 * j) = if VPR v0 v1 v2 v3 ∧ (j : Int) = v0 then v2 % 100 else I 236 (18 + 4 * j)) ∧ (∀ j : Nat, j < 6 → I' 236 (19 + 4 * j) = if VPR v0 v1 v2 v3 ∧ (j : Int) = v0 then v3 else I 236 (19 + 4 * j))) → Q (some (vi r)) F I') : CallN G (d + 2) kX12_prove [vr 235, vi v0, vi v1, vi v2, vi v3] NP F I Q := by
  refine CallN_in (fun hok hA => CallN_out ?_)
  have iv0 : -2147483648 ≤ v0 ∧ v0 < 2147483648 := hok (vi v0) (by simp)
  have iv1 : -2147483648 ≤ v1 ∧ v1 < 2147483648 := hok (vi v1) (by simp)
  have iv2 : -2147483648 ≤ v2 ∧ v2 < 2147483648 := hok (vi v2) (by simp)
  have iv3 : -2147483648 ≤ v3 ∧ v3 < 2147483648 := hok (vi v3) (by simp)
  have tq := td100 v2
  refine Call_wp (lv := [some (vr 235), some (vi v0), some (vi v1), some (vi v2), some (vi v3), none]) (by decide) ckX12_prove [] rfl rfl ?_
  refine s_X12_within (fun (w1 : ((1 : Int) ≤ v0 ∧ (v0 : Int) ≤ 5)) => ?_) (fun (w1 : ¬ ((1 : Int) ≤ v0 ∧ (v0 : Int) ≤ 5)) => ?_)
  ·
    refine ⟨fun c => absurd c (show (¬ ((1 : Int) = 0)) from by decide), fun _ => ?_⟩
    refine s_X12_isMeter (fun (w2 : ((0 : Int) ≤ v1 ∧ (v1 : Int) ≤ 5)) => ?_) (fun (w2 : ¬ ((0 : Int) ≤ v1 ∧ (v1 : Int) ≤ 5)) => ?_)
    ·
      refine ⟨fun c => absurd c (show (¬ ((1 : Int) = 0)) from by decide), fun _ => ?_⟩
      refine s_X12_within (fun (w3 : ((101 : Int) ≤ v2 ∧ (v2 : Int) ≤ 9999)) => ?_) (fun (w3 : ¬ ((101 : Int) ≤ v2 ∧ (v2 : Int) ≤ 9999)) => ?_)
      ·
        refine ⟨fun c => absurd c (show (¬ ((1 : Int) = 0)) from by decide), fun _ => ?_⟩
        refine ⟨(by decide), ?_⟩
        have n4 : (Int.tmod v2 100) = (v2 : Int) % 100 := Int.tmod_eq_emod_of_nonneg (by omega)
        refine ⟨fun (c5 : (((Int.tmod v2 100) : Int) ≤ 0)) => ?_, fun (c5 : (¬ (((Int.tmod v2 100) : Int) ≤ 0))) => ?_⟩
        ·
          refine ⟨fun c => absurd (show ((0 : Int) = 0) from by decide) c, fun _ => ?_⟩
          refine ⟨⟨_, rfl, (by decide)⟩, ?_⟩
          refine s_X12_finding hF (v := (-1000001)) (by decide) ?_
          exact ⟨rfl, fun hv hA' => hQ _ _ (Rg.u hR (Pr_f rfl)) hA' (hv _ rfl) (fun ka ja hk => (uI_o (show ¬ (ka = 238 ∧ ja = 1) from by first | (intro e; obtain ⟨rfl, rfl⟩ := e; exact hk (by decide)) | omega))) (⟨fun j hj => (uI_o (fun e => absurd e.1 (by decide))).trans (if_neg (fun h => absurd h.1 (by unfold VPR; omega))).symm, fun j hj => (uI_o (fun e => absurd e.1 (by decide))).trans (if_neg (fun h => absurd h.1 (by unfold VPR; omega))).symm, fun j hj => (uI_o (fun e => absurd e.1 (by decide))).trans (if_neg (fun h => absurd h.1 (by unfold VPR; omega))).symm, fun j hj => (uI_o (fun e => absurd e.1 (by decide))).trans (if_neg (fun h => absurd h.1 (by unfold VPR; omega))).symm⟩)⟩
        ·
          refine s_X12_within (fun (w6 : ((0 : Int) ≤ v3 ∧ (v3 : Int) ≤ 99)) => ?_) (fun (w6 : ¬ ((0 : Int) ≤ v3 ∧ (v3 : Int) ≤ 99)) => ?_)
          ·
            refine ⟨fun c => absurd c (show (¬ ((1 : Int) = 0)) from by decide), fun _ => ?_⟩
            refine ⟨fun _ => ?_, fun c => absurd c (show (¬ (1 : Int) = 0) from by decide)⟩
            refine ⟨fun (c7 : ((v1 : Int) < v0)) => ?_, fun (c7 : (¬ ((v1 : Int) < v0))) => ?_⟩
            ·
              refine ⟨_, rfl, (by decide), ?_⟩
              refine fun w0 hw0 => ?_; obtain rfl : w0 = some 236 := hw0.symm.trans (FS.g hF rfl)
              have n8 : (wr (4 * v0)) = 4 * v0 := wr_id (show -2147483648 ≤ (4 * v0 : Int) ∧ (4 * v0 : Int) < 2147483648 from by omega)
              have n9 : (wr (16 + (wr (4 * v0)))) = 16 + (wr (4 * v0)) := wr_id (show -2147483648 ≤ (16 + (wr (4 * v0)) : Int) ∧ (16 + (wr (4 * v0)) : Int) < 2147483648 from by omega)
              refine ⟨_, rfl, (by decide), (show (0 : Int) ≤ (wr (16 + (wr (4 * v0)))) from by first | with_reducible assumption | omega | (simp only [wr, wl] at *; omega)), (show (wr (16 + (wr (4 * v0)))) < (1340 : Int) from by first | with_reducible assumption | omega | (simp only [wr, wl] at *; omega)), ?_⟩
              have p10 : Pn (Int.toNat (wr (16 + (wr (4 * v0))))) v1 := by apply Pn_w <;> omega
              refine ⟨_, rfl, (by decide), ?_⟩
              refine fun w0 hw0 => ?_; obtain rfl : w0 = some 236 := hw0.symm.trans (FS.g hF rfl)
              refine ⟨(by decide), ?_⟩
              have n11 : (wr ((wr (16 + (wr (4 * v0)))) + 1)) = (wr (16 + (wr (4 * v0)))) + 1 := wr_id (show -2147483648 ≤ ((wr (16 + (wr (4 * v0)))) + 1 : Int) ∧ ((wr (16 + (wr (4 * v0)))) + 1 : Int) < 2147483648 from by omega)
              refine ⟨_, rfl, (by decide), (show (0 : Int) ≤ (wr ((wr (16 + (wr (4 * v0)))) + 1)) from by first | with_reducible assumption | omega | (simp only [wr, wl] at *; omega)), (show (wr ((wr (16 + (wr (4 * v0)))) + 1)) < (1340 : Int) from by first | with_reducible assumption | omega | (simp only [wr, wl] at *; omega)), ?_⟩
              have n12 : (Int.tdiv v2 100) = (v2 : Int) / 100 := Int.tdiv_eq_ediv_of_nonneg (by omega)
              have n13 : (wr (Int.tdiv v2 100)) = (Int.tdiv v2 100) := wr_id (show -2147483648 ≤ ((Int.tdiv v2 100) : Int) ∧ ((Int.tdiv v2 100) : Int) < 2147483648 from by omega)
              have p14 : Pn (Int.toNat (wr ((wr (16 + (wr (4 * v0)))) + 1))) (wr (Int.tdiv v2 100)) := by apply Pn_w <;> omega
              refine ⟨_, rfl, (by decide), ?_⟩
              refine fun w0 hw0 => ?_; obtain rfl : w0 = some 236 := hw0.symm.trans (FS.g hF rfl)
              refine ⟨(by decide), ?_⟩
              have n15 : (wr ((wr (16 + (wr (4 * v0)))) + 2)) = (wr (16 + (wr (4 * v0)))) + 2 := wr_id (show -2147483648 ≤ ((wr (16 + (wr (4 * v0)))) + 2 : Int) ∧ ((wr (16 + (wr (4 * v0)))) + 2 : Int) < 2147483648 from by omega)
              refine ⟨_, rfl, (by decide), (show (0 : Int) ≤ (wr ((wr (16 + (wr (4 * v0)))) + 2)) from by first | with_reducible assumption | omega | (simp only [wr, wl] at *; omega)), (show (wr ((wr (16 + (wr (4 * v0)))) + 2)) < (1340 : Int) from by first | with_reducible assumption | omega | (simp only [wr, wl] at *; omega)), ?_⟩
              have p16 : Pn (Int.toNat (wr ((wr (16 + (wr (4 * v0)))) + 2))) (Int.tmod v2 100) := by apply Pn_w <;> omega
              refine ⟨_, rfl, (by decide), ?_⟩
              refine fun w0 hw0 => ?_; obtain rfl : w0 = some 236 := hw0.symm.trans (FS.g hF rfl)
              have n17 : (wr ((wr (16 + (wr (4 * v0)))) + 3)) = (wr (16 + (wr (4 * v0)))) + 3 := wr_id (show -2147483648 ≤ ((wr (16 + (wr (4 * v0)))) + 3 : Int) ∧ ((wr (16 + (wr (4 * v0)))) + 3 : Int) < 2147483648 from by omega)
              refine ⟨_, rfl, (by decide), (show (0 : Int) ≤ (wr ((wr (16 + (wr (4 * v0)))) + 3)) from by first | with_reducible assumption | omega | (simp only [wr, wl] at *; omega)), (show (wr ((wr (16 + (wr (4 * v0)))) + 3)) < (1340 : Int) from by first | with_reducible assumption | omega | (simp only [wr, wl] at *; omega)), ?_⟩
              have p18 : Pn (Int.toNat (wr ((wr (16 + (wr (4 * v0)))) + 3))) v3 := by apply Pn_w <;> omega
              exact ⟨rfl, fun hv hA' => hQ _ _ (Rg.u (Rg.u (Rg.u (Rg.u hR (Pr_n p10)) (Pr_n p14)) (Pr_n p16)) (Pr_n p18)) hA' (hv _ rfl) (fun ka ja hk => ((uI_o (show ¬ (ka = 236 ∧ ja = (Int.toNat (wr ((wr (16 + (wr (4 * v0)))) + 3)))) from by omega))).trans (((uI_o (show ¬ (ka = 236 ∧ ja = (Int.toNat (wr ((wr (16 + (wr (4 * v0)))) + 2)))) from by omega))).trans (((uI_o (show ¬ (ka = 236 ∧ ja = (Int.toNat (wr ((wr (16 + (wr (4 * v0)))) + 1)))) from by omega))).trans ((uI_o (show ¬ (ka = 236 ∧ ja = (Int.toNat (wr (16 + (wr (4 * v0)))))) from by omega)))))) (⟨fun j hj => (by
                              by_cases e : (j : Int) = v0
                              · rw [if_pos ⟨show VPR v0 v1 v2 v3 from by unfold VPR; omega, e⟩]
                                exact (uJ_ne (by omega)).trans ((uJ_ne (by omega)).trans ((uJ_ne (by omega)).trans ((uJ_eqi (by omega)).trans (show v1 = v1 from by omega))))
                              · rw [if_neg (fun h => e h.2)]
                                exact (uJ_ne (by omega)).trans ((uJ_ne (by omega)).trans ((uJ_ne (by omega)).trans (uJ_ne (by omega))))), fun j hj => (by
                              by_cases e : (j : Int) = v0
                              · rw [if_pos ⟨show VPR v0 v1 v2 v3 from by unfold VPR; omega, e⟩]
                                exact (uJ_ne (by omega)).trans ((uJ_ne (by omega)).trans ((uJ_eqi (by omega)).trans (show (wr (Int.tdiv v2 100)) = v2 / 100 from by omega)))
                              · rw [if_neg (fun h => e h.2)]
                                exact (uJ_ne (by omega)).trans ((uJ_ne (by omega)).trans ((uJ_ne (by omega)).trans (uJ_ne (by omega))))), fun j hj => (by
                              by_cases e : (j : Int) = v0
                              · rw [if_pos ⟨show VPR v0 v1 v2 v3 from by unfold VPR; omega, e⟩]
                                exact (uJ_ne (by omega)).trans ((uJ_eqi (by omega)).trans (show (Int.tmod v2 100) = v2 % 100 from by omega))
                              · rw [if_neg (fun h => e h.2)]
                                exact (uJ_ne (by omega)).trans ((uJ_ne (by omega)).trans ((uJ_ne (by omega)).trans (uJ_ne (by omega))))), fun j hj => (by
                              by_cases e : (j : Int) = v0
                              · rw [if_pos ⟨show VPR v0 v1 v2 v3 from by unfold VPR; omega, e⟩]
                                exact (uJ_eqi (by omega)).trans (show v3 = v3 from by omega)
                              · rw [if_neg (fun h => e h.2)]
                                exact (uJ_ne (by omega)).trans ((uJ_ne (by omega)).trans ((uJ_ne (by omega)).trans (uJ_ne (by omega)))))⟩)⟩
            ·
              refine ⟨⟨_, rfl, (by decide)⟩, ?_⟩
              refine s_X12_finding hF (v := (-1000003)) (by decide) ?_
              exact ⟨rfl, fun hv hA' => hQ _ _ (Rg.u hR (Pr_f rfl)) hA' (hv _ rfl) (fun ka ja hk => (uI_o (show ¬ (ka = 238 ∧ ja = 3) from by first | (intro e; obtain ⟨rfl, rfl⟩ := e; exact hk (by decide)) | omega))) (⟨fun j hj => (uI_o (fun e => absurd e.1 (by decide))).trans (if_neg (fun h => absurd h.1 (by unfold VPR; omega))).symm, fun j hj => (uI_o (fun e => absurd e.1 (by decide))).trans (if_neg (fun h => absurd h.1 (by unfold VPR; omega))).symm, fun j hj => (uI_o (fun e => absurd e.1 (by decide))).trans (if_neg (fun h => absurd h.1 (by unfold VPR; omega))).symm, fun j hj => (uI_o (fun e => absurd e.1 (by decide))).trans (if_neg (fun h => absurd h.1 (by unfold VPR; omega))).symm⟩)⟩
          ·
            refine ⟨fun _ => ?_, fun c => absurd (show ((0 : Int) = 0) from by decide) c⟩
            refine ⟨fun c => absurd (show ((0 : Int) = 0) from by decide) c, fun _ => ?_⟩
            refine ⟨⟨_, rfl, (by decide)⟩, ?_⟩
            refine s_X12_finding hF (v := (-1000001)) (by decide) ?_
            exact ⟨rfl, fun hv hA' => hQ _ _ (Rg.u hR (Pr_f rfl)) hA' (hv _ rfl) (fun ka ja hk => (uI_o (show ¬ (ka = 238 ∧ ja = 1) from by first | (intro e; obtain ⟨rfl, rfl⟩ := e; exact hk (by decide)) | omega))) (⟨fun j hj => (uI_o (fun e => absurd e.1 (by decide))).trans (if_neg (fun h => absurd h.1 (by unfold VPR; omega))).symm, fun j hj => (uI_o (fun e => absurd e.1 (by decide))).trans (if_neg (fun h => absurd h.1 (by unfold VPR; omega))).symm, fun j hj => (uI_o (fun e => absurd e.1 (by decide))).trans (if_neg (fun h => absurd h.1 (by unfold VPR; omega))).symm, fun j hj => (uI_o (fun e => absurd e.1 (by decide))).trans (if_neg (fun h => absurd h.1 (by unfold VPR; omega))).symm⟩)⟩
      ·
        refine ⟨fun _ => ?_, fun c => absurd (show ((0 : Int) = 0) from by decide) c⟩
        refine ⟨fun c => absurd (show ((0 : Int) = 0) from by decide) c, fun _ => ?_⟩
        refine ⟨⟨_, rfl, (by decide)⟩, ?_⟩
        refine s_X12_finding hF (v := (-1000001)) (by decide) ?_
        exact ⟨rfl, fun hv hA' => hQ _ _ (Rg.u hR (Pr_f rfl)) hA' (hv _ rfl) (fun ka ja hk => (uI_o (show ¬ (ka = 238 ∧ ja = 1) from by first | (intro e; obtain ⟨rfl, rfl⟩ := e; exact hk (by decide)) | omega))) (⟨fun j hj => (uI_o (fun e => absurd e.1 (by decide))).trans (if_neg (fun h => absurd h.1 (by unfold VPR; omega))).symm, fun j hj => (uI_o (fun e => absurd e.1 (by decide))).trans (if_neg (fun h => absurd h.1 (by unfold VPR; omega))).symm, fun j hj => (uI_o (fun e => absurd e.1 (by decide))).trans (if_neg (fun h => absurd h.1 (by unfold VPR; omega))).symm, fun j hj => (uI_o (fun e => absurd e.1 (by decide))).trans (if_neg (fun h => absurd h.1 (by unfold VPR; omega))).symm⟩)⟩
    ·
      refine ⟨fun _ => ?_, fun c => absurd (show ((0 : Int) = 0) from by decide) c⟩
      refine ⟨fun c => absurd (show ((0 : Int) = 0) from by decide) c, fun _ => ?_⟩
      refine ⟨⟨_, rfl, (by decide)⟩, ?_⟩
      refine s_X12_finding hF (v := (-1000001)) (by decide) ?_
      exact ⟨rfl, fun hv hA' => hQ _ _ (Rg.u hR (Pr_f rfl)) hA' (hv _ rfl) (fun ka ja hk => (uI_o (show ¬ (ka = 238 ∧ ja = 1) from by first | (intro e; obtain ⟨rfl, rfl⟩ := e; exact hk (by decide)) | omega))) (⟨fun j hj => (uI_o (fun e => absurd e.1 (by decide))).trans (if_neg (fun h => absurd h.1 (by unfold VPR; omega))).symm, fun j hj => (uI_o (fun e => absurd e.1 (by decide))).trans (if_neg (fun h => absurd h.1 (by unfold VPR; omega))).symm, fun j hj => (uI_o (fun e => absurd e.1 (by decide))).trans (if_neg (fun h => absurd h.1 (by unfold VPR; omega))).symm, fun j hj => (uI_o (fun e => absurd e.1 (by decide))).trans (if_neg (fun h => absurd h.1 (by unfold VPR; omega))).symm⟩)⟩
  ·
    refine ⟨fun _ => ?_, fun c => absurd (show ((0 : Int) = 0) from by decide) c⟩
    refine ⟨fun c => absurd (show ((0 : Int) = 0) from by decide) c, fun _ => ?_⟩
    refine ⟨⟨_, rfl, (by decide)⟩, ?_⟩
    refine s_X12_finding hF (v := (-1000001)) (by decide) ?_
    exact ⟨rfl, fun hv hA' => hQ _ _ (Rg.u hR (Pr_f rfl)) hA' (hv _ rfl) (fun ka ja hk => (uI_o (show ¬ (ka = 238 ∧ ja = 1) from by first | (intro e; obtain ⟨rfl, rfl⟩ := e; exact hk (by decide)) | omega))) (⟨fun j hj => (uI_o (fun e => absurd e.1 (by decide))).trans (if_neg (fun h => absurd h.1 (by unfold VPR; omega))).symm, fun j hj => (uI_o (fun e => absurd e.1 (by decide))).trans (if_neg (fun h => absurd h.1 (by unfold VPR; omega))).symm, fun j hj => (uI_o (fun e => absurd e.1 (by decide))).trans (if_neg (fun h => absurd h.1 (by unfold VPR; omega))).symm, fun j hj => (uI_o (fun e => absurd e.1 (by decide))).trans (if_neg (fun h => absurd h.1 (by unfold VPR; omega))).symm⟩)⟩
end LD
