/-! what both sides keep alike, part by part; images. Own work (scripts laid by wip/pm/gen34.py). -/
section SL
variable {G : pG} {d : Nat} {F : pF} {I : pI} {Q : Option pV → pF → pI → Prop}
def LI (I : pI) : Prop := I 0 2 = I 235 2
theorem CP_u {J I : pI} {v : Int} (h : CP 102 1 J I) : CP 102 1 (uI J 0 2 v) I := by
  obtain ⟨h0, h1, h2, h3, h4, h5, h6, h7, h8, h9, h10, h11, h12, h13⟩ := h
  exact ⟨fun j hj => (uI_o (fun e => absurd e.1 (by decide))).trans (h0 j hj), fun j hj => (uI_o (fun e => absurd e.1 (by decide))).trans (h1 j hj), fun j hj => (uI_o (fun e => absurd e.1 (by decide))).trans (h2 j hj), fun j hj => (uI_o (fun e => absurd e.1 (by decide))).trans (h3 j hj), fun j hj => (uI_o (fun e => absurd e.1 (by decide))).trans (h4 j hj), fun j hj => (uI_o (fun e => absurd e.1 (by decide))).trans (h5 j hj), fun j hj => (uI_o (fun e => absurd e.1 (by decide))).trans (h6 j hj), fun j hj => (uI_o (fun e => absurd e.1 (by decide))).trans (h7 j hj), fun j hj => (uI_o (fun e => absurd e.1 (by decide))).trans (h8 j hj), fun j hj => (uI_o (fun e => absurd e.1 (by decide))).trans (h9 j hj), fun j hj => (uI_o (fun e => absurd e.1 (by decide))).trans (h10 j hj), fun j hj => (uI_o (fun e => absurd e.1 (by decide))).trans (h11 j hj), fun j hj => (uI_o (fun e => absurd e.1 (by decide))).trans (h12 j hj), fun j hj => (uI_o (fun e => absurd e.1 (by decide))).trans (h13 j hj)⟩
theorem c_image2 (hF : FS F) (hR : Rg I)  (hQ : ∀ (r : Int) (I' : pI), Rg I' → AR I' → iR r → (∀ k j, ¬ (k = 203 ∨ (102 ≤ k ∧ k < 203) ∨ (k = 0 ∧ (j = 2))) → I' k j = I k j) → (r = wr ((I 0 2) + 1)) → ((I' 0 2) = wr ((I 0 2) + 1)) → ((I' 102 1) = (I 1 1)) → ((I' 102 5) = (I 1 5)) → ((I' 102 7) = (I 1 7)) → ((I' 102 11) = (I 1 11)) → ((I' 113 6) = (I 12 6)) → (CP 102 1 I' I) → Q (some (vi r)) F I') : CallN G (d + 4) kX11_image [vr 0] NP F I Q := by
  refine CallN_in (fun hok hA => CallN_out ?_)
  refine Call_wp (lv := [some (vr 0)]) (by decide) ckX11_image [] rfl rfl ?_
  refine ⟨_, rfl, (by decide), ?_⟩
  refine fun w0 hw0 => ?_; obtain rfl : w0 = some 102 := hw0.symm.trans (FS.g hF rfl)
  refine ⟨_, rfl, (by decide), ?_⟩
  refine fun w0 hw0 => ?_; obtain rfl : w0 = some 1 := hw0.symm.trans (FS.g hF rfl)
  refine ⟨⟨_, rfl, (by decide)⟩, ?_⟩
  refine c_scopy102  hF hR (fun I1 hR2 hA3 hW4 q5 q6 q7 q8 q9 qr10 => ?_)
  have a11 : -2147483648 ≤ (I 1 1) ∧ (I 1 1) < 2147483648 := hA.1 _ _
  have q5 : (I1 102 1) = (I 1 1) := q5
  have a12 : -2147483648 ≤ (I 1 5) ∧ (I 1 5) < 2147483648 := hA.1 _ _
  have q6 : (I1 102 5) = (I 1 5) := q6
  have r13 : 0 ≤ (I 1 7) ∧ (I 1 7) ≤ 1 := hR.b (c := 8) (m := 12) rfl (by decide) ⟨by decide, by decide⟩
  have a14 : -2147483648 ≤ (I 1 7) ∧ (I 1 7) < 2147483648 := hA.1 _ _
  have q7 : (I1 102 7) = (I 1 7) := q7
  have a15 : -2147483648 ≤ (I 1 11) ∧ (I 1 11) < 2147483648 := hA.1 _ _
  have q8 : (I1 102 11) = (I 1 11) := q8
  have a16 : -2147483648 ≤ (I 12 6) ∧ (I 12 6) < 2147483648 := hA.1 _ _
  have q9 : (I1 113 6) = (I 12 6) := q9
  refine ⟨_, rfl, (by decide), ?_⟩
  have u17 : (I1 0 2) = (I 0 2) := hW4 _ _ (by first | omega | decide)
  have a18 : -2147483648 ≤ (I 0 2) ∧ (I 0 2) < 2147483648 := hA.1 _ _
  have a19 : -2147483648 ≤ (I1 0 2) ∧ (I1 0 2) < 2147483648 := hA3.1 _ _
  refine ⟨_, rfl, (by decide), ?_⟩
  refine ⟨_, rfl, (by decide), ?_⟩
  have n20 : -2147483648 ≤ (wr ((I1 0 2) + 1)) ∧ (wr ((I1 0 2) + 1)) < 2147483648 := wr_R _
  have a21 : -2147483648 ≤ (I1 102 1) ∧ (I1 102 1) < 2147483648 := hA3.1 _ _
  have a22 : -2147483648 ≤ (I1 102 5) ∧ (I1 102 5) < 2147483648 := hA3.1 _ _
  have r23 : 0 ≤ (I1 102 7) ∧ (I1 102 7) ≤ 1 := hR2.b (c := 8) (m := 12) rfl (by decide) ⟨by decide, by decide⟩
  have a24 : -2147483648 ≤ (I1 102 7) ∧ (I1 102 7) < 2147483648 := hA3.1 _ _
  have a25 : -2147483648 ≤ (I1 102 11) ∧ (I1 102 11) < 2147483648 := hA3.1 _ _
  have a26 : -2147483648 ≤ (I1 113 6) ∧ (I1 113 6) < 2147483648 := hA3.1 _ _
  exact ⟨rfl, fun hv hA' => hQ _ _ (Rg.u hR2 (Pr_f rfl)) hA' (hv _ rfl) (fun ka ja hk => ((uI_o (show ¬ (ka = 0 ∧ ja = 2) from by omega))).trans ((hW4 ka ja (by omega)))) (show (wr ((I1 0 2) + 1)) = wr ((I 0 2) + 1) from by first | omega | (simp only [wr, wl] at *; omega)) (show (wr ((I1 0 2) + 1)) = wr ((I 0 2) + 1) from by first | omega | (simp only [wr, wl] at *; omega)) (show (I1 102 1) = (I 1 1) from by first | omega | (simp only [wr, wl] at *; omega)) (show (I1 102 5) = (I 1 5) from by first | omega | (simp only [wr, wl] at *; omega)) (show (I1 102 7) = (I 1 7) from by first | omega | (simp only [wr, wl] at *; omega)) (show (I1 102 11) = (I 1 11) from by first | omega | (simp only [wr, wl] at *; omega)) (show (I1 113 6) = (I 12 6) from by first | omega | (simp only [wr, wl] at *; omega)) (CP_u qr10)⟩
theorem c_restore2 (hF : FS F) (hR : Rg I)  (hQ : ∀ (r : Int) (I' : pI), Rg I' → AR I' → iR r → (∀ k j, ¬ (k = 203 ∨ (1 ≤ k ∧ k < 102)) → I' k j = I k j) → (¬ (I 0 2) = 0 → (I' 1 1) = (I 102 1)) → (¬ (I 0 2) = 0 → (I' 1 5) = (I 102 5)) → (¬ (I 0 2) = 0 → (I' 1 7) = (I 102 7)) → (¬ (I 0 2) = 0 → (I' 1 11) = (I 102 11)) → (¬ (I 0 2) = 0 → (I' 12 6) = (I 113 6)) → (¬ (I 0 2) = 0 → r = (I 102 1)) → ((I 0 2) = 0 → r = -1000002) → ((I 0 2 = 0 → ∀ k j, k ≠ 203 → I' k j = I k j) ∧ (¬ I 0 2 = 0 → CP 1 102 I' I)) → Q (some (vi r)) F I') : CallN G (d + 4) kX11_restore [vr 0] NP F I Q := by
  refine CallN_in (fun hok hA => CallN_out ?_)
  refine Call_wp (lv := [some (vr 0)]) (by decide) ckX11_restore [] rfl rfl ?_
  refine ⟨_, rfl, (by decide), ?_⟩
  have a1 : -2147483648 ≤ (I 0 2) ∧ (I 0 2) < 2147483648 := hA.1 _ _
  refine ⟨fun (c2 : (¬ ((I 0 2) : Int) = 0)) => ?_, fun (c2 : (((I 0 2) : Int) = 0)) => ?_⟩
  ·
    refine ⟨_, rfl, (by decide), ?_⟩
    refine fun w0 hw0 => ?_; obtain rfl : w0 = some 1 := hw0.symm.trans (FS.g hF rfl)
    refine ⟨_, rfl, (by decide), ?_⟩
    refine fun w0 hw0 => ?_; obtain rfl : w0 = some 102 := hw0.symm.trans (FS.g hF rfl)
    refine ⟨⟨_, rfl, (by decide)⟩, ?_⟩
    refine c_scopy1  hF hR (fun I3 hR4 hA5 hW6 q7 q8 q9 q10 q11 qr12 => ?_)
    have a13 : -2147483648 ≤ (I 102 1) ∧ (I 102 1) < 2147483648 := hA.1 _ _
    have q7 : (I3 1 1) = (I 102 1) := q7
    have a14 : -2147483648 ≤ (I 102 5) ∧ (I 102 5) < 2147483648 := hA.1 _ _
    have q8 : (I3 1 5) = (I 102 5) := q8
    have r15 : 0 ≤ (I 102 7) ∧ (I 102 7) ≤ 1 := hR.b (c := 8) (m := 12) rfl (by decide) ⟨by decide, by decide⟩
    have a16 : -2147483648 ≤ (I 102 7) ∧ (I 102 7) < 2147483648 := hA.1 _ _
    have q9 : (I3 1 7) = (I 102 7) := q9
    have a17 : -2147483648 ≤ (I 102 11) ∧ (I 102 11) < 2147483648 := hA.1 _ _
    have q10 : (I3 1 11) = (I 102 11) := q10
    have a18 : -2147483648 ≤ (I 113 6) ∧ (I 113 6) < 2147483648 := hA.1 _ _
    have q11 : (I3 12 6) = (I 113 6) := q11
    refine ⟨_, rfl, (by decide), ?_⟩
    refine fun w0 hw0 => ?_; obtain rfl : w0 = some 1 := hw0.symm.trans (FS.g hF rfl)
    refine ⟨⟨_, rfl, (by decide)⟩, ?_⟩
    refine Call_wp (lv := [some (vr 1)]) (by decide) ckX8_pieces [] rfl rfl ?_
    refine ⟨_, rfl, (by decide), ?_⟩
    refine ⟨rfl, ?_⟩
    have a19 : -2147483648 ≤ (I3 1 1) ∧ (I3 1 1) < 2147483648 := hA5.1 _ _
    have a20 : -2147483648 ≤ (I3 1 5) ∧ (I3 1 5) < 2147483648 := hA5.1 _ _
    have r21 : 0 ≤ (I3 1 7) ∧ (I3 1 7) ≤ 1 := hR4.b (c := 8) (m := 12) rfl (by decide) ⟨by decide, by decide⟩
    have a22 : -2147483648 ≤ (I3 1 7) ∧ (I3 1 7) < 2147483648 := hA5.1 _ _
    have a23 : -2147483648 ≤ (I3 1 11) ∧ (I3 1 11) < 2147483648 := hA5.1 _ _
    have a24 : -2147483648 ≤ (I3 12 6) ∧ (I3 12 6) < 2147483648 := hA5.1 _ _
    exact ⟨rfl, fun hv hA' => hQ _ _ hR4 hA' (hv _ rfl) (fun ka ja hk => (hW6 ka ja (by omega))) (show ¬ (I 0 2) = 0 → (I3 1 1) = (I 102 1) from by first | omega | (simp only [wr, wl] at *; omega)) (show ¬ (I 0 2) = 0 → (I3 1 5) = (I 102 5) from by first | omega | (simp only [wr, wl] at *; omega)) (show ¬ (I 0 2) = 0 → (I3 1 7) = (I 102 7) from by first | omega | (simp only [wr, wl] at *; omega)) (show ¬ (I 0 2) = 0 → (I3 1 11) = (I 102 11) from by first | omega | (simp only [wr, wl] at *; omega)) (show ¬ (I 0 2) = 0 → (I3 12 6) = (I 113 6) from by first | omega | (simp only [wr, wl] at *; omega)) (show ¬ (I 0 2) = 0 → (I3 1 1) = (I 102 1) from by first | omega | (simp only [wr, wl] at *; omega)) (show (I 0 2) = 0 → (I3 1 1) = -1000002 from by first | omega | (simp only [wr, wl] at *; omega)) (⟨fun h => absurd h (by omega), fun _ => qr12⟩)⟩
  ·
    refine ⟨⟨_, rfl, (by decide)⟩, ?_⟩
    refine s_X11_refuse hF (e := 2) (by decide) ?_
    have a25 : -2147483648 ≤ (I 1 1) ∧ (I 1 1) < 2147483648 := hA.1 _ _
    have a26 : -2147483648 ≤ (I 102 1) ∧ (I 102 1) < 2147483648 := hA.1 _ _
    have a27 : -2147483648 ≤ (I 1 5) ∧ (I 1 5) < 2147483648 := hA.1 _ _
    have a28 : -2147483648 ≤ (I 102 5) ∧ (I 102 5) < 2147483648 := hA.1 _ _
    have r29 : 0 ≤ (I 1 7) ∧ (I 1 7) ≤ 1 := hR.b (c := 8) (m := 12) rfl (by decide) ⟨by decide, by decide⟩
    have a30 : -2147483648 ≤ (I 1 7) ∧ (I 1 7) < 2147483648 := hA.1 _ _
    have r31 : 0 ≤ (I 102 7) ∧ (I 102 7) ≤ 1 := hR.b (c := 8) (m := 12) rfl (by decide) ⟨by decide, by decide⟩
    have a32 : -2147483648 ≤ (I 102 7) ∧ (I 102 7) < 2147483648 := hA.1 _ _
    have a33 : -2147483648 ≤ (I 1 11) ∧ (I 1 11) < 2147483648 := hA.1 _ _
    have a34 : -2147483648 ≤ (I 102 11) ∧ (I 102 11) < 2147483648 := hA.1 _ _
    have a35 : -2147483648 ≤ (I 12 6) ∧ (I 12 6) < 2147483648 := hA.1 _ _
    have a36 : -2147483648 ≤ (I 113 6) ∧ (I 113 6) < 2147483648 := hA.1 _ _
    exact ⟨rfl, fun hv hA' => hQ _ _ (Rg.u hR (Pr_f rfl)) hA' (hv _ rfl) (fun ka ja hk => (uI_o (show ¬ (ka = 203 ∧ ja = 2) from by omega))) (show ¬ (I 0 2) = 0 → (I 1 1) = (I 102 1) from by first | omega | (simp only [wr, wl] at *; omega)) (show ¬ (I 0 2) = 0 → (I 1 5) = (I 102 5) from by first | omega | (simp only [wr, wl] at *; omega)) (show ¬ (I 0 2) = 0 → (I 1 7) = (I 102 7) from by first | omega | (simp only [wr, wl] at *; omega)) (show ¬ (I 0 2) = 0 → (I 1 11) = (I 102 11) from by first | omega | (simp only [wr, wl] at *; omega)) (show ¬ (I 0 2) = 0 → (I 12 6) = (I 113 6) from by first | omega | (simp only [wr, wl] at *; omega)) (show ¬ (I 0 2) = 0 → (-1000002) = (I 102 1) from by first | omega | (simp only [wr, wl] at *; omega)) (show (I 0 2) = 0 → (-1000002) = -1000002 from by first | omega | (simp only [wr, wl] at *; omega)) (⟨fun _ ka ja hk => uI_o (fun e => hk e.1), fun h => absurd (by omega) h⟩)⟩
theorem r_image2 (hF : FS F) (hR : Rg I) (hQ : ∀ (r : Int) (I' : pI), Rg I' → AR I' → iR r → (∀ k j, ¬ (k = 237 ∨ (k = 235 ∧ j = 2)) → I' k j = I k j) → (∀ j, j < 1340 → I' 237 j = I 236 j) → r = wr ((I 235 2) + 1) → I' 235 2 = wr ((I 235 2) + 1) → Q (some (vi r)) F I') : CallN G (d + 1) kX12_image [vr 235] NP F I Q := by
  refine CallN_in (fun hok hA => CallN_out ?_)
  refine Call_wp (lv := [some (vr 235)]) (by decide) ckX12_image [] rfl rfl ?_
  refine ⟨_, rfl, (by decide), ?_⟩
  refine fun w0 hw0 => ?_; obtain rfl : w0 = some 236 := hw0.symm.trans (FS.g hF rfl)
  refine ⟨_, rfl, (by decide), ?_⟩
  refine fun w0 hw0 => ?_; obtain rfl : w0 = some 237 := hw0.symm.trans (FS.g hF rfl)
  refine r_copy237 hF (fun I1 g2 g3 => ?_)
  refine ⟨_, rfl, (by decide), ?_⟩
  have u4 : (I1 235 2) = (I 235 2) := g3 _ _ (by first | omega | decide)
  have a5 : -2147483648 ≤ (I 235 2) ∧ (I 235 2) < 2147483648 := hA.1 _ _
  refine ⟨_, rfl, (by decide), ?_⟩
  refine ⟨_, rfl, (by decide), ?_⟩
  exact ⟨rfl, fun hv hA' => hQ _ _ (Rg_image hR g2 g3) hA' (hv _ rfl) (fun k j hk => ((uI_o (by omega))).trans (g3 k j (by omega))) (fun j hj => (uI_o (fun e => absurd e.1 (by decide))).trans (g2 j hj)) (show (wr ((I1 235 2) + 1)) = wr ((I 235 2) + 1) from by first | omega | (simp only [wr, wl] at *; omega)) (show (wr ((I1 235 2) + 1)) = wr ((I 235 2) + 1) from by first | omega | (simp only [wr, wl] at *; omega))⟩
theorem r_restore2 (hF : FS F) (hR : Rg I) (hQ : ∀ (r : Int) (I' : pI), Rg I' → AR I' → iR r → (∀ k j, ¬ (k = 238 ∨ k = 236) → I' k j = I k j) → (I 235 2 = 0 → ∀ j, I' 236 j = I 236 j) → (¬ I 235 2 = 0 → ∀ j, j < 1340 → I' 236 j = I 237 j) → (I 235 2 = 0 → r = -1000002) → (¬ I 235 2 = 0 → r = I 237 0) → Q (some (vi r)) F I') : CallN G (d + 1) kX12_restore [vr 235] NP F I Q := by
  refine CallN_in (fun hok hA => CallN_out ?_)
  refine Call_wp (lv := [some (vr 235)]) (by decide) ckX12_restore [] rfl rfl ?_
  refine ⟨_, rfl, (by decide), ?_⟩
  have a1 : -2147483648 ≤ (I 235 2) ∧ (I 235 2) < 2147483648 := hA.1 _ _
  refine ⟨fun (c2 : (¬ ((I 235 2) : Int) = 0)) => ?_, fun (c2 : (((I 235 2) : Int) = 0)) => ?_⟩
  ·
    refine ⟨_, rfl, (by decide), ?_⟩
    refine fun w0 hw0 => ?_; obtain rfl : w0 = some 237 := hw0.symm.trans (FS.g hF rfl)
    refine ⟨_, rfl, (by decide), ?_⟩
    refine fun w0 hw0 => ?_; obtain rfl : w0 = some 236 := hw0.symm.trans (FS.g hF rfl)
    refine r_copy236 hF (fun I3 g4 g5 => ?_)
    refine ⟨_, rfl, (by decide), ?_⟩
    refine fun w0 hw0 => ?_; obtain rfl : w0 = some 236 := hw0.symm.trans (FS.g hF rfl)
    refine ⟨_, rfl, (by decide), (by decide), (by decide), ?_⟩
    exact ⟨rfl, fun hv hA' => hQ _ _ (Rg_restore hR (by omega) g4 g5) hA' (hv _ rfl) (fun k j hk => (g5 k j (by omega))) (fun h => absurd h (by omega)) (fun _ j hj => g4 j hj) (fun h => absurd h (by omega)) (fun _ => g4 0 (by decide))⟩
  ·
    refine ⟨⟨_, rfl, (by decide)⟩, ?_⟩
    refine s_X12_finding hF (v := (-1000002)) (by decide) ?_
    exact ⟨rfl, fun hv hA' => hQ _ _ (Rg.u hR (Pr_f rfl)) hA' (hv _ rfl) (fun ka ja hk => (uI_o (show ¬ (ka = 238 ∧ ja = 2) from by omega))) (fun _ j => uI_o (fun e => absurd e.1 (by decide))) (fun h => absurd (by omega) h) (fun _ => rfl) (fun h => absurd (by omega) h)⟩
end SL
