/-! what the reference makes of a text's parts. Own work (scripts laid by wip/pm/gen34.py). -/
section RP9
variable {G : pG} {d : Nat} {F : pF} {I : pI} {Q : Option pV → pF → pI → Prop}
theorem r_part9 (hF : FS F) (hR : Rg I) {tt : Int → Int} {nn : Int} (hl : I 236 2 = nn) (ht : TXT tt nn (fun j => I 236 (1228 + j))) (h1 : I 235 6 ≤ I 235 7) (h2 : I 235 7 ≤ I 236 2) (h3 : I 235 6 < I 236 2 → I 235 6 < I 235 7) (hw : I 235 8 = 0) (h4 : 0 ≤ I 235 9 ∧ I 235 9 ≤ 16) (hQ : ∀ (I' : pI), Rg I' → AR I' → (∀ k j, ¬ ((k = 235 ∧ (j = 6 ∨ j = 7 ∨ j = 8 ∨ j = 9)) ∨ k = 241) → I' k j = I k j) → ((I' 235 6) ≤ (I' 235 7)) → ((I' 235 7) ≤ (I 236 2)) → ((I' 235 6) < (I 236 2) → (I' 235 6) < (I' 235 7)) → ((I 235 6) ≤ (I' 235 6)) → ((I' 235 8) = 0 → (I' 235 9) = (I 235 9) + 1 ∧ (I 235 6) + 3 ≤ (I' 235 6)) → (¬ (I' 235 8) = 0 → (I' 235 9) = (I 235 9)) → ((I' 235 8) = 0 ∨ (I' 235 8) = 1) → ((I' 235 8 = 0 → pok tt nn (I 235 6) (I 235 7) ∧ I' 235 6 = peA tt nn (I 235 6) (I 235 7) ∧ I' 235 7 = peB tt nn (I 235 6) (I 235 7) ∧ (∀ j : Nat, ¬ j = 2 + 2 * (Int.toNat (I 235 9)) → ¬ j = 3 + 2 * (Int.toNat (I 235 9)) → I' 241 j = I 241 j) ∧ I' 241 (2 + 2 * (Int.toNat (I 235 9))) = aF tt (I 235 6) (I 235 7) ∧ I' 241 (3 + 2 * (Int.toNat (I 235 9))) = pam tt nn (I 235 6) (I 235 7)) ∧ (¬ I' 235 8 = 0 → ¬ pok tt nn (I 235 6) (I 235 7) ∧ I' 235 6 = pfl tt nn (I 235 6) (I 235 7) ∧ ∀ j : Nat, I' 241 j = I 241 j)) → Q none F I') : CallN G (d + 5) kX12_part [vr 235] NP F I Q := by
  refine CallN_in (fun hok hA => CallN_out ?_)
  have hn2 := ht.1
  have g2 := Rg.n2 hR
  refine Call_wp (lv := [some (vr 235), none, none]) (by decide) ckX12_part [] rfl rfl ?_
  refine ⟨fun c => absurd c (show (¬ ((5 : Int) < 0)) from by decide), fun _ => ?_⟩
  refine ⟨_, rfl, (by decide), ?_⟩
  refine fun w0 hw0 => ?_; obtain rfl : w0 = some 240 := hw0.symm.trans (FS.g hF rfl)
  refine ⟨_, _, (by decide), rfl, (by decide), (by decide), (by decide), ?_⟩
  refine fun w0 hw0 => ?_; obtain rfl : w0 = some 4115 := hw0.symm.trans (FS.g hF rfl)
  refine ⟨⟨_, rfl, (by decide)⟩, ?_⟩
  have r1 : 0 ≤ (I 235 6) ∧ (I 235 6) ≤ 64 := Rg.f6 hR
  have r3 : 0 ≤ (I 235 7) ∧ (I 235 7) ≤ 64 := Rg.f7 hR
  have r5 : 0 ≤ (I 236 2) ∧ (I 236 2) ≤ 64 := Rg.n2 hR
  have r7 : (I 235 8) = 0 := hw
  refine r_tk9_9 hF hR (hl) ht (show (I 235 6) ≤ (I 235 7) from by first | with_reducible assumption | omega | (simp only [wr, wl] at *; omega)) (show (I 235 7) ≤ (I 236 2) from by first | with_reducible assumption | omega | (simp only [wr, wl] at *; omega)) (show (I 235 6) < (I 236 2) → (I 235 6) < (I 235 7) from by first | with_reducible assumption | omega | (simp only [wr, wl] at *; omega)) (fun I8 h9 h10 h11 h12 h13 h14 h15 h16 h17 h18 h19 => ?_) (fun w20 => ?_)
  ·
    have h12 : (I 235 8) = 0 := h12
    have h13 : mkW1 tt (I 235 6) (I 235 7) := h13
    have h14 : (I 235 7) - (I 235 6) = 2 := h14
    have h15 : (I 235 6) + 2 ≤ (I8 235 6) := h15
    have h16 : (I8 235 6) ≤ (I8 235 7) := h16
    have h17 : (I8 235 7) ≤ (I 236 2) := h17
    have h18 : (I8 235 6) < (I 236 2) → (I8 235 6) < (I8 235 7) := h18
    refine ⟨fun _ => ?_, fun c => absurd c (show (¬ (1 : Int) = 0) from by decide)⟩
    refine ⟨_, rfl, (by decide), ?_⟩
    have u21 : (I8 235 8) = (I 235 8) := h11 _ _ (by first | decide | omega)
    have a22 : -2147483648 ≤ (I 235 8) ∧ (I 235 8) < 2147483648 := hA.1 _ _
    have a23 : -2147483648 ≤ (I8 235 8) ∧ (I8 235 8) < 2147483648 := h10.1 _ _
    refine ⟨fun c => absurd (show (((I8 235 8) : Int) = 0) from by first | omega | (simp only [wr, wl] at *; omega)) c, fun _ => ?_⟩
    refine ⟨fun _ => ?_, fun c => absurd (show ((0 : Int) ≤ 5) from by decide) c⟩
    refine ⟨_, rfl, (by decide), (by decide), ?_⟩
    refine ⟨_, rfl, (by decide), ?_⟩
    refine ⟨fun c => absurd (show ((0 : Int) = 0) from by decide) c, fun _ => ?_⟩
    refine ⟨fun _ => ?_, fun c => absurd c (show (¬ (0 : Int) = 4) from by decide)⟩
    refine ⟨⟨_, rfl, (by decide)⟩, ?_⟩
    have r24 : 0 ≤ (I8 235 6) ∧ (I8 235 6) ≤ 64 := Rg.f6 h9
    have r26 : 0 ≤ (I8 235 7) ∧ (I8 235 7) ≤ 64 := Rg.f7 h9
    have u28 : (I8 236 2) = (I 236 2) := h11 _ _ (by first | decide | omega)
    have a29 : -2147483648 ≤ (I8 236 2) ∧ (I8 236 2) < 2147483648 := h10.1 _ _
    have r30 : 0 ≤ (I8 236 2) ∧ (I8 236 2) ≤ 64 := Rg.n2 h9
    refine r_number9  hF (Rg.u h9 (Pr_f rfl)) (((uI_o (show ¬ (236 = 235 ∧ 2 = 8) from fun e => absurd e.1 (Nat.ne_of_beq_eq_false rfl))).trans (h11 236 2 (by first | decide | omega))).trans hl) (TXT_f ht (fun j => (uI_o (show ¬ (236 = 235 ∧ (1228 + j) = 8) from fun e => absurd e.1 (Nat.ne_of_beq_eq_false rfl))).trans (h11 236 (1228 + j) (by omega)))) (show (I8 235 6) ≤ (I8 235 7) from by first | with_reducible assumption | omega | (simp only [wr, wl] at *; omega)) (show (I8 235 7) ≤ (I8 236 2) from by first | with_reducible assumption | omega | (simp only [wr, wl] at *; omega)) (show (I8 235 6) < (I8 236 2) → (I8 235 6) < (I8 235 7) from by first | with_reducible assumption | omega | (simp only [wr, wl] at *; omega)) h19.2 (fun vr31 I32 hR33 hA34 hr36 hW35 q37 q38 q39 q40 q41 q42 q43 q44 q45 qr46 => ?_)
    have hr36 : -2147483648 ≤ vr31 ∧ vr31 < 2147483648 := hr36
    have q37 : vr31 ≤ 300000 := q37
    have q38 : (I32 235 6) ≤ (I32 235 7) := q38
    have q39 : (I32 235 7) ≤ (I8 236 2) := q39
    have q40 : (I32 235 6) < (I8 236 2) → (I32 235 6) < (I32 235 7) := q40
    have q41 : (I8 235 6) ≤ (I32 235 6) := q41
    have q42 : (I32 235 8) = 0 → (I8 235 6) + 1 ≤ (I32 235 6) := q42
    have q43 : (I32 235 8) = 0 ∨ (I32 235 8) = 1 := q43
    have q44 : ¬ (I32 235 8) = 0 → vr31 = 0 ∧ (I32 235 6) = (I8 235 6) ∧ (I32 235 7) = (I8 235 7) := q44
    have q45 : 0 ≤ vr31 := q45
    by_cases e47 : (I32 235 8) = 0
    ·
      refine ⟨_, rfl, (by decide), ?_⟩
      have a48 : -2147483648 ≤ (I32 235 8) ∧ (I32 235 8) < 2147483648 := hA34.1 _ _
      refine ⟨fun c => absurd (show (((I32 235 8) : Int) = 0) from by first | omega | (simp only [wr, wl] at *; omega)) c, fun _ => ?_⟩
      refine ⟨_, rfl, (by decide), ?_⟩
      refine fun w0 hw0 => ?_; obtain rfl : w0 = some 241 := hw0.symm.trans (FS.g hF rfl)
      refine ⟨_, rfl, (by decide), ?_⟩
      have r49 : 0 ≤ (I 235 9) ∧ (I 235 9) ≤ 17 := Rg.f9 hR
      have u50 : (I8 235 9) = (I 235 9) := h11 _ _ (by first | decide | omega)
      have a52 : -2147483648 ≤ (I8 235 9) ∧ (I8 235 9) < 2147483648 := h10.1 _ _
      have r53 : 0 ≤ (I8 235 9) ∧ (I8 235 9) ≤ 17 := Rg.f9 h9
      have u54 : (I32 235 9) = ((uI I8 235 8 0) 235 9) := hW35 _ _ (by first | decide | omega)
      have u55 : ((uI I8 235 8 0) 235 9) = (I8 235 9) := rfl
      have a56 : -2147483648 ≤ (I32 235 9) ∧ (I32 235 9) < 2147483648 := hA34.1 _ _
      have r57 : 0 ≤ (I32 235 9) ∧ (I32 235 9) ≤ 17 := Rg.f9 hR33
      have n58 : (wr (2 * (I32 235 9))) = 2 * (I32 235 9) := wr_id (show -2147483648 ≤ (2 * (I32 235 9) : Int) ∧ (2 * (I32 235 9) : Int) < 2147483648 from by omega)
      have n59 : (wr (2 + (wr (2 * (I32 235 9))))) = 2 + (wr (2 * (I32 235 9))) := wr_id (show -2147483648 ≤ (2 + (wr (2 * (I32 235 9))) : Int) ∧ (2 + (wr (2 * (I32 235 9))) : Int) < 2147483648 from by omega)
      refine ⟨_, rfl, (by decide), (show (0 : Int) ≤ (wr (2 + (wr (2 * (I32 235 9))))) from by first | with_reducible assumption | omega | (simp only [wr, wl] at *; omega)), (show (wr (2 + (wr (2 * (I32 235 9))))) < (36 : Int) from by first | with_reducible assumption | omega | (simp only [wr, wl] at *; omega)), ?_⟩
      have p60 : Pn (40 + (Int.toNat (wr (2 + (wr (2 * (I32 235 9))))))) 0 := by apply Pn_w <;> omega
      refine ⟨_, rfl, (by decide), ?_⟩
      refine fun w0 hw0 => ?_; obtain rfl : w0 = some 241 := hw0.symm.trans (FS.g hF rfl)
      refine ⟨_, rfl, (by decide), ?_⟩
      have n61 : (wr ((wr (2 + (wr (2 * (I32 235 9))))) + 1)) = (wr (2 + (wr (2 * (I32 235 9))))) + 1 := wr_id (show -2147483648 ≤ ((wr (2 + (wr (2 * (I32 235 9))))) + 1 : Int) ∧ ((wr (2 + (wr (2 * (I32 235 9))))) + 1 : Int) < 2147483648 from by omega)
      refine ⟨_, rfl, (by decide), (show (0 : Int) ≤ (wr ((wr (2 + (wr (2 * (I32 235 9))))) + 1)) from by first | with_reducible assumption | omega | (simp only [wr, wl] at *; omega)), (show (wr ((wr (2 + (wr (2 * (I32 235 9))))) + 1)) < (36 : Int) from by first | with_reducible assumption | omega | (simp only [wr, wl] at *; omega)), ?_⟩
      have p62 : Pn (40 + (Int.toNat (wr ((wr (2 + (wr (2 * (I32 235 9))))) + 1)))) vr31 := by apply Pn_w <;> omega
      refine ⟨_, rfl, (by decide), ?_⟩
      refine ⟨_, rfl, (by decide), ?_⟩
      have n63 : (wr ((I32 235 9) + 1)) = (I32 235 9) + 1 := wr_id (show -2147483648 ≤ ((I32 235 9) + 1 : Int) ∧ ((I32 235 9) + 1 : Int) < 2147483648 from by omega)
      have p64 : (0 : Int) ≤ (wr ((I32 235 9) + 1)) ∧ ((wr ((I32 235 9) + 1)) : Int) ≤ 17 := by first | omega | (simp only [wr, wl] at *; omega)
      have r65 : 0 ≤ (I32 235 6) ∧ (I32 235 6) ≤ 64 := Rg.f6 hR33
      have r67 : 0 ≤ (I32 235 7) ∧ (I32 235 7) ≤ 64 := Rg.f7 hR33
      exact ⟨rfl, fun hv hA' => hQ _ (Rg.u (Rg.u (Rg.u hR33 (Pr_r p60)) (Pr_r p62)) (Pr_x9 p64)) hA' (fun ka ja hk => ((uI_o (show ¬ (ka = 235 ∧ ja = 9) from by first | (intro e; obtain ⟨rfl, rfl⟩ := e; exact hk (by decide)) | omega))).trans (((uI_o (show ¬ (ka = 241 ∧ ja = (Int.toNat (wr ((wr (2 + (wr (2 * (I32 235 9))))) + 1)))) from by omega))).trans (((uI_o (show ¬ (ka = 241 ∧ ja = (Int.toNat (wr (2 + (wr (2 * (I32 235 9))))))) from by omega))).trans (((hW35 ka ja (by omega))).trans (((uI_o (show ¬ (ka = 235 ∧ ja = 8) from by first | (intro e; obtain ⟨rfl, rfl⟩ := e; exact hk (by decide)) | omega))).trans ((h11 ka ja (by omega)))))))) (show (I32 235 6) ≤ (I32 235 7) from by first | with_reducible assumption | omega | (simp only [wr, wl] at *; omega)) (show (I32 235 7) ≤ (I 236 2) from by first | with_reducible assumption | omega | (simp only [wr, wl] at *; omega)) (show (I32 235 6) < (I 236 2) → (I32 235 6) < (I32 235 7) from by first | with_reducible assumption | omega | (simp only [wr, wl] at *; omega)) (show (I 235 6) ≤ (I32 235 6) from by first | with_reducible assumption | omega | (simp only [wr, wl] at *; omega)) (show (I32 235 8) = 0 → (wr ((I32 235 9) + 1)) = (I 235 9) + 1 ∧ (I 235 6) + 3 ≤ (I32 235 6) from by first | with_reducible assumption | omega | (simp only [wr, wl] at *; omega)) (show ¬ (I32 235 8) = 0 → (wr ((I32 235 9) + 1)) = (I 235 9) from by first | with_reducible assumption | omega | (simp only [wr, wl] at *; omega)) (show (I32 235 8) = 0 ∨ (I32 235 8) = 1 from by first | omega | (simp only [wr, wl] at *; omega)) ((by
                              have ha := aF_1  h13
                              have e1 := Tok_n h19
                              have hn : nF tt (na tt nn (I 235 7)) (nb tt nn (I 235 7)) = vr31 := by rw [← e1.1, ← e1.2]; exact (qr46.1 e47).1
                              have e2 := Tok_n (show Tok tt nn (I8 235 7) _ _ from (qr46.1 e47).2)
                              rw [e1.2] at e2
                              refine ⟨fun _ => ⟨⟨by rw [ha]; decide, Or.inr (by rw [hn]; omega)⟩, ?_, ?_, fun j h1 h2 => (uI_o (show ¬ (241 = 235 ∧ j = 9) from fun e => absurd e.1 (Nat.ne_of_beq_eq_false rfl))).trans ((uJ_ne (show ¬ j = (Int.toNat (wr ((wr (2 + (wr (2 * (I32 235 9))))) + 1))) from by omega)).trans ((uJ_ne (show ¬ j = (Int.toNat (wr (2 + (wr (2 * (I32 235 9)))))) from by omega)).trans ((hW35 241 (j) (by omega)).trans ((uI_o (show ¬ (241 = 235 ∧ j = 8) from fun e => absurd e.1 (Nat.ne_of_beq_eq_false rfl))).trans (h11 241 (j) (by omega)))))), ?_, ?_⟩, fun z => absurd (show (I32 235 8) = 0 from e47) z⟩
                              · unfold peA; rw [if_neg (by rw [ha]; decide)]; exact ((uJ_ne (show ¬ 6 = 9 from Nat.ne_of_beq_eq_false rfl)).trans ((uI_o (show ¬ (235 = 241 ∧ 6 = (Int.toNat (wr ((wr (2 + (wr (2 * (I32 235 9))))) + 1)))) from fun e => absurd e.1 (Nat.ne_of_beq_eq_false rfl))).trans (uI_o (show ¬ (235 = 241 ∧ 6 = (Int.toNat (wr (2 + (wr (2 * (I32 235 9))))))) from fun e => absurd e.1 (Nat.ne_of_beq_eq_false rfl))))).trans e2.1
                              · unfold peB; rw [if_neg (by rw [ha]; decide)]; exact ((uJ_ne (show ¬ 7 = 9 from Nat.ne_of_beq_eq_false rfl)).trans ((uI_o (show ¬ (235 = 241 ∧ 7 = (Int.toNat (wr ((wr (2 + (wr (2 * (I32 235 9))))) + 1)))) from fun e => absurd e.1 (Nat.ne_of_beq_eq_false rfl))).trans (uI_o (show ¬ (235 = 241 ∧ 7 = (Int.toNat (wr (2 + (wr (2 * (I32 235 9))))))) from fun e => absurd e.1 (Nat.ne_of_beq_eq_false rfl))))).trans e2.2
                              · exact ((uI_o (show ¬ (241 = 235 ∧ (2 + 2 * (Int.toNat (I 235 9))) = 9) from fun e => absurd e.1 (Nat.ne_of_beq_eq_false rfl))).trans ((uJ_ne (show ¬ (2 + 2 * (Int.toNat (I 235 9))) = (Int.toNat (wr ((wr (2 + (wr (2 * (I32 235 9))))) + 1))) from by omega)).trans (uJ_eqj (show (2 + 2 * (Int.toNat (I 235 9))) = (Int.toNat (wr (2 + (wr (2 * (I32 235 9)))))) from by omega)))).trans ha.symm
                              · unfold pam; rw [if_neg (by rw [ha]; decide)]; exact ((uI_o (show ¬ (241 = 235 ∧ (3 + 2 * (Int.toNat (I 235 9))) = 9) from fun e => absurd e.1 (Nat.ne_of_beq_eq_false rfl))).trans (uJ_eqj (show (3 + 2 * (Int.toNat (I 235 9))) = (Int.toNat (wr ((wr (2 + (wr (2 * (I32 235 9))))) + 1))) from by omega))).trans hn.symm))⟩
    ·
      have e69 : (I32 235 8) = 1 := by omega
      refine ⟨_, rfl, (by decide), ?_⟩
      have a70 : -2147483648 ≤ (I32 235 8) ∧ (I32 235 8) < 2147483648 := hA34.1 _ _
      refine ⟨fun _ => ?_, fun c => absurd c (show (¬ ((I32 235 8) : Int) = 0) from by first | omega | (simp only [wr, wl] at *; omega))⟩
      have r71 : 0 ≤ (I32 235 6) ∧ (I32 235 6) ≤ 64 := Rg.f6 hR33
      have r73 : 0 ≤ (I32 235 7) ∧ (I32 235 7) ≤ 64 := Rg.f7 hR33
      have r75 : 0 ≤ (I 235 9) ∧ (I 235 9) ≤ 17 := Rg.f9 hR
      have u76 : (I8 235 9) = (I 235 9) := h11 _ _ (by first | decide | omega)
      have a78 : -2147483648 ≤ (I8 235 9) ∧ (I8 235 9) < 2147483648 := h10.1 _ _
      have r79 : 0 ≤ (I8 235 9) ∧ (I8 235 9) ≤ 17 := Rg.f9 h9
      have u80 : (I32 235 9) = ((uI I8 235 8 0) 235 9) := hW35 _ _ (by first | decide | omega)
      have u81 : ((uI I8 235 8 0) 235 9) = (I8 235 9) := rfl
      have a82 : -2147483648 ≤ (I32 235 9) ∧ (I32 235 9) < 2147483648 := hA34.1 _ _
      have r83 : 0 ≤ (I32 235 9) ∧ (I32 235 9) ≤ 17 := Rg.f9 hR33
      exact ⟨rfl, fun hv hA' => hQ _ hR33 hA' (fun ka ja hk => ((hW35 ka ja (by omega))).trans (((uI_o (show ¬ (ka = 235 ∧ ja = 8) from by first | (intro e; obtain ⟨rfl, rfl⟩ := e; exact hk (by decide)) | omega))).trans ((h11 ka ja (by omega))))) (show (I32 235 6) ≤ (I32 235 7) from by first | with_reducible assumption | omega | (simp only [wr, wl] at *; omega)) (show (I32 235 7) ≤ (I 236 2) from by first | with_reducible assumption | omega | (simp only [wr, wl] at *; omega)) (show (I32 235 6) < (I 236 2) → (I32 235 6) < (I32 235 7) from by first | with_reducible assumption | omega | (simp only [wr, wl] at *; omega)) (show (I 235 6) ≤ (I32 235 6) from by first | with_reducible assumption | omega | (simp only [wr, wl] at *; omega)) (show (I32 235 8) = 0 → (I32 235 9) = (I 235 9) + 1 ∧ (I 235 6) + 3 ≤ (I32 235 6) from by first | with_reducible assumption | omega | (simp only [wr, wl] at *; omega)) (show ¬ (I32 235 8) = 0 → (I32 235 9) = (I 235 9) from by first | with_reducible assumption | omega | (simp only [wr, wl] at *; omega)) (show (I32 235 8) = 0 ∨ (I32 235 8) = 1 from by first | omega | (simp only [wr, wl] at *; omega)) ((by
                              have ha := aF_1  h13
                              have e1 := Tok_n h19
                              have hn : nF tt (na tt nn (I 235 7)) (nb tt nn (I 235 7)) = -1 := by rw [← e1.1, ← e1.2]; exact qr46.2 e47
                              refine ⟨fun z => absurd z e47, fun _ => ⟨fun z => ?_, ?_, fun j => (hW35 241 j (by omega)).trans ((uI_o (show ¬ (241 = 235 ∧ j = 8) from fun e => absurd e.1 (Nat.ne_of_beq_eq_false rfl))).trans (h11 241 j (by omega)))⟩⟩
                              · have y := z.2
                                rw [ha, hn] at y; omega
                              · unfold pfl; rw [if_neg (by rw [ha]; decide), ← e1.1]; omega))⟩
  ·
    have w20 : (I 235 8) = 0 → ¬ mkW1 tt (I 235 6) (I 235 7) := fun e z => w20 ⟨e, z⟩
    refine ⟨fun c => absurd (show ((0 : Int) = 0) from by decide) c, fun _ => ?_⟩
    refine ⟨fun c => absurd c (show (¬ ((5 : Int) < 1)) from by decide), fun _ => ?_⟩
    refine ⟨_, rfl, (by decide), ?_⟩
    refine fun w0 hw0 => ?_; obtain rfl : w0 = some 240 := hw0.symm.trans (FS.g hF rfl)
    refine ⟨_, _, (by decide), rfl, (by decide), (by decide), (by decide), ?_⟩
    refine fun w0 hw0 => ?_; obtain rfl : w0 = some 4116 := hw0.symm.trans (FS.g hF rfl)
    refine ⟨⟨_, rfl, (by decide)⟩, ?_⟩
    refine r_tk9_10 hF hR (hl) ht (show (I 235 6) ≤ (I 235 7) from by first | with_reducible assumption | omega | (simp only [wr, wl] at *; omega)) (show (I 235 7) ≤ (I 236 2) from by first | with_reducible assumption | omega | (simp only [wr, wl] at *; omega)) (show (I 235 6) < (I 236 2) → (I 235 6) < (I 235 7) from by first | with_reducible assumption | omega | (simp only [wr, wl] at *; omega)) (fun I84 h85 h86 h87 h88 h89 h90 h91 h92 h93 h94 h95 => ?_) (fun w96 => ?_)
    ·
      have h88 : (I 235 8) = 0 := h88
      have h89 : mkW2 tt (I 235 6) (I 235 7) := h89
      have h90 : (I 235 7) - (I 235 6) = 4 := h90
      have h91 : (I 235 6) + 4 ≤ (I84 235 6) := h91
      have h92 : (I84 235 6) ≤ (I84 235 7) := h92
      have h93 : (I84 235 7) ≤ (I 236 2) := h93
      have h94 : (I84 235 6) < (I 236 2) → (I84 235 6) < (I84 235 7) := h94
      refine ⟨fun _ => ?_, fun c => absurd c (show (¬ (1 : Int) = 0) from by decide)⟩
      refine ⟨_, rfl, (by decide), ?_⟩
      have u97 : (I84 235 8) = (I 235 8) := h87 _ _ (by first | decide | omega)
      have a98 : -2147483648 ≤ (I 235 8) ∧ (I 235 8) < 2147483648 := hA.1 _ _
      have a99 : -2147483648 ≤ (I84 235 8) ∧ (I84 235 8) < 2147483648 := h86.1 _ _
      refine ⟨fun c => absurd (show (((I84 235 8) : Int) = 0) from by first | omega | (simp only [wr, wl] at *; omega)) c, fun _ => ?_⟩
      refine ⟨fun _ => ?_, fun c => absurd (show ((1 : Int) ≤ 5) from by decide) c⟩
      refine ⟨_, rfl, (by decide), (by decide), ?_⟩
      refine ⟨_, rfl, (by decide), ?_⟩
      refine ⟨fun c => absurd (show ((0 : Int) = 0) from by decide) c, fun _ => ?_⟩
      refine ⟨fun _ => ?_, fun c => absurd c (show (¬ (1 : Int) = 4) from by decide)⟩
      refine ⟨⟨_, rfl, (by decide)⟩, ?_⟩
      have r100 : 0 ≤ (I84 235 6) ∧ (I84 235 6) ≤ 64 := Rg.f6 h85
      have r102 : 0 ≤ (I84 235 7) ∧ (I84 235 7) ≤ 64 := Rg.f7 h85
      have u104 : (I84 236 2) = (I 236 2) := h87 _ _ (by first | decide | omega)
      have a105 : -2147483648 ≤ (I84 236 2) ∧ (I84 236 2) < 2147483648 := h86.1 _ _
      have r106 : 0 ≤ (I84 236 2) ∧ (I84 236 2) ≤ 64 := Rg.n2 h85
      refine r_number9  hF (Rg.u h85 (Pr_f rfl)) (((uI_o (show ¬ (236 = 235 ∧ 2 = 8) from fun e => absurd e.1 (Nat.ne_of_beq_eq_false rfl))).trans (h87 236 2 (by first | decide | omega))).trans hl) (TXT_f ht (fun j => (uI_o (show ¬ (236 = 235 ∧ (1228 + j) = 8) from fun e => absurd e.1 (Nat.ne_of_beq_eq_false rfl))).trans (h87 236 (1228 + j) (by omega)))) (show (I84 235 6) ≤ (I84 235 7) from by first | with_reducible assumption | omega | (simp only [wr, wl] at *; omega)) (show (I84 235 7) ≤ (I84 236 2) from by first | with_reducible assumption | omega | (simp only [wr, wl] at *; omega)) (show (I84 235 6) < (I84 236 2) → (I84 235 6) < (I84 235 7) from by first | with_reducible assumption | omega | (simp only [wr, wl] at *; omega)) h95.2 (fun vr107 I108 hR109 hA110 hr112 hW111 q113 q114 q115 q116 q117 q118 q119 q120 q121 qr122 => ?_)
      have hr112 : -2147483648 ≤ vr107 ∧ vr107 < 2147483648 := hr112
      have q113 : vr107 ≤ 300000 := q113
      have q114 : (I108 235 6) ≤ (I108 235 7) := q114
      have q115 : (I108 235 7) ≤ (I84 236 2) := q115
      have q116 : (I108 235 6) < (I84 236 2) → (I108 235 6) < (I108 235 7) := q116
      have q117 : (I84 235 6) ≤ (I108 235 6) := q117
      have q118 : (I108 235 8) = 0 → (I84 235 6) + 1 ≤ (I108 235 6) := q118
      have q119 : (I108 235 8) = 0 ∨ (I108 235 8) = 1 := q119
      have q120 : ¬ (I108 235 8) = 0 → vr107 = 0 ∧ (I108 235 6) = (I84 235 6) ∧ (I108 235 7) = (I84 235 7) := q120
      have q121 : 0 ≤ vr107 := q121
      by_cases e123 : (I108 235 8) = 0
      ·
        refine ⟨_, rfl, (by decide), ?_⟩
        have a124 : -2147483648 ≤ (I108 235 8) ∧ (I108 235 8) < 2147483648 := hA110.1 _ _
        refine ⟨fun c => absurd (show (((I108 235 8) : Int) = 0) from by first | omega | (simp only [wr, wl] at *; omega)) c, fun _ => ?_⟩
        refine ⟨_, rfl, (by decide), ?_⟩
        refine fun w0 hw0 => ?_; obtain rfl : w0 = some 241 := hw0.symm.trans (FS.g hF rfl)
        refine ⟨_, rfl, (by decide), ?_⟩
        have r125 : 0 ≤ (I 235 9) ∧ (I 235 9) ≤ 17 := Rg.f9 hR
        have u126 : (I84 235 9) = (I 235 9) := h87 _ _ (by first | decide | omega)
        have a128 : -2147483648 ≤ (I84 235 9) ∧ (I84 235 9) < 2147483648 := h86.1 _ _
        have r129 : 0 ≤ (I84 235 9) ∧ (I84 235 9) ≤ 17 := Rg.f9 h85
        have u130 : (I108 235 9) = ((uI I84 235 8 0) 235 9) := hW111 _ _ (by first | decide | omega)
        have u131 : ((uI I84 235 8 0) 235 9) = (I84 235 9) := rfl
        have a132 : -2147483648 ≤ (I108 235 9) ∧ (I108 235 9) < 2147483648 := hA110.1 _ _
        have r133 : 0 ≤ (I108 235 9) ∧ (I108 235 9) ≤ 17 := Rg.f9 hR109
        have n134 : (wr (2 * (I108 235 9))) = 2 * (I108 235 9) := wr_id (show -2147483648 ≤ (2 * (I108 235 9) : Int) ∧ (2 * (I108 235 9) : Int) < 2147483648 from by omega)
        have n135 : (wr (2 + (wr (2 * (I108 235 9))))) = 2 + (wr (2 * (I108 235 9))) := wr_id (show -2147483648 ≤ (2 + (wr (2 * (I108 235 9))) : Int) ∧ (2 + (wr (2 * (I108 235 9))) : Int) < 2147483648 from by omega)
        refine ⟨_, rfl, (by decide), (show (0 : Int) ≤ (wr (2 + (wr (2 * (I108 235 9))))) from by first | with_reducible assumption | omega | (simp only [wr, wl] at *; omega)), (show (wr (2 + (wr (2 * (I108 235 9))))) < (36 : Int) from by first | with_reducible assumption | omega | (simp only [wr, wl] at *; omega)), ?_⟩
        have p136 : Pn (40 + (Int.toNat (wr (2 + (wr (2 * (I108 235 9))))))) 1 := by apply Pn_w <;> omega
        refine ⟨_, rfl, (by decide), ?_⟩
        refine fun w0 hw0 => ?_; obtain rfl : w0 = some 241 := hw0.symm.trans (FS.g hF rfl)
        refine ⟨_, rfl, (by decide), ?_⟩
        have n137 : (wr ((wr (2 + (wr (2 * (I108 235 9))))) + 1)) = (wr (2 + (wr (2 * (I108 235 9))))) + 1 := wr_id (show -2147483648 ≤ ((wr (2 + (wr (2 * (I108 235 9))))) + 1 : Int) ∧ ((wr (2 + (wr (2 * (I108 235 9))))) + 1 : Int) < 2147483648 from by omega)
        refine ⟨_, rfl, (by decide), (show (0 : Int) ≤ (wr ((wr (2 + (wr (2 * (I108 235 9))))) + 1)) from by first | with_reducible assumption | omega | (simp only [wr, wl] at *; omega)), (show (wr ((wr (2 + (wr (2 * (I108 235 9))))) + 1)) < (36 : Int) from by first | with_reducible assumption | omega | (simp only [wr, wl] at *; omega)), ?_⟩
        have p138 : Pn (40 + (Int.toNat (wr ((wr (2 + (wr (2 * (I108 235 9))))) + 1)))) vr107 := by apply Pn_w <;> omega
        refine ⟨_, rfl, (by decide), ?_⟩
        refine ⟨_, rfl, (by decide), ?_⟩
        have n139 : (wr ((I108 235 9) + 1)) = (I108 235 9) + 1 := wr_id (show -2147483648 ≤ ((I108 235 9) + 1 : Int) ∧ ((I108 235 9) + 1 : Int) < 2147483648 from by omega)
        have p140 : (0 : Int) ≤ (wr ((I108 235 9) + 1)) ∧ ((wr ((I108 235 9) + 1)) : Int) ≤ 17 := by first | omega | (simp only [wr, wl] at *; omega)
        have r141 : 0 ≤ (I108 235 6) ∧ (I108 235 6) ≤ 64 := Rg.f6 hR109
        have r143 : 0 ≤ (I108 235 7) ∧ (I108 235 7) ≤ 64 := Rg.f7 hR109
        exact ⟨rfl, fun hv hA' => hQ _ (Rg.u (Rg.u (Rg.u hR109 (Pr_r p136)) (Pr_r p138)) (Pr_x9 p140)) hA' (fun ka ja hk => ((uI_o (show ¬ (ka = 235 ∧ ja = 9) from by first | (intro e; obtain ⟨rfl, rfl⟩ := e; exact hk (by decide)) | omega))).trans (((uI_o (show ¬ (ka = 241 ∧ ja = (Int.toNat (wr ((wr (2 + (wr (2 * (I108 235 9))))) + 1)))) from by omega))).trans (((uI_o (show ¬ (ka = 241 ∧ ja = (Int.toNat (wr (2 + (wr (2 * (I108 235 9))))))) from by omega))).trans (((hW111 ka ja (by omega))).trans (((uI_o (show ¬ (ka = 235 ∧ ja = 8) from by first | (intro e; obtain ⟨rfl, rfl⟩ := e; exact hk (by decide)) | omega))).trans ((h87 ka ja (by omega)))))))) (show (I108 235 6) ≤ (I108 235 7) from by first | with_reducible assumption | omega | (simp only [wr, wl] at *; omega)) (show (I108 235 7) ≤ (I 236 2) from by first | with_reducible assumption | omega | (simp only [wr, wl] at *; omega)) (show (I108 235 6) < (I 236 2) → (I108 235 6) < (I108 235 7) from by first | with_reducible assumption | omega | (simp only [wr, wl] at *; omega)) (show (I 235 6) ≤ (I108 235 6) from by first | with_reducible assumption | omega | (simp only [wr, wl] at *; omega)) (show (I108 235 8) = 0 → (wr ((I108 235 9) + 1)) = (I 235 9) + 1 ∧ (I 235 6) + 3 ≤ (I108 235 6) from by first | with_reducible assumption | omega | (simp only [wr, wl] at *; omega)) (show ¬ (I108 235 8) = 0 → (wr ((I108 235 9) + 1)) = (I 235 9) from by first | with_reducible assumption | omega | (simp only [wr, wl] at *; omega)) (show (I108 235 8) = 0 ∨ (I108 235 8) = 1 from by first | omega | (simp only [wr, wl] at *; omega)) ((by
                              have ha := aF_2 (w20 hw) h89
                              have e1 := Tok_n h95
                              have hn : nF tt (na tt nn (I 235 7)) (nb tt nn (I 235 7)) = vr107 := by rw [← e1.1, ← e1.2]; exact (qr122.1 e123).1
                              have e2 := Tok_n (show Tok tt nn (I84 235 7) _ _ from (qr122.1 e123).2)
                              rw [e1.2] at e2
                              refine ⟨fun _ => ⟨⟨by rw [ha]; decide, Or.inr (by rw [hn]; omega)⟩, ?_, ?_, fun j h1 h2 => (uI_o (show ¬ (241 = 235 ∧ j = 9) from fun e => absurd e.1 (Nat.ne_of_beq_eq_false rfl))).trans ((uJ_ne (show ¬ j = (Int.toNat (wr ((wr (2 + (wr (2 * (I108 235 9))))) + 1))) from by omega)).trans ((uJ_ne (show ¬ j = (Int.toNat (wr (2 + (wr (2 * (I108 235 9)))))) from by omega)).trans ((hW111 241 (j) (by omega)).trans ((uI_o (show ¬ (241 = 235 ∧ j = 8) from fun e => absurd e.1 (Nat.ne_of_beq_eq_false rfl))).trans (h87 241 (j) (by omega)))))), ?_, ?_⟩, fun z => absurd (show (I108 235 8) = 0 from e123) z⟩
                              · unfold peA; rw [if_neg (by rw [ha]; decide)]; exact ((uJ_ne (show ¬ 6 = 9 from Nat.ne_of_beq_eq_false rfl)).trans ((uI_o (show ¬ (235 = 241 ∧ 6 = (Int.toNat (wr ((wr (2 + (wr (2 * (I108 235 9))))) + 1)))) from fun e => absurd e.1 (Nat.ne_of_beq_eq_false rfl))).trans (uI_o (show ¬ (235 = 241 ∧ 6 = (Int.toNat (wr (2 + (wr (2 * (I108 235 9))))))) from fun e => absurd e.1 (Nat.ne_of_beq_eq_false rfl))))).trans e2.1
                              · unfold peB; rw [if_neg (by rw [ha]; decide)]; exact ((uJ_ne (show ¬ 7 = 9 from Nat.ne_of_beq_eq_false rfl)).trans ((uI_o (show ¬ (235 = 241 ∧ 7 = (Int.toNat (wr ((wr (2 + (wr (2 * (I108 235 9))))) + 1)))) from fun e => absurd e.1 (Nat.ne_of_beq_eq_false rfl))).trans (uI_o (show ¬ (235 = 241 ∧ 7 = (Int.toNat (wr (2 + (wr (2 * (I108 235 9))))))) from fun e => absurd e.1 (Nat.ne_of_beq_eq_false rfl))))).trans e2.2
                              · exact ((uI_o (show ¬ (241 = 235 ∧ (2 + 2 * (Int.toNat (I 235 9))) = 9) from fun e => absurd e.1 (Nat.ne_of_beq_eq_false rfl))).trans ((uJ_ne (show ¬ (2 + 2 * (Int.toNat (I 235 9))) = (Int.toNat (wr ((wr (2 + (wr (2 * (I108 235 9))))) + 1))) from by omega)).trans (uJ_eqj (show (2 + 2 * (Int.toNat (I 235 9))) = (Int.toNat (wr (2 + (wr (2 * (I108 235 9)))))) from by omega)))).trans ha.symm
                              · unfold pam; rw [if_neg (by rw [ha]; decide)]; exact ((uI_o (show ¬ (241 = 235 ∧ (3 + 2 * (Int.toNat (I 235 9))) = 9) from fun e => absurd e.1 (Nat.ne_of_beq_eq_false rfl))).trans (uJ_eqj (show (3 + 2 * (Int.toNat (I 235 9))) = (Int.toNat (wr ((wr (2 + (wr (2 * (I108 235 9))))) + 1))) from by omega))).trans hn.symm))⟩
      ·
        have e145 : (I108 235 8) = 1 := by omega
        refine ⟨_, rfl, (by decide), ?_⟩
        have a146 : -2147483648 ≤ (I108 235 8) ∧ (I108 235 8) < 2147483648 := hA110.1 _ _
        refine ⟨fun _ => ?_, fun c => absurd c (show (¬ ((I108 235 8) : Int) = 0) from by first | omega | (simp only [wr, wl] at *; omega))⟩
        have r147 : 0 ≤ (I108 235 6) ∧ (I108 235 6) ≤ 64 := Rg.f6 hR109
        have r149 : 0 ≤ (I108 235 7) ∧ (I108 235 7) ≤ 64 := Rg.f7 hR109
        have r151 : 0 ≤ (I 235 9) ∧ (I 235 9) ≤ 17 := Rg.f9 hR
        have u152 : (I84 235 9) = (I 235 9) := h87 _ _ (by first | decide | omega)
        have a154 : -2147483648 ≤ (I84 235 9) ∧ (I84 235 9) < 2147483648 := h86.1 _ _
        have r155 : 0 ≤ (I84 235 9) ∧ (I84 235 9) ≤ 17 := Rg.f9 h85
        have u156 : (I108 235 9) = ((uI I84 235 8 0) 235 9) := hW111 _ _ (by first | decide | omega)
        have u157 : ((uI I84 235 8 0) 235 9) = (I84 235 9) := rfl
        have a158 : -2147483648 ≤ (I108 235 9) ∧ (I108 235 9) < 2147483648 := hA110.1 _ _
        have r159 : 0 ≤ (I108 235 9) ∧ (I108 235 9) ≤ 17 := Rg.f9 hR109
        exact ⟨rfl, fun hv hA' => hQ _ hR109 hA' (fun ka ja hk => ((hW111 ka ja (by omega))).trans (((uI_o (show ¬ (ka = 235 ∧ ja = 8) from by first | (intro e; obtain ⟨rfl, rfl⟩ := e; exact hk (by decide)) | omega))).trans ((h87 ka ja (by omega))))) (show (I108 235 6) ≤ (I108 235 7) from by first | with_reducible assumption | omega | (simp only [wr, wl] at *; omega)) (show (I108 235 7) ≤ (I 236 2) from by first | with_reducible assumption | omega | (simp only [wr, wl] at *; omega)) (show (I108 235 6) < (I 236 2) → (I108 235 6) < (I108 235 7) from by first | with_reducible assumption | omega | (simp only [wr, wl] at *; omega)) (show (I 235 6) ≤ (I108 235 6) from by first | with_reducible assumption | omega | (simp only [wr, wl] at *; omega)) (show (I108 235 8) = 0 → (I108 235 9) = (I 235 9) + 1 ∧ (I 235 6) + 3 ≤ (I108 235 6) from by first | with_reducible assumption | omega | (simp only [wr, wl] at *; omega)) (show ¬ (I108 235 8) = 0 → (I108 235 9) = (I 235 9) from by first | with_reducible assumption | omega | (simp only [wr, wl] at *; omega)) (show (I108 235 8) = 0 ∨ (I108 235 8) = 1 from by first | omega | (simp only [wr, wl] at *; omega)) ((by
                              have ha := aF_2 (w20 hw) h89
                              have e1 := Tok_n h95
                              have hn : nF tt (na tt nn (I 235 7)) (nb tt nn (I 235 7)) = -1 := by rw [← e1.1, ← e1.2]; exact qr122.2 e123
                              refine ⟨fun z => absurd z e123, fun _ => ⟨fun z => ?_, ?_, fun j => (hW111 241 j (by omega)).trans ((uI_o (show ¬ (241 = 235 ∧ j = 8) from fun e => absurd e.1 (Nat.ne_of_beq_eq_false rfl))).trans (h87 241 j (by omega)))⟩⟩
                              · have y := z.2
                                rw [ha, hn] at y; omega
                              · unfold pfl; rw [if_neg (by rw [ha]; decide), ← e1.1]; omega))⟩
    ·
      have w96 : (I 235 8) = 0 → ¬ mkW2 tt (I 235 6) (I 235 7) := fun e z => w96 ⟨e, z⟩
      refine ⟨fun c => absurd (show ((0 : Int) = 0) from by decide) c, fun _ => ?_⟩
      refine ⟨fun c => absurd c (show (¬ ((5 : Int) < 2)) from by decide), fun _ => ?_⟩
      refine ⟨_, rfl, (by decide), ?_⟩
      refine fun w0 hw0 => ?_; obtain rfl : w0 = some 240 := hw0.symm.trans (FS.g hF rfl)
      refine ⟨_, _, (by decide), rfl, (by decide), (by decide), (by decide), ?_⟩
      refine fun w0 hw0 => ?_; obtain rfl : w0 = some 4117 := hw0.symm.trans (FS.g hF rfl)
      refine ⟨⟨_, rfl, (by decide)⟩, ?_⟩
      refine r_tk9_11 hF hR (hl) ht (show (I 235 6) ≤ (I 235 7) from by first | with_reducible assumption | omega | (simp only [wr, wl] at *; omega)) (show (I 235 7) ≤ (I 236 2) from by first | with_reducible assumption | omega | (simp only [wr, wl] at *; omega)) (show (I 235 6) < (I 236 2) → (I 235 6) < (I 235 7) from by first | with_reducible assumption | omega | (simp only [wr, wl] at *; omega)) (fun I160 h161 h162 h163 h164 h165 h166 h167 h168 h169 h170 h171 => ?_) (fun w172 => ?_)
      ·
        have h164 : (I 235 8) = 0 := h164
        have h165 : mkW3 tt (I 235 6) (I 235 7) := h165
        have h166 : (I 235 7) - (I 235 6) = 4 := h166
        have h167 : (I 235 6) + 4 ≤ (I160 235 6) := h167
        have h168 : (I160 235 6) ≤ (I160 235 7) := h168
        have h169 : (I160 235 7) ≤ (I 236 2) := h169
        have h170 : (I160 235 6) < (I 236 2) → (I160 235 6) < (I160 235 7) := h170
        refine ⟨fun _ => ?_, fun c => absurd c (show (¬ (1 : Int) = 0) from by decide)⟩
        refine ⟨_, rfl, (by decide), ?_⟩
        have u173 : (I160 235 8) = (I 235 8) := h163 _ _ (by first | decide | omega)
        have a174 : -2147483648 ≤ (I 235 8) ∧ (I 235 8) < 2147483648 := hA.1 _ _
        have a175 : -2147483648 ≤ (I160 235 8) ∧ (I160 235 8) < 2147483648 := h162.1 _ _
        refine ⟨fun c => absurd (show (((I160 235 8) : Int) = 0) from by first | omega | (simp only [wr, wl] at *; omega)) c, fun _ => ?_⟩
        refine ⟨fun _ => ?_, fun c => absurd (show ((2 : Int) ≤ 5) from by decide) c⟩
        refine ⟨_, rfl, (by decide), (by decide), ?_⟩
        refine ⟨_, rfl, (by decide), ?_⟩
        refine ⟨fun c => absurd (show ((0 : Int) = 0) from by decide) c, fun _ => ?_⟩
        refine ⟨fun _ => ?_, fun c => absurd c (show (¬ (2 : Int) = 4) from by decide)⟩
        refine ⟨⟨_, rfl, (by decide)⟩, ?_⟩
        have r176 : 0 ≤ (I160 235 6) ∧ (I160 235 6) ≤ 64 := Rg.f6 h161
        have r178 : 0 ≤ (I160 235 7) ∧ (I160 235 7) ≤ 64 := Rg.f7 h161
        have u180 : (I160 236 2) = (I 236 2) := h163 _ _ (by first | decide | omega)
        have a181 : -2147483648 ≤ (I160 236 2) ∧ (I160 236 2) < 2147483648 := h162.1 _ _
        have r182 : 0 ≤ (I160 236 2) ∧ (I160 236 2) ≤ 64 := Rg.n2 h161
        refine r_number9  hF (Rg.u h161 (Pr_f rfl)) (((uI_o (show ¬ (236 = 235 ∧ 2 = 8) from fun e => absurd e.1 (Nat.ne_of_beq_eq_false rfl))).trans (h163 236 2 (by first | decide | omega))).trans hl) (TXT_f ht (fun j => (uI_o (show ¬ (236 = 235 ∧ (1228 + j) = 8) from fun e => absurd e.1 (Nat.ne_of_beq_eq_false rfl))).trans (h163 236 (1228 + j) (by omega)))) (show (I160 235 6) ≤ (I160 235 7) from by first | with_reducible assumption | omega | (simp only [wr, wl] at *; omega)) (show (I160 235 7) ≤ (I160 236 2) from by first | with_reducible assumption | omega | (simp only [wr, wl] at *; omega)) (show (I160 235 6) < (I160 236 2) → (I160 235 6) < (I160 235 7) from by first | with_reducible assumption | omega | (simp only [wr, wl] at *; omega)) h171.2 (fun vr183 I184 hR185 hA186 hr188 hW187 q189 q190 q191 q192 q193 q194 q195 q196 q197 qr198 => ?_)
        have hr188 : -2147483648 ≤ vr183 ∧ vr183 < 2147483648 := hr188
        have q189 : vr183 ≤ 300000 := q189
        have q190 : (I184 235 6) ≤ (I184 235 7) := q190
        have q191 : (I184 235 7) ≤ (I160 236 2) := q191
        have q192 : (I184 235 6) < (I160 236 2) → (I184 235 6) < (I184 235 7) := q192
        have q193 : (I160 235 6) ≤ (I184 235 6) := q193
        have q194 : (I184 235 8) = 0 → (I160 235 6) + 1 ≤ (I184 235 6) := q194
        have q195 : (I184 235 8) = 0 ∨ (I184 235 8) = 1 := q195
        have q196 : ¬ (I184 235 8) = 0 → vr183 = 0 ∧ (I184 235 6) = (I160 235 6) ∧ (I184 235 7) = (I160 235 7) := q196
        have q197 : 0 ≤ vr183 := q197
        by_cases e199 : (I184 235 8) = 0
        ·
          refine ⟨_, rfl, (by decide), ?_⟩
          have a200 : -2147483648 ≤ (I184 235 8) ∧ (I184 235 8) < 2147483648 := hA186.1 _ _
          refine ⟨fun c => absurd (show (((I184 235 8) : Int) = 0) from by first | omega | (simp only [wr, wl] at *; omega)) c, fun _ => ?_⟩
          refine ⟨_, rfl, (by decide), ?_⟩
          refine fun w0 hw0 => ?_; obtain rfl : w0 = some 241 := hw0.symm.trans (FS.g hF rfl)
          refine ⟨_, rfl, (by decide), ?_⟩
          have r201 : 0 ≤ (I 235 9) ∧ (I 235 9) ≤ 17 := Rg.f9 hR
          have u202 : (I160 235 9) = (I 235 9) := h163 _ _ (by first | decide | omega)
          have a204 : -2147483648 ≤ (I160 235 9) ∧ (I160 235 9) < 2147483648 := h162.1 _ _
          have r205 : 0 ≤ (I160 235 9) ∧ (I160 235 9) ≤ 17 := Rg.f9 h161
          have u206 : (I184 235 9) = ((uI I160 235 8 0) 235 9) := hW187 _ _ (by first | decide | omega)
          have u207 : ((uI I160 235 8 0) 235 9) = (I160 235 9) := rfl
          have a208 : -2147483648 ≤ (I184 235 9) ∧ (I184 235 9) < 2147483648 := hA186.1 _ _
          have r209 : 0 ≤ (I184 235 9) ∧ (I184 235 9) ≤ 17 := Rg.f9 hR185
          have n210 : (wr (2 * (I184 235 9))) = 2 * (I184 235 9) := wr_id (show -2147483648 ≤ (2 * (I184 235 9) : Int) ∧ (2 * (I184 235 9) : Int) < 2147483648 from by omega)
          have n211 : (wr (2 + (wr (2 * (I184 235 9))))) = 2 + (wr (2 * (I184 235 9))) := wr_id (show -2147483648 ≤ (2 + (wr (2 * (I184 235 9))) : Int) ∧ (2 + (wr (2 * (I184 235 9))) : Int) < 2147483648 from by omega)
          refine ⟨_, rfl, (by decide), (show (0 : Int) ≤ (wr (2 + (wr (2 * (I184 235 9))))) from by first | with_reducible assumption | omega | (simp only [wr, wl] at *; omega)), (show (wr (2 + (wr (2 * (I184 235 9))))) < (36 : Int) from by first | with_reducible assumption | omega | (simp only [wr, wl] at *; omega)), ?_⟩
          have p212 : Pn (40 + (Int.toNat (wr (2 + (wr (2 * (I184 235 9))))))) 2 := by apply Pn_w <;> omega
          refine ⟨_, rfl, (by decide), ?_⟩
          refine fun w0 hw0 => ?_; obtain rfl : w0 = some 241 := hw0.symm.trans (FS.g hF rfl)
          refine ⟨_, rfl, (by decide), ?_⟩
          have n213 : (wr ((wr (2 + (wr (2 * (I184 235 9))))) + 1)) = (wr (2 + (wr (2 * (I184 235 9))))) + 1 := wr_id (show -2147483648 ≤ ((wr (2 + (wr (2 * (I184 235 9))))) + 1 : Int) ∧ ((wr (2 + (wr (2 * (I184 235 9))))) + 1 : Int) < 2147483648 from by omega)
          refine ⟨_, rfl, (by decide), (show (0 : Int) ≤ (wr ((wr (2 + (wr (2 * (I184 235 9))))) + 1)) from by first | with_reducible assumption | omega | (simp only [wr, wl] at *; omega)), (show (wr ((wr (2 + (wr (2 * (I184 235 9))))) + 1)) < (36 : Int) from by first | with_reducible assumption | omega | (simp only [wr, wl] at *; omega)), ?_⟩
          have p214 : Pn (40 + (Int.toNat (wr ((wr (2 + (wr (2 * (I184 235 9))))) + 1)))) vr183 := by apply Pn_w <;> omega
          refine ⟨_, rfl, (by decide), ?_⟩
          refine ⟨_, rfl, (by decide), ?_⟩
          have n215 : (wr ((I184 235 9) + 1)) = (I184 235 9) + 1 := wr_id (show -2147483648 ≤ ((I184 235 9) + 1 : Int) ∧ ((I184 235 9) + 1 : Int) < 2147483648 from by omega)
          have p216 : (0 : Int) ≤ (wr ((I184 235 9) + 1)) ∧ ((wr ((I184 235 9) + 1)) : Int) ≤ 17 := by first | omega | (simp only [wr, wl] at *; omega)
          have r217 : 0 ≤ (I184 235 6) ∧ (I184 235 6) ≤ 64 := Rg.f6 hR185
          have r219 : 0 ≤ (I184 235 7) ∧ (I184 235 7) ≤ 64 := Rg.f7 hR185
          exact ⟨rfl, fun hv hA' => hQ _ (Rg.u (Rg.u (Rg.u hR185 (Pr_r p212)) (Pr_r p214)) (Pr_x9 p216)) hA' (fun ka ja hk => ((uI_o (show ¬ (ka = 235 ∧ ja = 9) from by first | (intro e; obtain ⟨rfl, rfl⟩ := e; exact hk (by decide)) | omega))).trans (((uI_o (show ¬ (ka = 241 ∧ ja = (Int.toNat (wr ((wr (2 + (wr (2 * (I184 235 9))))) + 1)))) from by omega))).trans (((uI_o (show ¬ (ka = 241 ∧ ja = (Int.toNat (wr (2 + (wr (2 * (I184 235 9))))))) from by omega))).trans (((hW187 ka ja (by omega))).trans (((uI_o (show ¬ (ka = 235 ∧ ja = 8) from by first | (intro e; obtain ⟨rfl, rfl⟩ := e; exact hk (by decide)) | omega))).trans ((h163 ka ja (by omega)))))))) (show (I184 235 6) ≤ (I184 235 7) from by first | with_reducible assumption | omega | (simp only [wr, wl] at *; omega)) (show (I184 235 7) ≤ (I 236 2) from by first | with_reducible assumption | omega | (simp only [wr, wl] at *; omega)) (show (I184 235 6) < (I 236 2) → (I184 235 6) < (I184 235 7) from by first | with_reducible assumption | omega | (simp only [wr, wl] at *; omega)) (show (I 235 6) ≤ (I184 235 6) from by first | with_reducible assumption | omega | (simp only [wr, wl] at *; omega)) (show (I184 235 8) = 0 → (wr ((I184 235 9) + 1)) = (I 235 9) + 1 ∧ (I 235 6) + 3 ≤ (I184 235 6) from by first | with_reducible assumption | omega | (simp only [wr, wl] at *; omega)) (show ¬ (I184 235 8) = 0 → (wr ((I184 235 9) + 1)) = (I 235 9) from by first | with_reducible assumption | omega | (simp only [wr, wl] at *; omega)) (show (I184 235 8) = 0 ∨ (I184 235 8) = 1 from by first | omega | (simp only [wr, wl] at *; omega)) ((by
                              have ha := aF_3 (w20 hw) (w96 hw) h165
                              have e1 := Tok_n h171
                              have hn : nF tt (na tt nn (I 235 7)) (nb tt nn (I 235 7)) = vr183 := by rw [← e1.1, ← e1.2]; exact (qr198.1 e199).1
                              have e2 := Tok_n (show Tok tt nn (I160 235 7) _ _ from (qr198.1 e199).2)
                              rw [e1.2] at e2
                              refine ⟨fun _ => ⟨⟨by rw [ha]; decide, Or.inr (by rw [hn]; omega)⟩, ?_, ?_, fun j h1 h2 => (uI_o (show ¬ (241 = 235 ∧ j = 9) from fun e => absurd e.1 (Nat.ne_of_beq_eq_false rfl))).trans ((uJ_ne (show ¬ j = (Int.toNat (wr ((wr (2 + (wr (2 * (I184 235 9))))) + 1))) from by omega)).trans ((uJ_ne (show ¬ j = (Int.toNat (wr (2 + (wr (2 * (I184 235 9)))))) from by omega)).trans ((hW187 241 (j) (by omega)).trans ((uI_o (show ¬ (241 = 235 ∧ j = 8) from fun e => absurd e.1 (Nat.ne_of_beq_eq_false rfl))).trans (h163 241 (j) (by omega)))))), ?_, ?_⟩, fun z => absurd (show (I184 235 8) = 0 from e199) z⟩
                              · unfold peA; rw [if_neg (by rw [ha]; decide)]; exact ((uJ_ne (show ¬ 6 = 9 from Nat.ne_of_beq_eq_false rfl)).trans ((uI_o (show ¬ (235 = 241 ∧ 6 = (Int.toNat (wr ((wr (2 + (wr (2 * (I184 235 9))))) + 1)))) from fun e => absurd e.1 (Nat.ne_of_beq_eq_false rfl))).trans (uI_o (show ¬ (235 = 241 ∧ 6 = (Int.toNat (wr (2 + (wr (2 * (I184 235 9))))))) from fun e => absurd e.1 (Nat.ne_of_beq_eq_false rfl))))).trans e2.1
                              · unfold peB; rw [if_neg (by rw [ha]; decide)]; exact ((uJ_ne (show ¬ 7 = 9 from Nat.ne_of_beq_eq_false rfl)).trans ((uI_o (show ¬ (235 = 241 ∧ 7 = (Int.toNat (wr ((wr (2 + (wr (2 * (I184 235 9))))) + 1)))) from fun e => absurd e.1 (Nat.ne_of_beq_eq_false rfl))).trans (uI_o (show ¬ (235 = 241 ∧ 7 = (Int.toNat (wr (2 + (wr (2 * (I184 235 9))))))) from fun e => absurd e.1 (Nat.ne_of_beq_eq_false rfl))))).trans e2.2
                              · exact ((uI_o (show ¬ (241 = 235 ∧ (2 + 2 * (Int.toNat (I 235 9))) = 9) from fun e => absurd e.1 (Nat.ne_of_beq_eq_false rfl))).trans ((uJ_ne (show ¬ (2 + 2 * (Int.toNat (I 235 9))) = (Int.toNat (wr ((wr (2 + (wr (2 * (I184 235 9))))) + 1))) from by omega)).trans (uJ_eqj (show (2 + 2 * (Int.toNat (I 235 9))) = (Int.toNat (wr (2 + (wr (2 * (I184 235 9)))))) from by omega)))).trans ha.symm
                              · unfold pam; rw [if_neg (by rw [ha]; decide)]; exact ((uI_o (show ¬ (241 = 235 ∧ (3 + 2 * (Int.toNat (I 235 9))) = 9) from fun e => absurd e.1 (Nat.ne_of_beq_eq_false rfl))).trans (uJ_eqj (show (3 + 2 * (Int.toNat (I 235 9))) = (Int.toNat (wr ((wr (2 + (wr (2 * (I184 235 9))))) + 1))) from by omega))).trans hn.symm))⟩
        ·
          have e221 : (I184 235 8) = 1 := by omega
          refine ⟨_, rfl, (by decide), ?_⟩
          have a222 : -2147483648 ≤ (I184 235 8) ∧ (I184 235 8) < 2147483648 := hA186.1 _ _
          refine ⟨fun _ => ?_, fun c => absurd c (show (¬ ((I184 235 8) : Int) = 0) from by first | omega | (simp only [wr, wl] at *; omega))⟩
          have r223 : 0 ≤ (I184 235 6) ∧ (I184 235 6) ≤ 64 := Rg.f6 hR185
          have r225 : 0 ≤ (I184 235 7) ∧ (I184 235 7) ≤ 64 := Rg.f7 hR185
          have r227 : 0 ≤ (I 235 9) ∧ (I 235 9) ≤ 17 := Rg.f9 hR
          have u228 : (I160 235 9) = (I 235 9) := h163 _ _ (by first | decide | omega)
          have a230 : -2147483648 ≤ (I160 235 9) ∧ (I160 235 9) < 2147483648 := h162.1 _ _
          have r231 : 0 ≤ (I160 235 9) ∧ (I160 235 9) ≤ 17 := Rg.f9 h161
          have u232 : (I184 235 9) = ((uI I160 235 8 0) 235 9) := hW187 _ _ (by first | decide | omega)
          have u233 : ((uI I160 235 8 0) 235 9) = (I160 235 9) := rfl
          have a234 : -2147483648 ≤ (I184 235 9) ∧ (I184 235 9) < 2147483648 := hA186.1 _ _
          have r235 : 0 ≤ (I184 235 9) ∧ (I184 235 9) ≤ 17 := Rg.f9 hR185
          exact ⟨rfl, fun hv hA' => hQ _ hR185 hA' (fun ka ja hk => ((hW187 ka ja (by omega))).trans (((uI_o (show ¬ (ka = 235 ∧ ja = 8) from by first | (intro e; obtain ⟨rfl, rfl⟩ := e; exact hk (by decide)) | omega))).trans ((h163 ka ja (by omega))))) (show (I184 235 6) ≤ (I184 235 7) from by first | with_reducible assumption | omega | (simp only [wr, wl] at *; omega)) (show (I184 235 7) ≤ (I 236 2) from by first | with_reducible assumption | omega | (simp only [wr, wl] at *; omega)) (show (I184 235 6) < (I 236 2) → (I184 235 6) < (I184 235 7) from by first | with_reducible assumption | omega | (simp only [wr, wl] at *; omega)) (show (I 235 6) ≤ (I184 235 6) from by first | with_reducible assumption | omega | (simp only [wr, wl] at *; omega)) (show (I184 235 8) = 0 → (I184 235 9) = (I 235 9) + 1 ∧ (I 235 6) + 3 ≤ (I184 235 6) from by first | with_reducible assumption | omega | (simp only [wr, wl] at *; omega)) (show ¬ (I184 235 8) = 0 → (I184 235 9) = (I 235 9) from by first | with_reducible assumption | omega | (simp only [wr, wl] at *; omega)) (show (I184 235 8) = 0 ∨ (I184 235 8) = 1 from by first | omega | (simp only [wr, wl] at *; omega)) ((by
                              have ha := aF_3 (w20 hw) (w96 hw) h165
                              have e1 := Tok_n h171
                              have hn : nF tt (na tt nn (I 235 7)) (nb tt nn (I 235 7)) = -1 := by rw [← e1.1, ← e1.2]; exact qr198.2 e199
                              refine ⟨fun z => absurd z e199, fun _ => ⟨fun z => ?_, ?_, fun j => (hW187 241 j (by omega)).trans ((uI_o (show ¬ (241 = 235 ∧ j = 8) from fun e => absurd e.1 (Nat.ne_of_beq_eq_false rfl))).trans (h163 241 j (by omega)))⟩⟩
                              · have y := z.2
                                rw [ha, hn] at y; omega
                              · unfold pfl; rw [if_neg (by rw [ha]; decide), ← e1.1]; omega))⟩
      ·
        have w172 : (I 235 8) = 0 → ¬ mkW3 tt (I 235 6) (I 235 7) := fun e z => w172 ⟨e, z⟩
        refine ⟨fun c => absurd (show ((0 : Int) = 0) from by decide) c, fun _ => ?_⟩
        refine ⟨fun c => absurd c (show (¬ ((5 : Int) < 3)) from by decide), fun _ => ?_⟩
        refine ⟨_, rfl, (by decide), ?_⟩
        refine fun w0 hw0 => ?_; obtain rfl : w0 = some 240 := hw0.symm.trans (FS.g hF rfl)
        refine ⟨_, _, (by decide), rfl, (by decide), (by decide), (by decide), ?_⟩
        refine fun w0 hw0 => ?_; obtain rfl : w0 = some 4118 := hw0.symm.trans (FS.g hF rfl)
        refine ⟨⟨_, rfl, (by decide)⟩, ?_⟩
        refine r_tk9_12 hF hR (hl) ht (show (I 235 6) ≤ (I 235 7) from by first | with_reducible assumption | omega | (simp only [wr, wl] at *; omega)) (show (I 235 7) ≤ (I 236 2) from by first | with_reducible assumption | omega | (simp only [wr, wl] at *; omega)) (show (I 235 6) < (I 236 2) → (I 235 6) < (I 235 7) from by first | with_reducible assumption | omega | (simp only [wr, wl] at *; omega)) (fun I236 h237 h238 h239 h240 h241 h242 h243 h244 h245 h246 h247 => ?_) (fun w248 => ?_)
        ·
          have h240 : (I 235 8) = 0 := h240
          have h241 : mkW4 tt (I 235 6) (I 235 7) := h241
          have h242 : (I 235 7) - (I 235 6) = 4 := h242
          have h243 : (I 235 6) + 4 ≤ (I236 235 6) := h243
          have h244 : (I236 235 6) ≤ (I236 235 7) := h244
          have h245 : (I236 235 7) ≤ (I 236 2) := h245
          have h246 : (I236 235 6) < (I 236 2) → (I236 235 6) < (I236 235 7) := h246
          refine ⟨fun _ => ?_, fun c => absurd c (show (¬ (1 : Int) = 0) from by decide)⟩
          refine ⟨_, rfl, (by decide), ?_⟩
          have u249 : (I236 235 8) = (I 235 8) := h239 _ _ (by first | decide | omega)
          have a250 : -2147483648 ≤ (I 235 8) ∧ (I 235 8) < 2147483648 := hA.1 _ _
          have a251 : -2147483648 ≤ (I236 235 8) ∧ (I236 235 8) < 2147483648 := h238.1 _ _
          refine ⟨fun c => absurd (show (((I236 235 8) : Int) = 0) from by first | omega | (simp only [wr, wl] at *; omega)) c, fun _ => ?_⟩
          refine ⟨fun _ => ?_, fun c => absurd (show ((3 : Int) ≤ 5) from by decide) c⟩
          refine ⟨_, rfl, (by decide), (by decide), ?_⟩
          refine ⟨_, rfl, (by decide), ?_⟩
          refine ⟨fun c => absurd (show ((0 : Int) = 0) from by decide) c, fun _ => ?_⟩
          refine ⟨fun _ => ?_, fun c => absurd c (show (¬ (3 : Int) = 4) from by decide)⟩
          refine ⟨⟨_, rfl, (by decide)⟩, ?_⟩
          have r252 : 0 ≤ (I236 235 6) ∧ (I236 235 6) ≤ 64 := Rg.f6 h237
          have r254 : 0 ≤ (I236 235 7) ∧ (I236 235 7) ≤ 64 := Rg.f7 h237
          have u256 : (I236 236 2) = (I 236 2) := h239 _ _ (by first | decide | omega)
          have a257 : -2147483648 ≤ (I236 236 2) ∧ (I236 236 2) < 2147483648 := h238.1 _ _
          have r258 : 0 ≤ (I236 236 2) ∧ (I236 236 2) ≤ 64 := Rg.n2 h237
          refine r_number9  hF (Rg.u h237 (Pr_f rfl)) (((uI_o (show ¬ (236 = 235 ∧ 2 = 8) from fun e => absurd e.1 (Nat.ne_of_beq_eq_false rfl))).trans (h239 236 2 (by first | decide | omega))).trans hl) (TXT_f ht (fun j => (uI_o (show ¬ (236 = 235 ∧ (1228 + j) = 8) from fun e => absurd e.1 (Nat.ne_of_beq_eq_false rfl))).trans (h239 236 (1228 + j) (by omega)))) (show (I236 235 6) ≤ (I236 235 7) from by first | with_reducible assumption | omega | (simp only [wr, wl] at *; omega)) (show (I236 235 7) ≤ (I236 236 2) from by first | with_reducible assumption | omega | (simp only [wr, wl] at *; omega)) (show (I236 235 6) < (I236 236 2) → (I236 235 6) < (I236 235 7) from by first | with_reducible assumption | omega | (simp only [wr, wl] at *; omega)) h247.2 (fun vr259 I260 hR261 hA262 hr264 hW263 q265 q266 q267 q268 q269 q270 q271 q272 q273 qr274 => ?_)
          have hr264 : -2147483648 ≤ vr259 ∧ vr259 < 2147483648 := hr264
          have q265 : vr259 ≤ 300000 := q265
          have q266 : (I260 235 6) ≤ (I260 235 7) := q266
          have q267 : (I260 235 7) ≤ (I236 236 2) := q267
          have q268 : (I260 235 6) < (I236 236 2) → (I260 235 6) < (I260 235 7) := q268
          have q269 : (I236 235 6) ≤ (I260 235 6) := q269
          have q270 : (I260 235 8) = 0 → (I236 235 6) + 1 ≤ (I260 235 6) := q270
          have q271 : (I260 235 8) = 0 ∨ (I260 235 8) = 1 := q271
          have q272 : ¬ (I260 235 8) = 0 → vr259 = 0 ∧ (I260 235 6) = (I236 235 6) ∧ (I260 235 7) = (I236 235 7) := q272
          have q273 : 0 ≤ vr259 := q273
          by_cases e275 : (I260 235 8) = 0
          ·
            refine ⟨_, rfl, (by decide), ?_⟩
            have a276 : -2147483648 ≤ (I260 235 8) ∧ (I260 235 8) < 2147483648 := hA262.1 _ _
            refine ⟨fun c => absurd (show (((I260 235 8) : Int) = 0) from by first | omega | (simp only [wr, wl] at *; omega)) c, fun _ => ?_⟩
            refine ⟨_, rfl, (by decide), ?_⟩
            refine fun w0 hw0 => ?_; obtain rfl : w0 = some 241 := hw0.symm.trans (FS.g hF rfl)
            refine ⟨_, rfl, (by decide), ?_⟩
            have r277 : 0 ≤ (I 235 9) ∧ (I 235 9) ≤ 17 := Rg.f9 hR
            have u278 : (I236 235 9) = (I 235 9) := h239 _ _ (by first | decide | omega)
            have a280 : -2147483648 ≤ (I236 235 9) ∧ (I236 235 9) < 2147483648 := h238.1 _ _
            have r281 : 0 ≤ (I236 235 9) ∧ (I236 235 9) ≤ 17 := Rg.f9 h237
            have u282 : (I260 235 9) = ((uI I236 235 8 0) 235 9) := hW263 _ _ (by first | decide | omega)
            have u283 : ((uI I236 235 8 0) 235 9) = (I236 235 9) := rfl
            have a284 : -2147483648 ≤ (I260 235 9) ∧ (I260 235 9) < 2147483648 := hA262.1 _ _
            have r285 : 0 ≤ (I260 235 9) ∧ (I260 235 9) ≤ 17 := Rg.f9 hR261
            have n286 : (wr (2 * (I260 235 9))) = 2 * (I260 235 9) := wr_id (show -2147483648 ≤ (2 * (I260 235 9) : Int) ∧ (2 * (I260 235 9) : Int) < 2147483648 from by omega)
            have n287 : (wr (2 + (wr (2 * (I260 235 9))))) = 2 + (wr (2 * (I260 235 9))) := wr_id (show -2147483648 ≤ (2 + (wr (2 * (I260 235 9))) : Int) ∧ (2 + (wr (2 * (I260 235 9))) : Int) < 2147483648 from by omega)
            refine ⟨_, rfl, (by decide), (show (0 : Int) ≤ (wr (2 + (wr (2 * (I260 235 9))))) from by first | with_reducible assumption | omega | (simp only [wr, wl] at *; omega)), (show (wr (2 + (wr (2 * (I260 235 9))))) < (36 : Int) from by first | with_reducible assumption | omega | (simp only [wr, wl] at *; omega)), ?_⟩
            have p288 : Pn (40 + (Int.toNat (wr (2 + (wr (2 * (I260 235 9))))))) 3 := by apply Pn_w <;> omega
            refine ⟨_, rfl, (by decide), ?_⟩
            refine fun w0 hw0 => ?_; obtain rfl : w0 = some 241 := hw0.symm.trans (FS.g hF rfl)
            refine ⟨_, rfl, (by decide), ?_⟩
            have n289 : (wr ((wr (2 + (wr (2 * (I260 235 9))))) + 1)) = (wr (2 + (wr (2 * (I260 235 9))))) + 1 := wr_id (show -2147483648 ≤ ((wr (2 + (wr (2 * (I260 235 9))))) + 1 : Int) ∧ ((wr (2 + (wr (2 * (I260 235 9))))) + 1 : Int) < 2147483648 from by omega)
            refine ⟨_, rfl, (by decide), (show (0 : Int) ≤ (wr ((wr (2 + (wr (2 * (I260 235 9))))) + 1)) from by first | with_reducible assumption | omega | (simp only [wr, wl] at *; omega)), (show (wr ((wr (2 + (wr (2 * (I260 235 9))))) + 1)) < (36 : Int) from by first | with_reducible assumption | omega | (simp only [wr, wl] at *; omega)), ?_⟩
            have p290 : Pn (40 + (Int.toNat (wr ((wr (2 + (wr (2 * (I260 235 9))))) + 1)))) vr259 := by apply Pn_w <;> omega
            refine ⟨_, rfl, (by decide), ?_⟩
            refine ⟨_, rfl, (by decide), ?_⟩
            have n291 : (wr ((I260 235 9) + 1)) = (I260 235 9) + 1 := wr_id (show -2147483648 ≤ ((I260 235 9) + 1 : Int) ∧ ((I260 235 9) + 1 : Int) < 2147483648 from by omega)
            have p292 : (0 : Int) ≤ (wr ((I260 235 9) + 1)) ∧ ((wr ((I260 235 9) + 1)) : Int) ≤ 17 := by first | omega | (simp only [wr, wl] at *; omega)
            have r293 : 0 ≤ (I260 235 6) ∧ (I260 235 6) ≤ 64 := Rg.f6 hR261
            have r295 : 0 ≤ (I260 235 7) ∧ (I260 235 7) ≤ 64 := Rg.f7 hR261
            exact ⟨rfl, fun hv hA' => hQ _ (Rg.u (Rg.u (Rg.u hR261 (Pr_r p288)) (Pr_r p290)) (Pr_x9 p292)) hA' (fun ka ja hk => ((uI_o (show ¬ (ka = 235 ∧ ja = 9) from by first | (intro e; obtain ⟨rfl, rfl⟩ := e; exact hk (by decide)) | omega))).trans (((uI_o (show ¬ (ka = 241 ∧ ja = (Int.toNat (wr ((wr (2 + (wr (2 * (I260 235 9))))) + 1)))) from by omega))).trans (((uI_o (show ¬ (ka = 241 ∧ ja = (Int.toNat (wr (2 + (wr (2 * (I260 235 9))))))) from by omega))).trans (((hW263 ka ja (by omega))).trans (((uI_o (show ¬ (ka = 235 ∧ ja = 8) from by first | (intro e; obtain ⟨rfl, rfl⟩ := e; exact hk (by decide)) | omega))).trans ((h239 ka ja (by omega)))))))) (show (I260 235 6) ≤ (I260 235 7) from by first | with_reducible assumption | omega | (simp only [wr, wl] at *; omega)) (show (I260 235 7) ≤ (I 236 2) from by first | with_reducible assumption | omega | (simp only [wr, wl] at *; omega)) (show (I260 235 6) < (I 236 2) → (I260 235 6) < (I260 235 7) from by first | with_reducible assumption | omega | (simp only [wr, wl] at *; omega)) (show (I 235 6) ≤ (I260 235 6) from by first | with_reducible assumption | omega | (simp only [wr, wl] at *; omega)) (show (I260 235 8) = 0 → (wr ((I260 235 9) + 1)) = (I 235 9) + 1 ∧ (I 235 6) + 3 ≤ (I260 235 6) from by first | with_reducible assumption | omega | (simp only [wr, wl] at *; omega)) (show ¬ (I260 235 8) = 0 → (wr ((I260 235 9) + 1)) = (I 235 9) from by first | with_reducible assumption | omega | (simp only [wr, wl] at *; omega)) (show (I260 235 8) = 0 ∨ (I260 235 8) = 1 from by first | omega | (simp only [wr, wl] at *; omega)) ((by
                              have ha := aF_4 (w20 hw) (w96 hw) (w172 hw) h241
                              have e1 := Tok_n h247
                              have hn : nF tt (na tt nn (I 235 7)) (nb tt nn (I 235 7)) = vr259 := by rw [← e1.1, ← e1.2]; exact (qr274.1 e275).1
                              have e2 := Tok_n (show Tok tt nn (I236 235 7) _ _ from (qr274.1 e275).2)
                              rw [e1.2] at e2
                              refine ⟨fun _ => ⟨⟨by rw [ha]; decide, Or.inr (by rw [hn]; omega)⟩, ?_, ?_, fun j h1 h2 => (uI_o (show ¬ (241 = 235 ∧ j = 9) from fun e => absurd e.1 (Nat.ne_of_beq_eq_false rfl))).trans ((uJ_ne (show ¬ j = (Int.toNat (wr ((wr (2 + (wr (2 * (I260 235 9))))) + 1))) from by omega)).trans ((uJ_ne (show ¬ j = (Int.toNat (wr (2 + (wr (2 * (I260 235 9)))))) from by omega)).trans ((hW263 241 (j) (by omega)).trans ((uI_o (show ¬ (241 = 235 ∧ j = 8) from fun e => absurd e.1 (Nat.ne_of_beq_eq_false rfl))).trans (h239 241 (j) (by omega)))))), ?_, ?_⟩, fun z => absurd (show (I260 235 8) = 0 from e275) z⟩
                              · unfold peA; rw [if_neg (by rw [ha]; decide)]; exact ((uJ_ne (show ¬ 6 = 9 from Nat.ne_of_beq_eq_false rfl)).trans ((uI_o (show ¬ (235 = 241 ∧ 6 = (Int.toNat (wr ((wr (2 + (wr (2 * (I260 235 9))))) + 1)))) from fun e => absurd e.1 (Nat.ne_of_beq_eq_false rfl))).trans (uI_o (show ¬ (235 = 241 ∧ 6 = (Int.toNat (wr (2 + (wr (2 * (I260 235 9))))))) from fun e => absurd e.1 (Nat.ne_of_beq_eq_false rfl))))).trans e2.1
                              · unfold peB; rw [if_neg (by rw [ha]; decide)]; exact ((uJ_ne (show ¬ 7 = 9 from Nat.ne_of_beq_eq_false rfl)).trans ((uI_o (show ¬ (235 = 241 ∧ 7 = (Int.toNat (wr ((wr (2 + (wr (2 * (I260 235 9))))) + 1)))) from fun e => absurd e.1 (Nat.ne_of_beq_eq_false rfl))).trans (uI_o (show ¬ (235 = 241 ∧ 7 = (Int.toNat (wr (2 + (wr (2 * (I260 235 9))))))) from fun e => absurd e.1 (Nat.ne_of_beq_eq_false rfl))))).trans e2.2
                              · exact ((uI_o (show ¬ (241 = 235 ∧ (2 + 2 * (Int.toNat (I 235 9))) = 9) from fun e => absurd e.1 (Nat.ne_of_beq_eq_false rfl))).trans ((uJ_ne (show ¬ (2 + 2 * (Int.toNat (I 235 9))) = (Int.toNat (wr ((wr (2 + (wr (2 * (I260 235 9))))) + 1))) from by omega)).trans (uJ_eqj (show (2 + 2 * (Int.toNat (I 235 9))) = (Int.toNat (wr (2 + (wr (2 * (I260 235 9)))))) from by omega)))).trans ha.symm
                              · unfold pam; rw [if_neg (by rw [ha]; decide)]; exact ((uI_o (show ¬ (241 = 235 ∧ (3 + 2 * (Int.toNat (I 235 9))) = 9) from fun e => absurd e.1 (Nat.ne_of_beq_eq_false rfl))).trans (uJ_eqj (show (3 + 2 * (Int.toNat (I 235 9))) = (Int.toNat (wr ((wr (2 + (wr (2 * (I260 235 9))))) + 1))) from by omega))).trans hn.symm))⟩
          ·
            have e297 : (I260 235 8) = 1 := by omega
            refine ⟨_, rfl, (by decide), ?_⟩
            have a298 : -2147483648 ≤ (I260 235 8) ∧ (I260 235 8) < 2147483648 := hA262.1 _ _
            refine ⟨fun _ => ?_, fun c => absurd c (show (¬ ((I260 235 8) : Int) = 0) from by first | omega | (simp only [wr, wl] at *; omega))⟩
            have r299 : 0 ≤ (I260 235 6) ∧ (I260 235 6) ≤ 64 := Rg.f6 hR261
            have r301 : 0 ≤ (I260 235 7) ∧ (I260 235 7) ≤ 64 := Rg.f7 hR261
            have r303 : 0 ≤ (I 235 9) ∧ (I 235 9) ≤ 17 := Rg.f9 hR
            have u304 : (I236 235 9) = (I 235 9) := h239 _ _ (by first | decide | omega)
            have a306 : -2147483648 ≤ (I236 235 9) ∧ (I236 235 9) < 2147483648 := h238.1 _ _
            have r307 : 0 ≤ (I236 235 9) ∧ (I236 235 9) ≤ 17 := Rg.f9 h237
            have u308 : (I260 235 9) = ((uI I236 235 8 0) 235 9) := hW263 _ _ (by first | decide | omega)
            have u309 : ((uI I236 235 8 0) 235 9) = (I236 235 9) := rfl
            have a310 : -2147483648 ≤ (I260 235 9) ∧ (I260 235 9) < 2147483648 := hA262.1 _ _
            have r311 : 0 ≤ (I260 235 9) ∧ (I260 235 9) ≤ 17 := Rg.f9 hR261
            exact ⟨rfl, fun hv hA' => hQ _ hR261 hA' (fun ka ja hk => ((hW263 ka ja (by omega))).trans (((uI_o (show ¬ (ka = 235 ∧ ja = 8) from by first | (intro e; obtain ⟨rfl, rfl⟩ := e; exact hk (by decide)) | omega))).trans ((h239 ka ja (by omega))))) (show (I260 235 6) ≤ (I260 235 7) from by first | with_reducible assumption | omega | (simp only [wr, wl] at *; omega)) (show (I260 235 7) ≤ (I 236 2) from by first | with_reducible assumption | omega | (simp only [wr, wl] at *; omega)) (show (I260 235 6) < (I 236 2) → (I260 235 6) < (I260 235 7) from by first | with_reducible assumption | omega | (simp only [wr, wl] at *; omega)) (show (I 235 6) ≤ (I260 235 6) from by first | with_reducible assumption | omega | (simp only [wr, wl] at *; omega)) (show (I260 235 8) = 0 → (I260 235 9) = (I 235 9) + 1 ∧ (I 235 6) + 3 ≤ (I260 235 6) from by first | with_reducible assumption | omega | (simp only [wr, wl] at *; omega)) (show ¬ (I260 235 8) = 0 → (I260 235 9) = (I 235 9) from by first | with_reducible assumption | omega | (simp only [wr, wl] at *; omega)) (show (I260 235 8) = 0 ∨ (I260 235 8) = 1 from by first | omega | (simp only [wr, wl] at *; omega)) ((by
                              have ha := aF_4 (w20 hw) (w96 hw) (w172 hw) h241
                              have e1 := Tok_n h247
                              have hn : nF tt (na tt nn (I 235 7)) (nb tt nn (I 235 7)) = -1 := by rw [← e1.1, ← e1.2]; exact qr274.2 e275
                              refine ⟨fun z => absurd z e275, fun _ => ⟨fun z => ?_, ?_, fun j => (hW263 241 j (by omega)).trans ((uI_o (show ¬ (241 = 235 ∧ j = 8) from fun e => absurd e.1 (Nat.ne_of_beq_eq_false rfl))).trans (h239 241 j (by omega)))⟩⟩
                              · have y := z.2
                                rw [ha, hn] at y; omega
                              · unfold pfl; rw [if_neg (by rw [ha]; decide), ← e1.1]; omega))⟩
        ·
          have w248 : (I 235 8) = 0 → ¬ mkW4 tt (I 235 6) (I 235 7) := fun e z => w248 ⟨e, z⟩
          refine ⟨fun c => absurd (show ((0 : Int) = 0) from by decide) c, fun _ => ?_⟩
          refine ⟨fun c => absurd c (show (¬ ((5 : Int) < 4)) from by decide), fun _ => ?_⟩
          refine ⟨_, rfl, (by decide), ?_⟩
          refine fun w0 hw0 => ?_; obtain rfl : w0 = some 240 := hw0.symm.trans (FS.g hF rfl)
          refine ⟨_, _, (by decide), rfl, (by decide), (by decide), (by decide), ?_⟩
          refine fun w0 hw0 => ?_; obtain rfl : w0 = some 4119 := hw0.symm.trans (FS.g hF rfl)
          refine ⟨⟨_, rfl, (by decide)⟩, ?_⟩
          refine r_tk9_13 hF hR (hl) ht (show (I 235 6) ≤ (I 235 7) from by first | with_reducible assumption | omega | (simp only [wr, wl] at *; omega)) (show (I 235 7) ≤ (I 236 2) from by first | with_reducible assumption | omega | (simp only [wr, wl] at *; omega)) (show (I 235 6) < (I 236 2) → (I 235 6) < (I 235 7) from by first | with_reducible assumption | omega | (simp only [wr, wl] at *; omega)) (fun I312 h313 h314 h315 h316 h317 h318 h319 h320 h321 h322 h323 => ?_) (fun w324 => ?_)
          ·
            have h316 : (I 235 8) = 0 := h316
            have h317 : mkW5 tt (I 235 6) (I 235 7) := h317
            have h318 : (I 235 7) - (I 235 6) = 4 := h318
            have h319 : (I 235 6) + 4 ≤ (I312 235 6) := h319
            have h320 : (I312 235 6) ≤ (I312 235 7) := h320
            have h321 : (I312 235 7) ≤ (I 236 2) := h321
            have h322 : (I312 235 6) < (I 236 2) → (I312 235 6) < (I312 235 7) := h322
            refine ⟨fun _ => ?_, fun c => absurd c (show (¬ (1 : Int) = 0) from by decide)⟩
            refine ⟨_, rfl, (by decide), ?_⟩
            have u325 : (I312 235 8) = (I 235 8) := h315 _ _ (by first | decide | omega)
            have a326 : -2147483648 ≤ (I 235 8) ∧ (I 235 8) < 2147483648 := hA.1 _ _
            have a327 : -2147483648 ≤ (I312 235 8) ∧ (I312 235 8) < 2147483648 := h314.1 _ _
            refine ⟨fun c => absurd (show (((I312 235 8) : Int) = 0) from by first | omega | (simp only [wr, wl] at *; omega)) c, fun _ => ?_⟩
            refine ⟨fun _ => ?_, fun c => absurd (show ((4 : Int) ≤ 5) from by decide) c⟩
            refine ⟨_, rfl, (by decide), (by decide), ?_⟩
            refine ⟨_, rfl, (by decide), ?_⟩
            refine ⟨fun c => absurd (show ((0 : Int) = 0) from by decide) c, fun _ => ?_⟩
            refine ⟨fun c => absurd (show ((4 : Int) = 4) from by decide) c, fun _ => ?_⟩
            refine ⟨_, rfl, (by decide), ?_⟩
            refine ⟨fun c => absurd (show ((0 : Int) = 0) from by decide) c, fun _ => ?_⟩
            refine ⟨_, rfl, (by decide), ?_⟩
            refine fun w0 hw0 => ?_; obtain rfl : w0 = some 241 := hw0.symm.trans (FS.g hF rfl)
            refine ⟨_, rfl, (by decide), ?_⟩
            have r328 : 0 ≤ (I 235 9) ∧ (I 235 9) ≤ 17 := Rg.f9 hR
            have u329 : (I312 235 9) = (I 235 9) := h315 _ _ (by first | decide | omega)
            have a331 : -2147483648 ≤ (I312 235 9) ∧ (I312 235 9) < 2147483648 := h314.1 _ _
            have r332 : 0 ≤ (I312 235 9) ∧ (I312 235 9) ≤ 17 := Rg.f9 h313
            have n333 : (wr (2 * (I312 235 9))) = 2 * (I312 235 9) := wr_id (show -2147483648 ≤ (2 * (I312 235 9) : Int) ∧ (2 * (I312 235 9) : Int) < 2147483648 from by omega)
            have n334 : (wr (2 + (wr (2 * (I312 235 9))))) = 2 + (wr (2 * (I312 235 9))) := wr_id (show -2147483648 ≤ (2 + (wr (2 * (I312 235 9))) : Int) ∧ (2 + (wr (2 * (I312 235 9))) : Int) < 2147483648 from by omega)
            refine ⟨_, rfl, (by decide), (show (0 : Int) ≤ (wr (2 + (wr (2 * (I312 235 9))))) from by first | with_reducible assumption | omega | (simp only [wr, wl] at *; omega)), (show (wr (2 + (wr (2 * (I312 235 9))))) < (36 : Int) from by first | with_reducible assumption | omega | (simp only [wr, wl] at *; omega)), ?_⟩
            have p335 : Pn (40 + (Int.toNat (wr (2 + (wr (2 * (I312 235 9))))))) 4 := by apply Pn_w <;> omega
            refine ⟨_, rfl, (by decide), ?_⟩
            refine fun w0 hw0 => ?_; obtain rfl : w0 = some 241 := hw0.symm.trans (FS.g hF rfl)
            refine ⟨_, rfl, (by decide), ?_⟩
            have n336 : (wr ((wr (2 + (wr (2 * (I312 235 9))))) + 1)) = (wr (2 + (wr (2 * (I312 235 9))))) + 1 := wr_id (show -2147483648 ≤ ((wr (2 + (wr (2 * (I312 235 9))))) + 1 : Int) ∧ ((wr (2 + (wr (2 * (I312 235 9))))) + 1 : Int) < 2147483648 from by omega)
            refine ⟨_, rfl, (by decide), (show (0 : Int) ≤ (wr ((wr (2 + (wr (2 * (I312 235 9))))) + 1)) from by first | with_reducible assumption | omega | (simp only [wr, wl] at *; omega)), (show (wr ((wr (2 + (wr (2 * (I312 235 9))))) + 1)) < (36 : Int) from by first | with_reducible assumption | omega | (simp only [wr, wl] at *; omega)), ?_⟩
            have p337 : Pn (40 + (Int.toNat (wr ((wr (2 + (wr (2 * (I312 235 9))))) + 1)))) 0 := by apply Pn_w <;> omega
            refine ⟨_, rfl, (by decide), ?_⟩
            refine ⟨_, rfl, (by decide), ?_⟩
            have n338 : (wr ((I312 235 9) + 1)) = (I312 235 9) + 1 := wr_id (show -2147483648 ≤ ((I312 235 9) + 1 : Int) ∧ ((I312 235 9) + 1 : Int) < 2147483648 from by omega)
            have p339 : (0 : Int) ≤ (wr ((I312 235 9) + 1)) ∧ ((wr ((I312 235 9) + 1)) : Int) ≤ 17 := by first | omega | (simp only [wr, wl] at *; omega)
            have r340 : 0 ≤ (I312 235 6) ∧ (I312 235 6) ≤ 64 := Rg.f6 h313
            have r342 : 0 ≤ (I312 235 7) ∧ (I312 235 7) ≤ 64 := Rg.f7 h313
            exact ⟨rfl, fun hv hA' => hQ _ (Rg.u (Rg.u (Rg.u (Rg.u h313 (Pr_f rfl)) (Pr_r p335)) (Pr_r p337)) (Pr_x9 p339)) hA' (fun ka ja hk => ((uI_o (show ¬ (ka = 235 ∧ ja = 9) from by first | (intro e; obtain ⟨rfl, rfl⟩ := e; exact hk (by decide)) | omega))).trans (((uI_o (show ¬ (ka = 241 ∧ ja = (Int.toNat (wr ((wr (2 + (wr (2 * (I312 235 9))))) + 1)))) from by omega))).trans (((uI_o (show ¬ (ka = 241 ∧ ja = (Int.toNat (wr (2 + (wr (2 * (I312 235 9))))))) from by omega))).trans (((uI_o (show ¬ (ka = 235 ∧ ja = 8) from by first | (intro e; obtain ⟨rfl, rfl⟩ := e; exact hk (by decide)) | omega))).trans ((h315 ka ja (by omega))))))) (show (I312 235 6) ≤ (I312 235 7) from by first | with_reducible assumption | omega | (simp only [wr, wl] at *; omega)) (show (I312 235 7) ≤ (I 236 2) from by first | with_reducible assumption | omega | (simp only [wr, wl] at *; omega)) (show (I312 235 6) < (I 236 2) → (I312 235 6) < (I312 235 7) from by first | with_reducible assumption | omega | (simp only [wr, wl] at *; omega)) (show (I 235 6) ≤ (I312 235 6) from by first | with_reducible assumption | omega | (simp only [wr, wl] at *; omega)) (show 0 = 0 → (wr ((I312 235 9) + 1)) = (I 235 9) + 1 ∧ (I 235 6) + 3 ≤ (I312 235 6) from by first | with_reducible assumption | omega | (simp only [wr, wl] at *; omega)) (show ¬ 0 = 0 → (wr ((I312 235 9) + 1)) = (I 235 9) from by first | with_reducible assumption | omega | (simp only [wr, wl] at *; omega)) (show 0 = 0 ∨ 0 = 1 from by first | omega | (simp only [wr, wl] at *; omega)) ((by
                              have ha := aF_5 (w20 hw) (w96 hw) (w172 hw) (w248 hw) h317
                              have e1 := Tok_n h323
                              refine ⟨fun _ => ⟨⟨by rw [ha]; decide, Or.inl ha⟩, ?_, ?_, fun j h1 h2 => (uI_o (show ¬ (241 = 235 ∧ j = 9) from fun e => absurd e.1 (Nat.ne_of_beq_eq_false rfl))).trans ((uJ_ne (show ¬ j = (Int.toNat (wr ((wr (2 + (wr (2 * (I312 235 9))))) + 1))) from by omega)).trans ((uJ_ne (show ¬ j = (Int.toNat (wr (2 + (wr (2 * (I312 235 9)))))) from by omega)).trans ((uI_o (show ¬ (241 = 235 ∧ j = 8) from fun e => absurd e.1 (Nat.ne_of_beq_eq_false rfl))).trans (h315 241 (j) (by omega))))), ?_, ?_⟩, fun z => absurd (by rfl) z⟩
                              · unfold peA; rw [if_pos ha]; exact ((uJ_ne (show ¬ 6 = 9 from Nat.ne_of_beq_eq_false rfl)).trans ((uI_o (show ¬ (235 = 241 ∧ 6 = (Int.toNat (wr ((wr (2 + (wr (2 * (I312 235 9))))) + 1)))) from fun e => absurd e.1 (Nat.ne_of_beq_eq_false rfl))).trans ((uI_o (show ¬ (235 = 241 ∧ 6 = (Int.toNat (wr (2 + (wr (2 * (I312 235 9))))))) from fun e => absurd e.1 (Nat.ne_of_beq_eq_false rfl))).trans (uJ_ne (show ¬ 6 = 8 from Nat.ne_of_beq_eq_false rfl))))).trans e1.1
                              · unfold peB; rw [if_pos ha]; exact ((uJ_ne (show ¬ 7 = 9 from Nat.ne_of_beq_eq_false rfl)).trans ((uI_o (show ¬ (235 = 241 ∧ 7 = (Int.toNat (wr ((wr (2 + (wr (2 * (I312 235 9))))) + 1)))) from fun e => absurd e.1 (Nat.ne_of_beq_eq_false rfl))).trans ((uI_o (show ¬ (235 = 241 ∧ 7 = (Int.toNat (wr (2 + (wr (2 * (I312 235 9))))))) from fun e => absurd e.1 (Nat.ne_of_beq_eq_false rfl))).trans (uJ_ne (show ¬ 7 = 8 from Nat.ne_of_beq_eq_false rfl))))).trans e1.2
                              · exact ((uI_o (show ¬ (241 = 235 ∧ (2 + 2 * (Int.toNat (I 235 9))) = 9) from fun e => absurd e.1 (Nat.ne_of_beq_eq_false rfl))).trans ((uJ_ne (show ¬ (2 + 2 * (Int.toNat (I 235 9))) = (Int.toNat (wr ((wr (2 + (wr (2 * (I312 235 9))))) + 1))) from by omega)).trans (uJ_eqj (show (2 + 2 * (Int.toNat (I 235 9))) = (Int.toNat (wr (2 + (wr (2 * (I312 235 9)))))) from by omega)))).trans ha.symm
                              · unfold pam; rw [if_pos ha]; exact ((uI_o (show ¬ (241 = 235 ∧ (3 + 2 * (Int.toNat (I 235 9))) = 9) from fun e => absurd e.1 (Nat.ne_of_beq_eq_false rfl))).trans (uJ_eqj (show (3 + 2 * (Int.toNat (I 235 9))) = (Int.toNat (wr ((wr (2 + (wr (2 * (I312 235 9))))) + 1))) from by omega)))))⟩
          ·
            have w324 : (I 235 8) = 0 → ¬ mkW5 tt (I 235 6) (I 235 7) := fun e z => w324 ⟨e, z⟩
            refine ⟨fun c => absurd (show ((0 : Int) = 0) from by decide) c, fun _ => ?_⟩
            refine ⟨fun c => absurd c (show (¬ ((5 : Int) < 5)) from by decide), fun _ => ?_⟩
            refine ⟨_, rfl, (by decide), ?_⟩
            refine fun w0 hw0 => ?_; obtain rfl : w0 = some 240 := hw0.symm.trans (FS.g hF rfl)
            refine ⟨_, _, (by decide), rfl, (by decide), (by decide), (by decide), ?_⟩
            refine fun w0 hw0 => ?_; obtain rfl : w0 = some 4120 := hw0.symm.trans (FS.g hF rfl)
            refine ⟨⟨_, rfl, (by decide)⟩, ?_⟩
            refine r_tk9_14 hF hR (hl) ht (show (I 235 6) ≤ (I 235 7) from by first | with_reducible assumption | omega | (simp only [wr, wl] at *; omega)) (show (I 235 7) ≤ (I 236 2) from by first | with_reducible assumption | omega | (simp only [wr, wl] at *; omega)) (show (I 235 6) < (I 236 2) → (I 235 6) < (I 235 7) from by first | with_reducible assumption | omega | (simp only [wr, wl] at *; omega)) (fun I344 h345 h346 h347 h348 h349 h350 h351 h352 h353 h354 h355 => ?_) (fun w356 => ?_)
            ·
              have h348 : (I 235 8) = 0 := h348
              have h349 : mkW6 tt (I 235 6) (I 235 7) := h349
              have h350 : (I 235 7) - (I 235 6) = 4 := h350
              have h351 : (I 235 6) + 4 ≤ (I344 235 6) := h351
              have h352 : (I344 235 6) ≤ (I344 235 7) := h352
              have h353 : (I344 235 7) ≤ (I 236 2) := h353
              have h354 : (I344 235 6) < (I 236 2) → (I344 235 6) < (I344 235 7) := h354
              refine ⟨fun _ => ?_, fun c => absurd c (show (¬ (1 : Int) = 0) from by decide)⟩
              refine ⟨_, rfl, (by decide), ?_⟩
              have u357 : (I344 235 8) = (I 235 8) := h347 _ _ (by first | decide | omega)
              have a358 : -2147483648 ≤ (I 235 8) ∧ (I 235 8) < 2147483648 := hA.1 _ _
              have a359 : -2147483648 ≤ (I344 235 8) ∧ (I344 235 8) < 2147483648 := h346.1 _ _
              refine ⟨fun c => absurd (show (((I344 235 8) : Int) = 0) from by first | omega | (simp only [wr, wl] at *; omega)) c, fun _ => ?_⟩
              refine ⟨fun _ => ?_, fun c => absurd (show ((5 : Int) ≤ 5) from by decide) c⟩
              refine ⟨_, rfl, (by decide), (by decide), ?_⟩
              refine ⟨_, rfl, (by decide), ?_⟩
              refine ⟨fun c => absurd (show ((0 : Int) = 0) from by decide) c, fun _ => ?_⟩
              refine ⟨fun _ => ?_, fun c => absurd c (show (¬ (5 : Int) = 4) from by decide)⟩
              refine ⟨⟨_, rfl, (by decide)⟩, ?_⟩
              have r360 : 0 ≤ (I344 235 6) ∧ (I344 235 6) ≤ 64 := Rg.f6 h345
              have r362 : 0 ≤ (I344 235 7) ∧ (I344 235 7) ≤ 64 := Rg.f7 h345
              have u364 : (I344 236 2) = (I 236 2) := h347 _ _ (by first | decide | omega)
              have a365 : -2147483648 ≤ (I344 236 2) ∧ (I344 236 2) < 2147483648 := h346.1 _ _
              have r366 : 0 ≤ (I344 236 2) ∧ (I344 236 2) ≤ 64 := Rg.n2 h345
              refine r_number9  hF (Rg.u h345 (Pr_f rfl)) (((uI_o (show ¬ (236 = 235 ∧ 2 = 8) from fun e => absurd e.1 (Nat.ne_of_beq_eq_false rfl))).trans (h347 236 2 (by first | decide | omega))).trans hl) (TXT_f ht (fun j => (uI_o (show ¬ (236 = 235 ∧ (1228 + j) = 8) from fun e => absurd e.1 (Nat.ne_of_beq_eq_false rfl))).trans (h347 236 (1228 + j) (by omega)))) (show (I344 235 6) ≤ (I344 235 7) from by first | with_reducible assumption | omega | (simp only [wr, wl] at *; omega)) (show (I344 235 7) ≤ (I344 236 2) from by first | with_reducible assumption | omega | (simp only [wr, wl] at *; omega)) (show (I344 235 6) < (I344 236 2) → (I344 235 6) < (I344 235 7) from by first | with_reducible assumption | omega | (simp only [wr, wl] at *; omega)) h355.2 (fun vr367 I368 hR369 hA370 hr372 hW371 q373 q374 q375 q376 q377 q378 q379 q380 q381 qr382 => ?_)
              have hr372 : -2147483648 ≤ vr367 ∧ vr367 < 2147483648 := hr372
              have q373 : vr367 ≤ 300000 := q373
              have q374 : (I368 235 6) ≤ (I368 235 7) := q374
              have q375 : (I368 235 7) ≤ (I344 236 2) := q375
              have q376 : (I368 235 6) < (I344 236 2) → (I368 235 6) < (I368 235 7) := q376
              have q377 : (I344 235 6) ≤ (I368 235 6) := q377
              have q378 : (I368 235 8) = 0 → (I344 235 6) + 1 ≤ (I368 235 6) := q378
              have q379 : (I368 235 8) = 0 ∨ (I368 235 8) = 1 := q379
              have q380 : ¬ (I368 235 8) = 0 → vr367 = 0 ∧ (I368 235 6) = (I344 235 6) ∧ (I368 235 7) = (I344 235 7) := q380
              have q381 : 0 ≤ vr367 := q381
              by_cases e383 : (I368 235 8) = 0
              ·
                refine ⟨_, rfl, (by decide), ?_⟩
                have a384 : -2147483648 ≤ (I368 235 8) ∧ (I368 235 8) < 2147483648 := hA370.1 _ _
                refine ⟨fun c => absurd (show (((I368 235 8) : Int) = 0) from by first | omega | (simp only [wr, wl] at *; omega)) c, fun _ => ?_⟩
                refine ⟨_, rfl, (by decide), ?_⟩
                refine fun w0 hw0 => ?_; obtain rfl : w0 = some 241 := hw0.symm.trans (FS.g hF rfl)
                refine ⟨_, rfl, (by decide), ?_⟩
                have r385 : 0 ≤ (I 235 9) ∧ (I 235 9) ≤ 17 := Rg.f9 hR
                have u386 : (I344 235 9) = (I 235 9) := h347 _ _ (by first | decide | omega)
                have a388 : -2147483648 ≤ (I344 235 9) ∧ (I344 235 9) < 2147483648 := h346.1 _ _
                have r389 : 0 ≤ (I344 235 9) ∧ (I344 235 9) ≤ 17 := Rg.f9 h345
                have u390 : (I368 235 9) = ((uI I344 235 8 0) 235 9) := hW371 _ _ (by first | decide | omega)
                have u391 : ((uI I344 235 8 0) 235 9) = (I344 235 9) := rfl
                have a392 : -2147483648 ≤ (I368 235 9) ∧ (I368 235 9) < 2147483648 := hA370.1 _ _
                have r393 : 0 ≤ (I368 235 9) ∧ (I368 235 9) ≤ 17 := Rg.f9 hR369
                have n394 : (wr (2 * (I368 235 9))) = 2 * (I368 235 9) := wr_id (show -2147483648 ≤ (2 * (I368 235 9) : Int) ∧ (2 * (I368 235 9) : Int) < 2147483648 from by omega)
                have n395 : (wr (2 + (wr (2 * (I368 235 9))))) = 2 + (wr (2 * (I368 235 9))) := wr_id (show -2147483648 ≤ (2 + (wr (2 * (I368 235 9))) : Int) ∧ (2 + (wr (2 * (I368 235 9))) : Int) < 2147483648 from by omega)
                refine ⟨_, rfl, (by decide), (show (0 : Int) ≤ (wr (2 + (wr (2 * (I368 235 9))))) from by first | with_reducible assumption | omega | (simp only [wr, wl] at *; omega)), (show (wr (2 + (wr (2 * (I368 235 9))))) < (36 : Int) from by first | with_reducible assumption | omega | (simp only [wr, wl] at *; omega)), ?_⟩
                have p396 : Pn (40 + (Int.toNat (wr (2 + (wr (2 * (I368 235 9))))))) 5 := by apply Pn_w <;> omega
                refine ⟨_, rfl, (by decide), ?_⟩
                refine fun w0 hw0 => ?_; obtain rfl : w0 = some 241 := hw0.symm.trans (FS.g hF rfl)
                refine ⟨_, rfl, (by decide), ?_⟩
                have n397 : (wr ((wr (2 + (wr (2 * (I368 235 9))))) + 1)) = (wr (2 + (wr (2 * (I368 235 9))))) + 1 := wr_id (show -2147483648 ≤ ((wr (2 + (wr (2 * (I368 235 9))))) + 1 : Int) ∧ ((wr (2 + (wr (2 * (I368 235 9))))) + 1 : Int) < 2147483648 from by omega)
                refine ⟨_, rfl, (by decide), (show (0 : Int) ≤ (wr ((wr (2 + (wr (2 * (I368 235 9))))) + 1)) from by first | with_reducible assumption | omega | (simp only [wr, wl] at *; omega)), (show (wr ((wr (2 + (wr (2 * (I368 235 9))))) + 1)) < (36 : Int) from by first | with_reducible assumption | omega | (simp only [wr, wl] at *; omega)), ?_⟩
                have p398 : Pn (40 + (Int.toNat (wr ((wr (2 + (wr (2 * (I368 235 9))))) + 1)))) vr367 := by apply Pn_w <;> omega
                refine ⟨_, rfl, (by decide), ?_⟩
                refine ⟨_, rfl, (by decide), ?_⟩
                have n399 : (wr ((I368 235 9) + 1)) = (I368 235 9) + 1 := wr_id (show -2147483648 ≤ ((I368 235 9) + 1 : Int) ∧ ((I368 235 9) + 1 : Int) < 2147483648 from by omega)
                have p400 : (0 : Int) ≤ (wr ((I368 235 9) + 1)) ∧ ((wr ((I368 235 9) + 1)) : Int) ≤ 17 := by first | omega | (simp only [wr, wl] at *; omega)
                have r401 : 0 ≤ (I368 235 6) ∧ (I368 235 6) ≤ 64 := Rg.f6 hR369
                have r403 : 0 ≤ (I368 235 7) ∧ (I368 235 7) ≤ 64 := Rg.f7 hR369
                exact ⟨rfl, fun hv hA' => hQ _ (Rg.u (Rg.u (Rg.u hR369 (Pr_r p396)) (Pr_r p398)) (Pr_x9 p400)) hA' (fun ka ja hk => ((uI_o (show ¬ (ka = 235 ∧ ja = 9) from by first | (intro e; obtain ⟨rfl, rfl⟩ := e; exact hk (by decide)) | omega))).trans (((uI_o (show ¬ (ka = 241 ∧ ja = (Int.toNat (wr ((wr (2 + (wr (2 * (I368 235 9))))) + 1)))) from by omega))).trans (((uI_o (show ¬ (ka = 241 ∧ ja = (Int.toNat (wr (2 + (wr (2 * (I368 235 9))))))) from by omega))).trans (((hW371 ka ja (by omega))).trans (((uI_o (show ¬ (ka = 235 ∧ ja = 8) from by first | (intro e; obtain ⟨rfl, rfl⟩ := e; exact hk (by decide)) | omega))).trans ((h347 ka ja (by omega)))))))) (show (I368 235 6) ≤ (I368 235 7) from by first | with_reducible assumption | omega | (simp only [wr, wl] at *; omega)) (show (I368 235 7) ≤ (I 236 2) from by first | with_reducible assumption | omega | (simp only [wr, wl] at *; omega)) (show (I368 235 6) < (I 236 2) → (I368 235 6) < (I368 235 7) from by first | with_reducible assumption | omega | (simp only [wr, wl] at *; omega)) (show (I 235 6) ≤ (I368 235 6) from by first | with_reducible assumption | omega | (simp only [wr, wl] at *; omega)) (show (I368 235 8) = 0 → (wr ((I368 235 9) + 1)) = (I 235 9) + 1 ∧ (I 235 6) + 3 ≤ (I368 235 6) from by first | with_reducible assumption | omega | (simp only [wr, wl] at *; omega)) (show ¬ (I368 235 8) = 0 → (wr ((I368 235 9) + 1)) = (I 235 9) from by first | with_reducible assumption | omega | (simp only [wr, wl] at *; omega)) (show (I368 235 8) = 0 ∨ (I368 235 8) = 1 from by first | omega | (simp only [wr, wl] at *; omega)) ((by
                              have ha := aF_6 (w20 hw) (w96 hw) (w172 hw) (w248 hw) (w324 hw) h349
                              have e1 := Tok_n h355
                              have hn : nF tt (na tt nn (I 235 7)) (nb tt nn (I 235 7)) = vr367 := by rw [← e1.1, ← e1.2]; exact (qr382.1 e383).1
                              have e2 := Tok_n (show Tok tt nn (I344 235 7) _ _ from (qr382.1 e383).2)
                              rw [e1.2] at e2
                              refine ⟨fun _ => ⟨⟨by rw [ha]; decide, Or.inr (by rw [hn]; omega)⟩, ?_, ?_, fun j h1 h2 => (uI_o (show ¬ (241 = 235 ∧ j = 9) from fun e => absurd e.1 (Nat.ne_of_beq_eq_false rfl))).trans ((uJ_ne (show ¬ j = (Int.toNat (wr ((wr (2 + (wr (2 * (I368 235 9))))) + 1))) from by omega)).trans ((uJ_ne (show ¬ j = (Int.toNat (wr (2 + (wr (2 * (I368 235 9)))))) from by omega)).trans ((hW371 241 (j) (by omega)).trans ((uI_o (show ¬ (241 = 235 ∧ j = 8) from fun e => absurd e.1 (Nat.ne_of_beq_eq_false rfl))).trans (h347 241 (j) (by omega)))))), ?_, ?_⟩, fun z => absurd (show (I368 235 8) = 0 from e383) z⟩
                              · unfold peA; rw [if_neg (by rw [ha]; decide)]; exact ((uJ_ne (show ¬ 6 = 9 from Nat.ne_of_beq_eq_false rfl)).trans ((uI_o (show ¬ (235 = 241 ∧ 6 = (Int.toNat (wr ((wr (2 + (wr (2 * (I368 235 9))))) + 1)))) from fun e => absurd e.1 (Nat.ne_of_beq_eq_false rfl))).trans (uI_o (show ¬ (235 = 241 ∧ 6 = (Int.toNat (wr (2 + (wr (2 * (I368 235 9))))))) from fun e => absurd e.1 (Nat.ne_of_beq_eq_false rfl))))).trans e2.1
                              · unfold peB; rw [if_neg (by rw [ha]; decide)]; exact ((uJ_ne (show ¬ 7 = 9 from Nat.ne_of_beq_eq_false rfl)).trans ((uI_o (show ¬ (235 = 241 ∧ 7 = (Int.toNat (wr ((wr (2 + (wr (2 * (I368 235 9))))) + 1)))) from fun e => absurd e.1 (Nat.ne_of_beq_eq_false rfl))).trans (uI_o (show ¬ (235 = 241 ∧ 7 = (Int.toNat (wr (2 + (wr (2 * (I368 235 9))))))) from fun e => absurd e.1 (Nat.ne_of_beq_eq_false rfl))))).trans e2.2
                              · exact ((uI_o (show ¬ (241 = 235 ∧ (2 + 2 * (Int.toNat (I 235 9))) = 9) from fun e => absurd e.1 (Nat.ne_of_beq_eq_false rfl))).trans ((uJ_ne (show ¬ (2 + 2 * (Int.toNat (I 235 9))) = (Int.toNat (wr ((wr (2 + (wr (2 * (I368 235 9))))) + 1))) from by omega)).trans (uJ_eqj (show (2 + 2 * (Int.toNat (I 235 9))) = (Int.toNat (wr (2 + (wr (2 * (I368 235 9)))))) from by omega)))).trans ha.symm
                              · unfold pam; rw [if_neg (by rw [ha]; decide)]; exact ((uI_o (show ¬ (241 = 235 ∧ (3 + 2 * (Int.toNat (I 235 9))) = 9) from fun e => absurd e.1 (Nat.ne_of_beq_eq_false rfl))).trans (uJ_eqj (show (3 + 2 * (Int.toNat (I 235 9))) = (Int.toNat (wr ((wr (2 + (wr (2 * (I368 235 9))))) + 1))) from by omega))).trans hn.symm))⟩
              ·
                have e405 : (I368 235 8) = 1 := by omega
                refine ⟨_, rfl, (by decide), ?_⟩
                have a406 : -2147483648 ≤ (I368 235 8) ∧ (I368 235 8) < 2147483648 := hA370.1 _ _
                refine ⟨fun _ => ?_, fun c => absurd c (show (¬ ((I368 235 8) : Int) = 0) from by first | omega | (simp only [wr, wl] at *; omega))⟩
                have r407 : 0 ≤ (I368 235 6) ∧ (I368 235 6) ≤ 64 := Rg.f6 hR369
                have r409 : 0 ≤ (I368 235 7) ∧ (I368 235 7) ≤ 64 := Rg.f7 hR369
                have r411 : 0 ≤ (I 235 9) ∧ (I 235 9) ≤ 17 := Rg.f9 hR
                have u412 : (I344 235 9) = (I 235 9) := h347 _ _ (by first | decide | omega)
                have a414 : -2147483648 ≤ (I344 235 9) ∧ (I344 235 9) < 2147483648 := h346.1 _ _
                have r415 : 0 ≤ (I344 235 9) ∧ (I344 235 9) ≤ 17 := Rg.f9 h345
                have u416 : (I368 235 9) = ((uI I344 235 8 0) 235 9) := hW371 _ _ (by first | decide | omega)
                have u417 : ((uI I344 235 8 0) 235 9) = (I344 235 9) := rfl
                have a418 : -2147483648 ≤ (I368 235 9) ∧ (I368 235 9) < 2147483648 := hA370.1 _ _
                have r419 : 0 ≤ (I368 235 9) ∧ (I368 235 9) ≤ 17 := Rg.f9 hR369
                exact ⟨rfl, fun hv hA' => hQ _ hR369 hA' (fun ka ja hk => ((hW371 ka ja (by omega))).trans (((uI_o (show ¬ (ka = 235 ∧ ja = 8) from by first | (intro e; obtain ⟨rfl, rfl⟩ := e; exact hk (by decide)) | omega))).trans ((h347 ka ja (by omega))))) (show (I368 235 6) ≤ (I368 235 7) from by first | with_reducible assumption | omega | (simp only [wr, wl] at *; omega)) (show (I368 235 7) ≤ (I 236 2) from by first | with_reducible assumption | omega | (simp only [wr, wl] at *; omega)) (show (I368 235 6) < (I 236 2) → (I368 235 6) < (I368 235 7) from by first | with_reducible assumption | omega | (simp only [wr, wl] at *; omega)) (show (I 235 6) ≤ (I368 235 6) from by first | with_reducible assumption | omega | (simp only [wr, wl] at *; omega)) (show (I368 235 8) = 0 → (I368 235 9) = (I 235 9) + 1 ∧ (I 235 6) + 3 ≤ (I368 235 6) from by first | with_reducible assumption | omega | (simp only [wr, wl] at *; omega)) (show ¬ (I368 235 8) = 0 → (I368 235 9) = (I 235 9) from by first | with_reducible assumption | omega | (simp only [wr, wl] at *; omega)) (show (I368 235 8) = 0 ∨ (I368 235 8) = 1 from by first | omega | (simp only [wr, wl] at *; omega)) ((by
                              have ha := aF_6 (w20 hw) (w96 hw) (w172 hw) (w248 hw) (w324 hw) h349
                              have e1 := Tok_n h355
                              have hn : nF tt (na tt nn (I 235 7)) (nb tt nn (I 235 7)) = -1 := by rw [← e1.1, ← e1.2]; exact qr382.2 e383
                              refine ⟨fun z => absurd z e383, fun _ => ⟨fun z => ?_, ?_, fun j => (hW371 241 j (by omega)).trans ((uI_o (show ¬ (241 = 235 ∧ j = 8) from fun e => absurd e.1 (Nat.ne_of_beq_eq_false rfl))).trans (h347 241 j (by omega)))⟩⟩
                              · have y := z.2
                                rw [ha, hn] at y; omega
                              · unfold pfl; rw [if_neg (by rw [ha]; decide), ← e1.1]; omega))⟩
            ·
              have w356 : (I 235 8) = 0 → ¬ mkW6 tt (I 235 6) (I 235 7) := fun e z => w356 ⟨e, z⟩
              refine ⟨fun c => absurd (show ((0 : Int) = 0) from by decide) c, fun _ => ?_⟩
              refine ⟨fun _ => ?_, fun c => absurd (show ((5 : Int) < 6) from by decide) c⟩
              refine ⟨_, rfl, (by decide), ?_⟩
              have a420 : -2147483648 ≤ (I 235 8) ∧ (I 235 8) < 2147483648 := hA.1 _ _
              refine ⟨fun c => absurd (show (((I 235 8) : Int) = 0) from by first | omega | (simp only [wr, wl] at *; omega)) c, fun _ => ?_⟩
              refine ⟨fun c => absurd c (show (¬ ((6 : Int) ≤ 5)) from by decide), fun _ => ?_⟩
              refine ⟨_, rfl, (by decide), (by decide), ?_⟩
              refine ⟨_, rfl, (by decide), ?_⟩
              refine ⟨fun _ => ?_, fun c => absurd c (show (¬ (1 : Int) = 0) from by decide)⟩
              refine ⟨_, rfl, (by decide), ?_⟩
              refine ⟨fun _ => ?_, fun c => absurd c (show (¬ (1 : Int) = 0) from by decide)⟩
              have r421 : 0 ≤ (I 235 9) ∧ (I 235 9) ≤ 17 := Rg.f9 hR
              exact ⟨rfl, fun hv hA' => hQ _ (Rg.u hR (Pr_f rfl)) hA' (fun ka ja hk => (uI_o (show ¬ (ka = 235 ∧ ja = 8) from by first | (intro e; obtain ⟨rfl, rfl⟩ := e; exact hk (by decide)) | omega))) (show (I 235 6) ≤ (I 235 7) from by first | with_reducible assumption | omega | (simp only [wr, wl] at *; omega)) (show (I 235 7) ≤ (I 236 2) from by first | with_reducible assumption | omega | (simp only [wr, wl] at *; omega)) (show (I 235 6) < (I 236 2) → (I 235 6) < (I 235 7) from by first | with_reducible assumption | omega | (simp only [wr, wl] at *; omega)) (show (I 235 6) ≤ (I 235 6) from Int.le_refl _) (show 1 = 0 → (I 235 9) = (I 235 9) + 1 ∧ (I 235 6) + 3 ≤ (I 235 6) from fun z => absurd z (by decide)) (show ¬ 1 = 0 → (I 235 9) = (I 235 9) from by first | with_reducible assumption | omega | (simp only [wr, wl] at *; omega)) (show 1 = 0 ∨ 1 = 1 from by first | omega | (simp only [wr, wl] at *; omega)) ((by
                              have ha := aF_7 (t := tt) (a := I 235 6) (b := I 235 7) (w20 hw) (w96 hw) (w172 hw) (w248 hw) (w324 hw) (w356 hw)
                              refine ⟨fun z => absurd (show (1 : Int) = 0 from z) (by decide), fun _ => ⟨fun z => ?_, ?_, fun j => uI_o (show ¬ (241 = 235 ∧ j = 8) from fun e => absurd e.1 (Nat.ne_of_beq_eq_false rfl))⟩⟩
                              · have y := z.1
                                omega
                              · show I 235 6 = _
                                unfold pfl; rw [if_pos (by rw [ha]; decide)]))⟩
theorem r_program9_l2 (hF : FS F) (hR : Rg I) {v0 : Int} {tt : Int → Int} {nn : Int} (hl : I 236 2 = nn) (ht : TXT tt nn (fun j => I 236 (1228 + j))) (hp : 0 ≤ v0 ∧ v0 ≤ 3) (hQ : ∀ (r : Int) (I' : pI), Rg I' → (∀ k j, ¬ ((k = 235 ∧ (j = 6 ∨ j = 7 ∨ j = 8 ∨ j = 9)) ∨ k = 241 ∨ k = 238 ∨ (k = 236 ∧ (j = 2 ∨ (40 ≤ j ∧ j < 184)))) → I' k j = I k j) → ((I' 236 2) = 0) → (∃ (x : Int) (m : Nat), RESP tt nn x m ∧ -1 ≤ x ∧ (0 ≤ x → r = -10 - x ∧ ∀ j : Nat, 40 ≤ j → j < 184 → I' 236 j = I 236 j) ∧ (x = -1 → r = m + 1 ∧ m < 16 ∧ I' 236 (40 + 36 * Int.toNat v0) = m + 1 ∧ I' 236 (40 + 36 * Int.toNat v0 + 1) = fsP tt nn (m + 1) ∧ (∀ k : Nat, k < m + 1 → I' 236 (40 + 36 * Int.toNat v0 + (2 + 2 * k)) = actP tt nn k ∧ I' 236 (40 + 36 * Int.toNat v0 + (3 + 2 * k)) = amP tt nn k) ∧ ∀ j : Nat, 40 ≤ j → j < 184 → ¬ (40 + 36 * Int.toNat v0 ≤ j ∧ j < 76 + 36 * Int.toNat v0) → I' 236 j = I 236 j)) → Q (some (vi r)) F I') : ∀ (mz : Nat) (fi b k : Int) (J : pI), Rg J → (∀ k j, ¬ ((k = 235 ∧ (j = 6 ∨ j = 7 ∨ j = 8 ∨ j = 9)) ∨ k = 241 ∨ k = 238 ∨ (k = 236 ∧ (j = 2 ∨ (40 ≤ j ∧ j < 184)))) → J k j = I k j) → ((0 : Int) ≤ fi) → ((fi : Int) ≤ 17) → ((0 : Int) ≤ b) → ((b : Int) ≤ 1) → ((0 : Int) ≤ k) → ((k : Int) ≤ 36) → (1 ≤ (J 235 9) ∧ (J 235 9) ≤ 16) → (∀ j : Nat, (j : Int) < k → J 236 (40 + 36 * Int.toNat v0 + j) = J 241 j) → (∀ j : Nat, 40 ≤ j → j < 184 → ¬ (40 + 36 * Int.toNat v0 ≤ j ∧ j < 76 + 36 * Int.toNat v0) → J 236 j = I 236 j) → (∃ m : Nat, RESP tt nn (-1) m ∧ (m : Int) + 1 = (J 235 9) ∧ J 241 1 = fsP tt nn (m + 1) ∧ J 241 0 = m + 1) → (∀ k : Nat, (k : Int) < (J 235 9) → J 241 (2 + 2 * k) = actP tt nn k ∧ J 241 (3 + 2 * k) = amP tt nn k) → ((J 236 2) = 0) → (36 - k).toNat < mz → GoN G d kX12_program NP NP 169 [some (vr 235), some (vi v0), some (vi fi), some (vi b), some (vi k)] [] F J Q := by
  intro mz
  induction mz with
  | zero => intro fi b k J hJ hV _ _ _ _ _ _ _ _ _ _ _ _ h; exact absurd h (Nat.not_lt_zero _)
  | succ mz ih =>
    intro fi b k J hJ hV cc100 cc101 cc102 cc103 cc104 cc105 cc106 cc107 cc108 cc109 cc110 cc111 hm
    refine GoN_in (fun hok hA => ?_)
    have iiv0 : -2147483648 ≤ v0 ∧ v0 < 2147483648 := hok 1 _ rfl
    have iifi : -2147483648 ≤ fi ∧ fi < 2147483648 := hok 2 _ rfl
    have iib : -2147483648 ≤ b ∧ b < 2147483648 := hok 3 _ rfl
    have iik : -2147483648 ≤ k ∧ k < 2147483648 := hok 4 _ rfl
    have r1 : 0 ≤ (J 235 9) ∧ (J 235 9) ≤ 17 := Rg.f9 hJ
    have r3 : 0 ≤ (J 236 2) ∧ (J 236 2) ≤ 64 := Rg.n2 hJ
    refine Go_wp (by decide) ckX12_program [169] ?_
    refine ⟨fun (c5 : ((36 : Int) ≤ k)) => ?_, fun (c5 : (¬ ((36 : Int) ≤ k))) => ?_⟩
    ·
      refine ⟨_, rfl, (by decide), ?_⟩
      exact ⟨rfl, hQ _ _ hJ (fun ka ja hk => (hV ka ja (by omega))) (show (J 236 2) = 0 from by first | omega | (simp only [wr, wl] at *; omega)) ((by
                              obtain ⟨m, y1, y2, y3, y4⟩ := cc109
                              have c := fun j hj => cc107 j hj
                              refine ⟨-1, m, y1, by decide, fun z => absurd z (by decide), fun _ => ⟨y2.symm, by omega, ?_, ?_, fun q hq => ⟨?_, ?_⟩, cc108⟩⟩
                              · exact (c 0 (by omega)).trans y4
                              · exact (c 1 (by omega)).trans y3
                              · exact (c (2 + 2 * q) (by omega)).trans (cc110 q (by omega)).1
                              · exact (c (3 + 2 * q) (by omega)).trans (cc110 q (by omega)).2))⟩
    ·
      refine ⟨_, rfl, (by decide), ?_⟩
      refine fun w0 hw0 => ?_; obtain rfl : w0 = some 236 := hw0.symm.trans (FS.g hF rfl)
      refine ⟨_, rfl, (by decide), ?_⟩
      refine fun w0 hw0 => ?_; obtain rfl : w0 = some 241 := hw0.symm.trans (FS.g hF rfl)
      refine ⟨_, rfl, (by decide), (show (0 : Int) ≤ k from by first | with_reducible assumption | omega | (simp only [wr, wl] at *; omega)), (show k < (36 : Int) from by first | with_reducible assumption | omega | (simp only [wr, wl] at *; omega)), ?_⟩
      have n6 : (wr (36 * v0)) = 36 * v0 := wr_id (show -2147483648 ≤ (36 * v0 : Int) ∧ (36 * v0 : Int) < 2147483648 from by omega)
      have n7 : (wr (40 + (wr (36 * v0)))) = 40 + (wr (36 * v0)) := wr_id (show -2147483648 ≤ (40 + (wr (36 * v0)) : Int) ∧ (40 + (wr (36 * v0)) : Int) < 2147483648 from by omega)
      have n8 : (wr ((wr (40 + (wr (36 * v0)))) + k)) = (wr (40 + (wr (36 * v0)))) + k := wr_id (show -2147483648 ≤ ((wr (40 + (wr (36 * v0)))) + k : Int) ∧ ((wr (40 + (wr (36 * v0)))) + k : Int) < 2147483648 from by omega)
      refine ⟨_, rfl, (by decide), (show (0 : Int) ≤ (wr ((wr (40 + (wr (36 * v0)))) + k)) from by first | with_reducible assumption | omega | (simp only [wr, wl] at *; omega)), (show (wr ((wr (40 + (wr (36 * v0)))) + k)) < (1340 : Int) from by first | with_reducible assumption | omega | (simp only [wr, wl] at *; omega)), ?_⟩
      have n9 : (wr (k + 1)) = k + 1 := wr_id (show -2147483648 ≤ (k + 1 : Int) ∧ (k + 1 : Int) < 2147483648 from by omega)
      have u10 : ((uI J 236 (Int.toNat (wr ((wr (40 + (wr (36 * v0)))) + k))) (J 241 (Int.toNat k))) 236 2) = (J 236 2) := uJ_ne (by omega)
      exact ih fi b (wr (k + 1)) (uI J 236 (Int.toNat (wr ((wr (40 + (wr (36 * v0)))) + k))) (J 241 (Int.toNat k))) (Rg.u hJ (Pr_n (by have := Pn_sh (p := Int.toNat v0) (k := Int.toNat k) (by omega) (by omega) (hJ.r (Int.toNat k) (by omega)); rwa [show 40 + 36 * Int.toNat v0 + Int.toNat k = (Int.toNat (wr ((wr (40 + (wr (36 * v0)))) + k))) from by omega] at this))) (fun ka ja hk => ((uI_o (show ¬ (ka = 236 ∧ ja = (Int.toNat (wr ((wr (40 + (wr (36 * v0)))) + k)))) from by omega))).trans ((hV ka ja (by omega)))) (show (0 : Int) ≤ fi from by first | with_reducible assumption | omega | (simp only [wr, wl] at *; omega)) (show (fi : Int) ≤ 17 from by first | with_reducible assumption | omega | (simp only [wr, wl] at *; omega)) (show (0 : Int) ≤ b from by first | with_reducible assumption | omega | (simp only [wr, wl] at *; omega)) (show (b : Int) ≤ 1 from by first | with_reducible assumption | omega | (simp only [wr, wl] at *; omega)) (show (0 : Int) ≤ (wr (k + 1)) from by first | with_reducible assumption | omega | (simp only [wr, wl] at *; omega)) (show ((wr (k + 1)) : Int) ≤ 36 from by first | with_reducible assumption | omega | (simp only [wr, wl] at *; omega)) (show 1 ≤ (J 235 9) ∧ (J 235 9) ≤ 16 from by first | omega | (simp only [wr, wl] at *; omega)) (fun j hj => if e : (j : Int) = k then (uJ_eqj (show 40 + 36 * Int.toNat v0 + j = (Int.toNat (wr ((wr (40 + (wr (36 * v0)))) + k))) from by omega)).trans (show J 241 (Int.toNat k) = J 241 j from congrArg (J 241) (by omega)) else (uJ_ne (show ¬ 40 + 36 * Int.toNat v0 + j = (Int.toNat (wr ((wr (40 + (wr (36 * v0)))) + k))) from by omega)).trans (cc107 j (by omega))) (fun j h1 h2 h3 => (uJ_ne (show ¬ j = (Int.toNat (wr ((wr (40 + (wr (36 * v0)))) + k))) from by omega)).trans (cc108 j h1 h2 h3)) (show ∃ m : Nat, RESP tt nn (-1) m ∧ (m : Int) + 1 = (J 235 9) ∧ (uI J 236 (Int.toNat (wr ((wr (40 + (wr (36 * v0)))) + k))) (J 241 (Int.toNat k))) 241 1 = fsP tt nn (m + 1) ∧ (uI J 236 (Int.toNat (wr ((wr (40 + (wr (36 * v0)))) + k))) (J 241 (Int.toNat k))) 241 0 = m + 1 from cc109) (show ∀ k : Nat, (k : Int) < (J 235 9) → (uI J 236 (Int.toNat (wr ((wr (40 + (wr (36 * v0)))) + k))) (J 241 (Int.toNat k))) 241 (2 + 2 * k) = actP tt nn k ∧ (uI J 236 (Int.toNat (wr ((wr (40 + (wr (36 * v0)))) + k))) (J 241 (Int.toNat k))) 241 (3 + 2 * k) = amP tt nn k from cc110) (show ((uI J 236 (Int.toNat (wr ((wr (40 + (wr (36 * v0)))) + k))) (J 241 (Int.toNat k))) 236 2) = 0 from by first | omega | (simp only [wr, wl] at *; omega)) (show (36 - (wr (k + 1))).toNat < mz from by omega)
theorem r_program9_l1 (hF : FS F) (hR : Rg I) {v0 : Int} {tt : Int → Int} {nn : Int} (hl : I 236 2 = nn) (ht : TXT tt nn (fun j => I 236 (1228 + j))) (hp : 0 ≤ v0 ∧ v0 ≤ 3) (hQ : ∀ (r : Int) (I' : pI), Rg I' → (∀ k j, ¬ ((k = 235 ∧ (j = 6 ∨ j = 7 ∨ j = 8 ∨ j = 9)) ∨ k = 241 ∨ k = 238 ∨ (k = 236 ∧ (j = 2 ∨ (40 ≤ j ∧ j < 184)))) → I' k j = I k j) → ((I' 236 2) = 0) → (∃ (x : Int) (m : Nat), RESP tt nn x m ∧ -1 ≤ x ∧ (0 ≤ x → r = -10 - x ∧ ∀ j : Nat, 40 ≤ j → j < 184 → I' 236 j = I 236 j) ∧ (x = -1 → r = m + 1 ∧ m < 16 ∧ I' 236 (40 + 36 * Int.toNat v0) = m + 1 ∧ I' 236 (40 + 36 * Int.toNat v0 + 1) = fsP tt nn (m + 1) ∧ (∀ k : Nat, k < m + 1 → I' 236 (40 + 36 * Int.toNat v0 + (2 + 2 * k)) = actP tt nn k ∧ I' 236 (40 + 36 * Int.toNat v0 + (3 + 2 * k)) = amP tt nn k) ∧ ∀ j : Nat, 40 ≤ j → j < 184 → ¬ (40 + 36 * Int.toNat v0 ≤ j ∧ j < 76 + 36 * Int.toNat v0) → I' 236 j = I 236 j)) → Q (some (vi r)) F I') : ∀ (mz : Nat) (q b : Int) (J : pI), Rg J → (∀ k j, ¬ ((k = 235 ∧ (j = 6 ∨ j = 7 ∨ j = 8 ∨ j = 9)) ∨ k = 241 ∨ k = 238 ∨ (k = 236 ∧ (j = 2 ∨ (40 ≤ j ∧ j < 184)))) → J k j = I k j) → ((0 : Int) ≤ q) → ((q : Int) ≤ 17) → ((0 : Int) ≤ b) → ((b : Int) ≤ 1) → ((J 235 6) ≤ (J 235 7)) → ((J 235 7) ≤ (J 236 2)) → ((J 235 6) < (J 236 2) → (J 235 6) < (J 235 7)) → ((J 235 8) = 0 → 4 * (J 235 9) ≤ (J 235 6) + 1) → ((J 236 2) = nn) → ((J 235 8) = 0 ∨ (J 235 8) = 1) → ((J 235 8) = 0 → 1 ≤ (J 235 9)) → (∀ k : Nat, (k : Int) < (J 235 9) → okP tt nn k) → (∀ k : Nat, (k : Int) + (1 - (J 235 8)) < (J 235 9) → sepP tt nn k) → ((J 235 8) = 0 → eA tt nn (Int.toNat (J 235 9) - 1) = (J 235 6) ∧ eB tt nn (Int.toNat (J 235 9) - 1) = (J 235 7) ∧ (cP tt nn (Int.toNat (J 235 9) - 1)).2.2 = b) → (¬ (J 235 8) = 0 → ¬ okP tt nn (Int.toNat (J 235 9)) ∧ (J 235 6) = flP tt nn (Int.toNat (J 235 9))) → ((∀ k : Nat, (k : Int) < (J 235 9) → J 241 (2 + 2 * k) = actP tt nn k ∧ J 241 (3 + 2 * k) = amP tt nn k) ∧ ((J 235 8) = 0 → (b = 0 → fsP tt nn (Int.toNat (J 235 9)) = (J 235 9)) ∧ (b = 1 → fsP tt nn (Int.toNat (J 235 9)) = q)) ∧ ∀ j : Nat, 40 ≤ j → j < 184 → J 236 j = I 236 j) → (0 ≤ (J 235 9)) → (65 - (J 235 6)).toNat < mz → GoN G (d + 6) kX12_program NP NP 42 [some (vr 235), some (vi v0), some (vi q), some (vi b), none] [] F J Q := by
  intro mz
  induction mz with
  | zero => intro q b J hJ hV _ _ _ _ _ _ _ _ _ _ _ _ _ _ _ _ _ h; exact absurd h (Nat.not_lt_zero _)
  | succ mz ih =>
    intro q b J hJ hV cc100 cc101 cc102 cc103 cc104 cc105 cc106 cc107 cc108 cc109 cc110 cc111 cc112 cc113 cc114 cc115 cc116 hm
    refine GoN_in (fun hok hA => ?_)
    have iiv0 : -2147483648 ≤ v0 ∧ v0 < 2147483648 := hok 1 _ rfl
    have iiq : -2147483648 ≤ q ∧ q < 2147483648 := hok 2 _ rfl
    have iib : -2147483648 ≤ b ∧ b < 2147483648 := hok 3 _ rfl
    have hn2 := ht.1
    have g2 := Rg.n2 hR
    have r1 : 0 ≤ (J 235 6) ∧ (J 235 6) ≤ 64 := Rg.f6 hJ
    have r3 : 0 ≤ (J 235 7) ∧ (J 235 7) ≤ 64 := Rg.f7 hJ
    have a5 : -2147483648 ≤ (J 235 8) ∧ (J 235 8) < 2147483648 := hA.1 _ _
    have r6 : 0 ≤ (J 235 9) ∧ (J 235 9) ≤ 17 := Rg.f9 hJ
    have r8 : 0 ≤ (J 236 2) ∧ (J 236 2) ≤ 64 := Rg.n2 hJ
    refine Go_wp (by decide) ckX12_program [42, 169] ?_
    refine ⟨fun (c10 : ((b : Int) = 0)) => ?_, fun (c10 : (¬ ((b : Int) = 0))) => ?_⟩
    ·
      refine ⟨⟨_, rfl, (by decide)⟩, ?_⟩
      refine r_tk9_16 hF hJ cc108 (TXT_f ht (fun j => hV 236 (1228 + j) (by omega))) (show (J 235 6) ≤ (J 235 7) from by first | with_reducible assumption | omega | (simp only [wr, wl] at *; omega)) (show (J 235 7) ≤ (J 236 2) from by first | with_reducible assumption | omega | (simp only [wr, wl] at *; omega)) (show (J 235 6) < (J 236 2) → (J 235 6) < (J 235 7) from by first | with_reducible assumption | omega | (simp only [wr, wl] at *; omega)) (fun I11 h12 h13 h14 h15 h16 h17 h18 h19 h20 h21 h22 => ?_) (fun w23 => ?_)
      ·
        have h15 : (J 235 8) = 0 := h15
        have h16 : mkW8 tt (J 235 6) (J 235 7) := h16
        have h17 : (J 235 7) - (J 235 6) = 1 := h17
        have h18 : (J 235 6) + 1 ≤ (I11 235 6) := h18
        have h19 : (I11 235 6) ≤ (I11 235 7) := h19
        have h20 : (I11 235 7) ≤ (J 236 2) := h20
        have h21 : (I11 235 6) < (J 236 2) → (I11 235 6) < (I11 235 7) := h21
        refine ⟨fun c => absurd c (show (¬ ((1 : Int) = 0)) from by decide), fun _ => ?_⟩
        refine ⟨fun c => absurd (show ((b : Int) = 0) from by first | omega | (simp only [wr, wl] at *; omega)) c, fun _ => ?_⟩
        refine ⟨⟨_, rfl, (by decide)⟩, ?_⟩
        have r24 : 0 ≤ (I11 235 6) ∧ (I11 235 6) ≤ 64 := Rg.f6 h12
        have r26 : 0 ≤ (I11 235 7) ∧ (I11 235 7) ≤ 64 := Rg.f7 h12
        have u28 : (I11 236 2) = (J 236 2) := h14 _ _ (by first | decide | omega)
        have a29 : -2147483648 ≤ (I11 236 2) ∧ (I11 236 2) < 2147483648 := h13.1 _ _
        have r30 : 0 ≤ (I11 236 2) ∧ (I11 236 2) ≤ 64 := Rg.n2 h12
        have u31 : (I11 235 8) = (J 235 8) := h14 _ _ (by first | decide | omega)
        have a32 : -2147483648 ≤ (I11 235 8) ∧ (I11 235 8) < 2147483648 := h13.1 _ _
        refine r_tk9_17 hF h12 ((h14 236 2 (by first | decide | omega)).trans cc108) (TXT_f ht (fun j => (h14 236 (1228 + j) (by omega)).trans (hV 236 (1228 + j) (by omega)))) (show (I11 235 6) ≤ (I11 235 7) from by first | with_reducible assumption | omega | (simp only [wr, wl] at *; omega)) (show (I11 235 7) ≤ (I11 236 2) from by first | with_reducible assumption | omega | (simp only [wr, wl] at *; omega)) (show (I11 235 6) < (I11 236 2) → (I11 235 6) < (I11 235 7) from by first | with_reducible assumption | omega | (simp only [wr, wl] at *; omega)) (fun I33 h34 h35 h36 h37 h38 h39 h40 h41 h42 h43 h44 => ?_) (fun w45 => ?_)
        ·
          have h37 : (I11 235 8) = 0 := h37
          have h38 : mkW0 tt (I11 235 6) (I11 235 7) := h38
          have h39 : (I11 235 7) - (I11 235 6) = 4 := h39
          have h40 : (I11 235 6) + 4 ≤ (I33 235 6) := h40
          have h41 : (I33 235 6) ≤ (I33 235 7) := h41
          have h42 : (I33 235 7) ≤ (I11 236 2) := h42
          have h43 : (I33 235 6) < (I11 236 2) → (I33 235 6) < (I33 235 7) := h43
          refine ⟨fun c => absurd c (show (¬ ((1 : Int) = 0)) from by decide), fun _ => ?_⟩
          refine ⟨_, rfl, (by decide), ?_⟩
          have u46 : (I11 235 9) = (J 235 9) := h14 _ _ (by first | decide | omega)
          have a47 : -2147483648 ≤ (I11 235 9) ∧ (I11 235 9) < 2147483648 := h13.1 _ _
          have r48 : 0 ≤ (I11 235 9) ∧ (I11 235 9) ≤ 17 := Rg.f9 h12
          have u49 : (I33 235 9) = (I11 235 9) := h36 _ _ (by first | decide | omega)
          have a50 : -2147483648 ≤ (I33 235 9) ∧ (I33 235 9) < 2147483648 := h35.1 _ _
          have r51 : 0 ≤ (I33 235 9) ∧ (I33 235 9) ≤ 17 := Rg.f9 h34
          refine ⟨⟨_, rfl, (by decide)⟩, ?_⟩
          have r52 : 0 ≤ (I33 235 6) ∧ (I33 235 6) ≤ 64 := Rg.f6 h34
          have r53 : 0 ≤ (I33 235 7) ∧ (I33 235 7) ≤ 64 := Rg.f7 h34
          have ht1 := Tok_n h22
          have hsq : twP tt nn (Int.toNat (J 235 9)) = (I11 235 6, I11 235 7, b) := (by
                              obtain ⟨y1, y2, y3⟩ := cc113 (by omega)
                              have e : (Int.toNat (J 235 9)) = (Int.toNat (J 235 9) - 1) + 1 := by omega
                              show twP tt nn (Int.toNat (J 235 9)) = _
                              rw [e, twP_s (a := (cP tt nn (Int.toNat (J 235 9) - 1)).1) (b := (cP tt nn (Int.toNat (J 235 9) - 1)).2.1) (l := (cP tt nn (Int.toNat (J 235 9) - 1)).2.2) rfl (show J 235 7 = _ from y2.symm), y3, ← ht1.1, ← ht1.2])
          have ht0 := Tok_n h44
          have hc : cP tt nn (Int.toNat (J 235 9)) = ((I33 235 6), (I33 235 7), 1) := (cP_y hsq (by omega) (by omega) h38).trans (by rw [← ht0.1, ← ht0.2])
          have u56 : (I33 236 2) = (I11 236 2) := h36 _ _ (by first | decide | omega)
          have a57 : -2147483648 ≤ (I33 236 2) ∧ (I33 236 2) < 2147483648 := h35.1 _ _
          have r58 : 0 ≤ (I33 236 2) ∧ (I33 236 2) ≤ 64 := Rg.n2 h34
          have u59 : (I33 235 8) = (I11 235 8) := h36 _ _ (by first | decide | omega)
          have a60 : -2147483648 ≤ (I33 235 8) ∧ (I33 235 8) < 2147483648 := h35.1 _ _
          refine r_part9  hF h34 (((h36 236 2 (by first | decide | omega)).trans (h14 236 2 (by first | decide | omega))).trans cc108) (TXT_f ht (fun j => (h36 236 (1228 + j) (by omega)).trans ((h14 236 (1228 + j) (by omega)).trans (hV 236 (1228 + j) (by omega))))) (show (I33 235 6) ≤ (I33 235 7) from by first | with_reducible assumption | omega | (simp only [wr, wl] at *; omega)) (show (I33 235 7) ≤ (I33 236 2) from by first | with_reducible assumption | omega | (simp only [wr, wl] at *; omega)) (show (I33 235 6) < (I33 236 2) → (I33 235 6) < (I33 235 7) from by first | with_reducible assumption | omega | (simp only [wr, wl] at *; omega)) (show (I33 235 8) = 0 from by first | omega | (simp only [wr, wl] at *; omega)) (show 0 ≤ (I33 235 9) ∧ (I33 235 9) ≤ 16 from by first | omega | (simp only [wr, wl] at *; omega)) (fun I61 hR62 hA63 hW64 q65 q66 q67 q68 q69 q70 q71 qr72 => ?_)
          have q65 : (I61 235 6) ≤ (I61 235 7) := q65
          have q66 : (I61 235 7) ≤ (I33 236 2) := q66
          have q67 : (I61 235 6) < (I33 236 2) → (I61 235 6) < (I61 235 7) := q67
          have q68 : (I33 235 6) ≤ (I61 235 6) := q68
          have q69 : (I61 235 8) = 0 → (I61 235 9) = (I33 235 9) + 1 ∧ (I33 235 6) + 3 ≤ (I61 235 6) := q69
          have q70 : ¬ (I61 235 8) = 0 → (I61 235 9) = (I33 235 9) := q70
          have q71 : (I61 235 8) = 0 ∨ (I61 235 8) = 1 := q71
          by_cases e73 : (I61 235 8) = 0
          ·
            have r75 : 0 ≤ (I61 235 6) ∧ (I61 235 6) ≤ 64 := Rg.f6 hR62
            have r77 : 0 ≤ (I61 235 7) ∧ (I61 235 7) ≤ 64 := Rg.f7 hR62
            have a79 : -2147483648 ≤ (I61 235 8) ∧ (I61 235 8) < 2147483648 := hA63.1 _ _
            have r80 : 0 ≤ (I61 235 9) ∧ (I61 235 9) ≤ 17 := Rg.f9 hR62
            have u82 : (I61 236 2) = (I33 236 2) := hW64 _ _ (by first | decide | omega)
            have a83 : -2147483648 ≤ (I61 236 2) ∧ (I61 236 2) < 2147483648 := hA63.1 _ _
            have r84 : 0 ≤ (I61 236 2) ∧ (I61 236 2) ≤ 64 := Rg.n2 hR62
            exact ih (I33 235 9) 1 I61 hR62 (fun ka ja hk => ((hW64 ka ja (by omega))).trans (((h36 ka ja (by omega))).trans (((h14 ka ja (by omega))).trans ((hV ka ja (by omega)))))) (show (0 : Int) ≤ (I33 235 9) from by first | with_reducible assumption | omega | (simp only [wr, wl] at *; omega)) (show ((I33 235 9) : Int) ≤ 17 from by first | with_reducible assumption | omega | (simp only [wr, wl] at *; omega)) (show (0 : Int) ≤ (1 : Int) from by first | with_reducible assumption | omega | (simp only [wr, wl] at *; omega)) (show ((1 : Int) : Int) ≤ 1 from by first | with_reducible assumption | omega | (simp only [wr, wl] at *; omega)) (show (I61 235 6) ≤ (I61 235 7) from by first | with_reducible assumption | omega | (simp only [wr, wl] at *; omega)) (show (I61 235 7) ≤ (I61 236 2) from by first | with_reducible assumption | omega | (simp only [wr, wl] at *; omega)) (show (I61 235 6) < (I61 236 2) → (I61 235 6) < (I61 235 7) from by first | with_reducible assumption | omega | (simp only [wr, wl] at *; omega)) (show (I61 235 8) = 0 → 4 * (I61 235 9) ≤ (I61 235 6) + 1 from by first | with_reducible assumption | omega | (simp only [wr, wl] at *; omega)) (show (I61 236 2) = nn from by first | omega | (simp only [wr, wl] at *; omega)) (show (I61 235 8) = 0 ∨ (I61 235 8) = 1 from by first | omega | (simp only [wr, wl] at *; omega)) (show (I61 235 8) = 0 → 1 ≤ (I61 235 9) from by first | with_reducible assumption | omega | (simp only [wr, wl] at *; omega)) (show ∀ k : Nat, (k : Int) < (I61 235 9) → okP tt nn k from fun k hk => if e : (k : Int) < J 235 9 then cc111 k e else (by
                              obtain rfl : k = (Int.toNat (J 235 9)) := by omega
                              exact (okP_i hc).2 (qr72.1 (by omega)).1)) (show ∀ k : Nat, (k : Int) + (1 - (I61 235 8)) < (I61 235 9) → sepP tt nn k from fun k hk => if e : (k : Int) + 1 < J 235 9 then cc112 k (by omega) else (by
                              obtain ⟨y1, y2, y3⟩ := cc113 (by omega)
                              obtain rfl : k = Int.toNat (J 235 9) - 1 := by omega
                              unfold sepP
                              rw [y1, y2, y3]
                              exact ⟨fun _ => h16, fun z => absurd (by omega) z⟩)) (show (I61 235 8) = 0 → eA tt nn (Int.toNat (I61 235 9) - 1) = (I61 235 6) ∧ eB tt nn (Int.toNat (I61 235 9) - 1) = (I61 235 7) ∧ (cP tt nn (Int.toNat (I61 235 9) - 1)).2.2 = (1 : Int) from fun _ => (by
                              have hq := qr72.1 (by omega)
                              rw [show Int.toNat (I61 235 9) - 1 = (Int.toNat (J 235 9)) from by omega, eA_i hc, eB_i hc, hc]
                              exact ⟨hq.2.1.symm, hq.2.2.1.symm, rfl⟩)) (show ¬ (I61 235 8) = 0 → ¬ okP tt nn (Int.toNat (I61 235 9)) ∧ (I61 235 6) = flP tt nn (Int.toNat (I61 235 9)) from fun z => absurd (by omega) z) ((by
                              have hq := qr72.1 (by omega)
                              have hC : I33 235 9 = J 235 9 := (h36 235 9 (by first | decide | omega)).trans (h14 235 9 (by first | decide | omega))
                              rw [hC] at hq
                              have ho := cc115
                              refine ⟨fun k hk => ?_, ?_, fun j h1 h2 => ((hW64 236 (j) (by omega)).trans ((h36 236 (j) (by omega)).trans (h14 236 (j) (by omega)))).trans (cc115.2.2 j h1 h2)⟩
                              · by_cases e : (k : Int) = J 235 9
                                · obtain rfl : k = (Int.toNat (J 235 9)) := by omega
                                  rw [actP_i hc, amP_i hc]
                                  exact ⟨hq.2.2.2.2.1, hq.2.2.2.2.2⟩
                                · have z := ho.1 k (by omega)
                                  exact ⟨(hq.2.2.2.1 _ (by omega) (by omega)).trans (((h36 241 ((2 + 2 * k)) (by omega)).trans (h14 241 ((2 + 2 * k)) (by omega))).trans z.1), (hq.2.2.2.1 _ (by omega) (by omega)).trans (((h36 241 ((3 + 2 * k)) (by omega)).trans (h14 241 ((3 + 2 * k)) (by omega))).trans z.2)⟩
                              · intro _
                                have z := ho.2.1 (by omega)
                                rw [show Int.toNat (I61 235 9) = (Int.toNat (J 235 9)) + 1 from by omega, fsP_s hc]
                                refine ⟨fun _ => ?_, fun _ => ?_⟩
                                all_goals first | omega | (have z1 := z.1 (by omega); omega) | (have z2 := z.2 (by omega); omega))) (show 0 ≤ (I61 235 9) from by first | with_reducible assumption | omega | (simp only [wr, wl] at *; omega)) (show (65 - (I61 235 6)).toNat < mz from by omega)
          ·
            have e74 : (I61 235 8) = 1 := by omega
            have r85 : 0 ≤ (I61 235 6) ∧ (I61 235 6) ≤ 64 := Rg.f6 hR62
            have r87 : 0 ≤ (I61 235 7) ∧ (I61 235 7) ≤ 64 := Rg.f7 hR62
            have a89 : -2147483648 ≤ (I61 235 8) ∧ (I61 235 8) < 2147483648 := hA63.1 _ _
            have r90 : 0 ≤ (I61 235 9) ∧ (I61 235 9) ≤ 17 := Rg.f9 hR62
            have u92 : (I61 236 2) = (I33 236 2) := hW64 _ _ (by first | decide | omega)
            have a93 : -2147483648 ≤ (I61 236 2) ∧ (I61 236 2) < 2147483648 := hA63.1 _ _
            have r94 : 0 ≤ (I61 236 2) ∧ (I61 236 2) ≤ 64 := Rg.n2 hR62
            exact ih (I33 235 9) 1 I61 hR62 (fun ka ja hk => ((hW64 ka ja (by omega))).trans (((h36 ka ja (by omega))).trans (((h14 ka ja (by omega))).trans ((hV ka ja (by omega)))))) (show (0 : Int) ≤ (I33 235 9) from by first | with_reducible assumption | omega | (simp only [wr, wl] at *; omega)) (show ((I33 235 9) : Int) ≤ 17 from by first | with_reducible assumption | omega | (simp only [wr, wl] at *; omega)) (show (0 : Int) ≤ (1 : Int) from by first | with_reducible assumption | omega | (simp only [wr, wl] at *; omega)) (show ((1 : Int) : Int) ≤ 1 from by first | with_reducible assumption | omega | (simp only [wr, wl] at *; omega)) (show (I61 235 6) ≤ (I61 235 7) from by first | with_reducible assumption | omega | (simp only [wr, wl] at *; omega)) (show (I61 235 7) ≤ (I61 236 2) from by first | with_reducible assumption | omega | (simp only [wr, wl] at *; omega)) (show (I61 235 6) < (I61 236 2) → (I61 235 6) < (I61 235 7) from by first | with_reducible assumption | omega | (simp only [wr, wl] at *; omega)) (show (I61 235 8) = 0 → 4 * (I61 235 9) ≤ (I61 235 6) + 1 from by first | with_reducible assumption | omega | (simp only [wr, wl] at *; omega)) (show (I61 236 2) = nn from by first | omega | (simp only [wr, wl] at *; omega)) (show (I61 235 8) = 0 ∨ (I61 235 8) = 1 from by first | omega | (simp only [wr, wl] at *; omega)) (show (I61 235 8) = 0 → 1 ≤ (I61 235 9) from by first | with_reducible assumption | omega | (simp only [wr, wl] at *; omega)) (show ∀ k : Nat, (k : Int) < (I61 235 9) → okP tt nn k from fun k hk => if e : (k : Int) < J 235 9 then cc111 k e else (by
                              obtain rfl : k = (Int.toNat (J 235 9)) := by omega
                              exact (okP_i hc).2 (qr72.1 (by omega)).1)) (show ∀ k : Nat, (k : Int) + (1 - (I61 235 8)) < (I61 235 9) → sepP tt nn k from fun k hk => if e : (k : Int) + 1 < J 235 9 then cc112 k (by omega) else (by
                              obtain ⟨y1, y2, y3⟩ := cc113 (by omega)
                              obtain rfl : k = Int.toNat (J 235 9) - 1 := by omega
                              unfold sepP
                              rw [y1, y2, y3]
                              exact ⟨fun _ => h16, fun z => absurd (by omega) z⟩)) (show (I61 235 8) = 0 → eA tt nn (Int.toNat (I61 235 9) - 1) = (I61 235 6) ∧ eB tt nn (Int.toNat (I61 235 9) - 1) = (I61 235 7) ∧ (cP tt nn (Int.toNat (I61 235 9) - 1)).2.2 = (1 : Int) from fun z => absurd z (by omega)) (show ¬ (I61 235 8) = 0 → ¬ okP tt nn (Int.toNat (I61 235 9)) ∧ (I61 235 6) = flP tt nn (Int.toNat (I61 235 9)) from fun _ => (by
                              have hq := qr72.2 (by omega)
                              rw [show Int.toNat (I61 235 9) = (Int.toNat (J 235 9)) from by omega]
                              exact ⟨fun z => hq.1 ((okP_i hc).1 z), hq.2.1.trans (flP_i hc).symm⟩)) ((by
                              have hq := qr72.2 (by omega)
                              have hC : I33 235 9 = J 235 9 := (h36 235 9 (by first | decide | omega)).trans (h14 235 9 (by first | decide | omega))
                              have ho := cc115
                              refine ⟨fun k hk => ?_, fun z => absurd z (by omega), fun j h1 h2 => ((hW64 236 (j) (by omega)).trans ((h36 236 (j) (by omega)).trans (h14 236 (j) (by omega)))).trans (cc115.2.2 j h1 h2)⟩
                              have z := ho.1 k (by omega)
                              exact ⟨(hq.2.2 _).trans (((h36 241 ((2 + 2 * k)) (by omega)).trans (h14 241 ((2 + 2 * k)) (by omega))).trans z.1), (hq.2.2 _).trans (((h36 241 ((3 + 2 * k)) (by omega)).trans (h14 241 ((3 + 2 * k)) (by omega))).trans z.2)⟩)) (show 0 ≤ (I61 235 9) from by first | with_reducible assumption | omega | (simp only [wr, wl] at *; omega)) (show (65 - (I61 235 6)).toNat < mz from by omega)
        ·
          have w45 : (I11 235 8) = 0 → ¬ mkW0 tt (I11 235 6) (I11 235 7) := fun e z => w45 ⟨e, z⟩
          refine ⟨fun _ => ?_, fun c => absurd (show ((0 : Int) = 0) from by decide) c⟩
          refine ⟨⟨_, rfl, (by decide)⟩, ?_⟩
          have ht1 := Tok_n h22
          have hsq : twP tt nn (Int.toNat (J 235 9)) = (I11 235 6, I11 235 7, b) := (by
                              obtain ⟨y1, y2, y3⟩ := cc113 (by omega)
                              have e : (Int.toNat (J 235 9)) = (Int.toNat (J 235 9) - 1) + 1 := by omega
                              show twP tt nn (Int.toNat (J 235 9)) = _
                              rw [e, twP_s (a := (cP tt nn (Int.toNat (J 235 9) - 1)).1) (b := (cP tt nn (Int.toNat (J 235 9) - 1)).2.1) (l := (cP tt nn (Int.toNat (J 235 9) - 1)).2.2) rfl (show J 235 7 = _ from y2.symm), y3, ← ht1.1, ← ht1.2])
          have hc : cP tt nn (Int.toNat (J 235 9)) = ((I11 235 6), (I11 235 7), b) := cP_n hsq (fun e => w45 (by omega) e.2.2)
          have u95 : (I11 235 9) = (J 235 9) := h14 _ _ (by first | decide | omega)
          have a96 : -2147483648 ≤ (I11 235 9) ∧ (I11 235 9) < 2147483648 := h13.1 _ _
          have r97 : 0 ≤ (I11 235 9) ∧ (I11 235 9) ≤ 17 := Rg.f9 h12
          refine r_part9  hF h12 ((h14 236 2 (by first | decide | omega)).trans cc108) (TXT_f ht (fun j => (h14 236 (1228 + j) (by omega)).trans (hV 236 (1228 + j) (by omega)))) (show (I11 235 6) ≤ (I11 235 7) from by first | with_reducible assumption | omega | (simp only [wr, wl] at *; omega)) (show (I11 235 7) ≤ (I11 236 2) from by first | with_reducible assumption | omega | (simp only [wr, wl] at *; omega)) (show (I11 235 6) < (I11 236 2) → (I11 235 6) < (I11 235 7) from by first | with_reducible assumption | omega | (simp only [wr, wl] at *; omega)) (show (I11 235 8) = 0 from by first | omega | (simp only [wr, wl] at *; omega)) (show 0 ≤ (I11 235 9) ∧ (I11 235 9) ≤ 16 from by first | omega | (simp only [wr, wl] at *; omega)) (fun I98 hR99 hA100 hW101 q102 q103 q104 q105 q106 q107 q108 qr109 => ?_)
          have q102 : (I98 235 6) ≤ (I98 235 7) := q102
          have q103 : (I98 235 7) ≤ (I11 236 2) := q103
          have q104 : (I98 235 6) < (I11 236 2) → (I98 235 6) < (I98 235 7) := q104
          have q105 : (I11 235 6) ≤ (I98 235 6) := q105
          have q106 : (I98 235 8) = 0 → (I98 235 9) = (I11 235 9) + 1 ∧ (I11 235 6) + 3 ≤ (I98 235 6) := q106
          have q107 : ¬ (I98 235 8) = 0 → (I98 235 9) = (I11 235 9) := q107
          have q108 : (I98 235 8) = 0 ∨ (I98 235 8) = 1 := q108
          by_cases e110 : (I98 235 8) = 0
          ·
            have r112 : 0 ≤ (I98 235 6) ∧ (I98 235 6) ≤ 64 := Rg.f6 hR99
            have r114 : 0 ≤ (I98 235 7) ∧ (I98 235 7) ≤ 64 := Rg.f7 hR99
            have a116 : -2147483648 ≤ (I98 235 8) ∧ (I98 235 8) < 2147483648 := hA100.1 _ _
            have r117 : 0 ≤ (I98 235 9) ∧ (I98 235 9) ≤ 17 := Rg.f9 hR99
            have u119 : (I98 236 2) = (I11 236 2) := hW101 _ _ (by first | decide | omega)
            have a120 : -2147483648 ≤ (I98 236 2) ∧ (I98 236 2) < 2147483648 := hA100.1 _ _
            have r121 : 0 ≤ (I98 236 2) ∧ (I98 236 2) ≤ 64 := Rg.n2 hR99
            exact ih q b I98 hR99 (fun ka ja hk => ((hW101 ka ja (by omega))).trans (((h14 ka ja (by omega))).trans ((hV ka ja (by omega))))) (show (0 : Int) ≤ q from by first | with_reducible assumption | omega | (simp only [wr, wl] at *; omega)) (show (q : Int) ≤ 17 from by first | with_reducible assumption | omega | (simp only [wr, wl] at *; omega)) (show (0 : Int) ≤ b from by first | with_reducible assumption | omega | (simp only [wr, wl] at *; omega)) (show (b : Int) ≤ 1 from by first | with_reducible assumption | omega | (simp only [wr, wl] at *; omega)) (show (I98 235 6) ≤ (I98 235 7) from by first | with_reducible assumption | omega | (simp only [wr, wl] at *; omega)) (show (I98 235 7) ≤ (I98 236 2) from by first | with_reducible assumption | omega | (simp only [wr, wl] at *; omega)) (show (I98 235 6) < (I98 236 2) → (I98 235 6) < (I98 235 7) from by first | with_reducible assumption | omega | (simp only [wr, wl] at *; omega)) (show (I98 235 8) = 0 → 4 * (I98 235 9) ≤ (I98 235 6) + 1 from by first | with_reducible assumption | omega | (simp only [wr, wl] at *; omega)) (show (I98 236 2) = nn from by first | omega | (simp only [wr, wl] at *; omega)) (show (I98 235 8) = 0 ∨ (I98 235 8) = 1 from by first | omega | (simp only [wr, wl] at *; omega)) (show (I98 235 8) = 0 → 1 ≤ (I98 235 9) from by first | with_reducible assumption | omega | (simp only [wr, wl] at *; omega)) (show ∀ k : Nat, (k : Int) < (I98 235 9) → okP tt nn k from fun k hk => if e : (k : Int) < J 235 9 then cc111 k e else (by
                              obtain rfl : k = (Int.toNat (J 235 9)) := by omega
                              exact (okP_i hc).2 (qr109.1 (by omega)).1)) (show ∀ k : Nat, (k : Int) + (1 - (I98 235 8)) < (I98 235 9) → sepP tt nn k from fun k hk => if e : (k : Int) + 1 < J 235 9 then cc112 k (by omega) else (by
                              obtain ⟨y1, y2, y3⟩ := cc113 (by omega)
                              obtain rfl : k = Int.toNat (J 235 9) - 1 := by omega
                              unfold sepP
                              rw [y1, y2, y3]
                              exact ⟨fun _ => h16, fun z => absurd (by omega) z⟩)) (show (I98 235 8) = 0 → eA tt nn (Int.toNat (I98 235 9) - 1) = (I98 235 6) ∧ eB tt nn (Int.toNat (I98 235 9) - 1) = (I98 235 7) ∧ (cP tt nn (Int.toNat (I98 235 9) - 1)).2.2 = b from fun _ => (by
                              have hq := qr109.1 (by omega)
                              rw [show Int.toNat (I98 235 9) - 1 = (Int.toNat (J 235 9)) from by omega, eA_i hc, eB_i hc, hc]
                              exact ⟨hq.2.1.symm, hq.2.2.1.symm, rfl⟩)) (show ¬ (I98 235 8) = 0 → ¬ okP tt nn (Int.toNat (I98 235 9)) ∧ (I98 235 6) = flP tt nn (Int.toNat (I98 235 9)) from fun z => absurd (by omega) z) ((by
                              have hq := qr109.1 (by omega)
                              have hC : I11 235 9 = J 235 9 := h14 235 9 (by first | decide | omega)
                              rw [hC] at hq
                              have ho := cc115
                              refine ⟨fun k hk => ?_, ?_, fun j h1 h2 => ((hW101 236 (j) (by omega)).trans (h14 236 (j) (by omega))).trans (cc115.2.2 j h1 h2)⟩
                              · by_cases e : (k : Int) = J 235 9
                                · obtain rfl : k = (Int.toNat (J 235 9)) := by omega
                                  rw [actP_i hc, amP_i hc]
                                  exact ⟨hq.2.2.2.2.1, hq.2.2.2.2.2⟩
                                · have z := ho.1 k (by omega)
                                  exact ⟨(hq.2.2.2.1 _ (by omega) (by omega)).trans ((h14 241 ((2 + 2 * k)) (by omega)).trans z.1), (hq.2.2.2.1 _ (by omega) (by omega)).trans ((h14 241 ((3 + 2 * k)) (by omega)).trans z.2)⟩
                              · intro _
                                have z := ho.2.1 (by omega)
                                rw [show Int.toNat (I98 235 9) = (Int.toNat (J 235 9)) + 1 from by omega, fsP_s hc]
                                refine ⟨fun _ => ?_, fun _ => ?_⟩
                                all_goals first | omega | (have z1 := z.1 (by omega); omega) | (have z2 := z.2 (by omega); omega))) (show 0 ≤ (I98 235 9) from by first | with_reducible assumption | omega | (simp only [wr, wl] at *; omega)) (show (65 - (I98 235 6)).toNat < mz from by omega)
          ·
            have e111 : (I98 235 8) = 1 := by omega
            have r122 : 0 ≤ (I98 235 6) ∧ (I98 235 6) ≤ 64 := Rg.f6 hR99
            have r124 : 0 ≤ (I98 235 7) ∧ (I98 235 7) ≤ 64 := Rg.f7 hR99
            have a126 : -2147483648 ≤ (I98 235 8) ∧ (I98 235 8) < 2147483648 := hA100.1 _ _
            have r127 : 0 ≤ (I98 235 9) ∧ (I98 235 9) ≤ 17 := Rg.f9 hR99
            have u129 : (I98 236 2) = (I11 236 2) := hW101 _ _ (by first | decide | omega)
            have a130 : -2147483648 ≤ (I98 236 2) ∧ (I98 236 2) < 2147483648 := hA100.1 _ _
            have r131 : 0 ≤ (I98 236 2) ∧ (I98 236 2) ≤ 64 := Rg.n2 hR99
            exact ih q b I98 hR99 (fun ka ja hk => ((hW101 ka ja (by omega))).trans (((h14 ka ja (by omega))).trans ((hV ka ja (by omega))))) (show (0 : Int) ≤ q from by first | with_reducible assumption | omega | (simp only [wr, wl] at *; omega)) (show (q : Int) ≤ 17 from by first | with_reducible assumption | omega | (simp only [wr, wl] at *; omega)) (show (0 : Int) ≤ b from by first | with_reducible assumption | omega | (simp only [wr, wl] at *; omega)) (show (b : Int) ≤ 1 from by first | with_reducible assumption | omega | (simp only [wr, wl] at *; omega)) (show (I98 235 6) ≤ (I98 235 7) from by first | with_reducible assumption | omega | (simp only [wr, wl] at *; omega)) (show (I98 235 7) ≤ (I98 236 2) from by first | with_reducible assumption | omega | (simp only [wr, wl] at *; omega)) (show (I98 235 6) < (I98 236 2) → (I98 235 6) < (I98 235 7) from by first | with_reducible assumption | omega | (simp only [wr, wl] at *; omega)) (show (I98 235 8) = 0 → 4 * (I98 235 9) ≤ (I98 235 6) + 1 from by first | with_reducible assumption | omega | (simp only [wr, wl] at *; omega)) (show (I98 236 2) = nn from by first | omega | (simp only [wr, wl] at *; omega)) (show (I98 235 8) = 0 ∨ (I98 235 8) = 1 from by first | omega | (simp only [wr, wl] at *; omega)) (show (I98 235 8) = 0 → 1 ≤ (I98 235 9) from by first | with_reducible assumption | omega | (simp only [wr, wl] at *; omega)) (show ∀ k : Nat, (k : Int) < (I98 235 9) → okP tt nn k from fun k hk => if e : (k : Int) < J 235 9 then cc111 k e else (by
                              obtain rfl : k = (Int.toNat (J 235 9)) := by omega
                              exact (okP_i hc).2 (qr109.1 (by omega)).1)) (show ∀ k : Nat, (k : Int) + (1 - (I98 235 8)) < (I98 235 9) → sepP tt nn k from fun k hk => if e : (k : Int) + 1 < J 235 9 then cc112 k (by omega) else (by
                              obtain ⟨y1, y2, y3⟩ := cc113 (by omega)
                              obtain rfl : k = Int.toNat (J 235 9) - 1 := by omega
                              unfold sepP
                              rw [y1, y2, y3]
                              exact ⟨fun _ => h16, fun z => absurd (by omega) z⟩)) (show (I98 235 8) = 0 → eA tt nn (Int.toNat (I98 235 9) - 1) = (I98 235 6) ∧ eB tt nn (Int.toNat (I98 235 9) - 1) = (I98 235 7) ∧ (cP tt nn (Int.toNat (I98 235 9) - 1)).2.2 = b from fun z => absurd z (by omega)) (show ¬ (I98 235 8) = 0 → ¬ okP tt nn (Int.toNat (I98 235 9)) ∧ (I98 235 6) = flP tt nn (Int.toNat (I98 235 9)) from fun _ => (by
                              have hq := qr109.2 (by omega)
                              rw [show Int.toNat (I98 235 9) = (Int.toNat (J 235 9)) from by omega]
                              exact ⟨fun z => hq.1 ((okP_i hc).1 z), hq.2.1.trans (flP_i hc).symm⟩)) ((by
                              have hq := qr109.2 (by omega)
                              have hC : I11 235 9 = J 235 9 := h14 235 9 (by first | decide | omega)
                              have ho := cc115
                              refine ⟨fun k hk => ?_, fun z => absurd z (by omega), fun j h1 h2 => ((hW101 236 (j) (by omega)).trans (h14 236 (j) (by omega))).trans (cc115.2.2 j h1 h2)⟩
                              have z := ho.1 k (by omega)
                              exact ⟨(hq.2.2 _).trans ((h14 241 ((2 + 2 * k)) (by omega)).trans z.1), (hq.2.2 _).trans ((h14 241 ((3 + 2 * k)) (by omega)).trans z.2)⟩)) (show 0 ≤ (I98 235 9) from by first | with_reducible assumption | omega | (simp only [wr, wl] at *; omega)) (show (65 - (I98 235 6)).toNat < mz from by omega)
      ·
        have w23 : (J 235 8) = 0 → ¬ mkW8 tt (J 235 6) (J 235 7) := fun e z => w23 ⟨e, z⟩
        refine ⟨fun _ => ?_, fun c => absurd (show ((0 : Int) = 0) from by decide) c⟩
        refine ⟨_, rfl, (by decide), ?_⟩
        refine ⟨fun (c132 : (¬ ((J 235 8) : Int) = 0)) => ?_, fun (c132 : (((J 235 8) : Int) = 0)) => ?_⟩
        ·
          refine ⟨_, rfl, (by decide), (by decide), ?_⟩
          refine ⟨_, rfl, (by decide), ?_⟩
          refine fun w0 hw0 => ?_; obtain rfl : w0 = some 236 := hw0.symm.trans (FS.g hF rfl)
          refine ⟨_, rfl, (by decide), (by decide), (by decide), ?_⟩
          have p133 : Pn 2 0 := by apply Pn_w <;> omega
          refine ⟨_, rfl, (by decide), ?_⟩
          refine ⟨fun c => absurd c (show (¬ ((1 : Int) = 0)) from by decide), fun _ => ?_⟩
          refine ⟨_, rfl, (by decide), ?_⟩
          have n134 : (wr ((-10) - (J 235 6))) = (-10) - (J 235 6) := wr_id (show -2147483648 ≤ ((-10) - (J 235 6) : Int) ∧ ((-10) - (J 235 6) : Int) < 2147483648 from by omega)
          exact ⟨rfl, hQ _ _ (Rg.u (Rg.u hJ (Pr_f rfl)) (Pr_n p133)) (fun ka ja hk => ((uI_o (show ¬ (ka = 236 ∧ ja = 2) from by first | (intro e; obtain ⟨rfl, rfl⟩ := e; exact hk (by decide)) | omega))).trans (((uI_o (show ¬ (ka = 235 ∧ ja = 8) from by first | (intro e; obtain ⟨rfl, rfl⟩ := e; exact hk (by decide)) | omega))).trans ((hV ka ja (by omega))))) (show 0 = 0 from by first | omega | (simp only [wr, wl] at *; omega)) ((by
                              by_cases w0 : J 235 8 = 0
                              · obtain ⟨y1, y2, y3⟩ := cc113 w0
                                have ns : ¬ sepP tt nn (Int.toNat (J 235 9) - 1) := fun z => w23 w0 (by have y := z.1 (by omega); rw [y1, y2] at y; exact y)
                                exact ⟨J 235 6, Int.toNat (J 235 9) - 1, ⟨fun k hk => ⟨cc111 k (by omega), cc112 k (by omega)⟩, Or.inr ⟨cc111 _ (by omega), ns, by rw [y1, if_neg (by omega)]⟩⟩, by omega, fun _ => ⟨(show (wr ((-10) - (J 235 6))) = -10 - J 235 6 from wr_id (by unfold iR; omega)), fun j h1 h2 => ((uJ_ne (show ¬ j = 2 from by omega)).trans (uI_o (show ¬ (236 = 235 ∧ j = 8) from fun e => absurd e.1 (Nat.ne_of_beq_eq_false rfl)))).trans (cc115.2.2 j h1 h2)⟩, fun z => absurd z (by omega)⟩
                              · obtain ⟨y1, y2⟩ := cc114 w0
                                exact ⟨J 235 6, Int.toNat (J 235 9), ⟨fun k hk => ⟨cc111 k (by omega), cc112 k (by omega)⟩, Or.inl ⟨y1, by omega, y2⟩⟩, by omega, fun _ => ⟨(show (wr ((-10) - (J 235 6))) = -10 - J 235 6 from wr_id (by unfold iR; omega)), fun j h1 h2 => ((uJ_ne (show ¬ j = 2 from by omega)).trans (uI_o (show ¬ (236 = 235 ∧ j = 8) from fun e => absurd e.1 (Nat.ne_of_beq_eq_false rfl)))).trans (cc115.2.2 j h1 h2)⟩, fun z => absurd z (by omega)⟩))⟩
        ·
          refine ⟨_, rfl, (by decide), ?_⟩
          refine ⟨_, rfl, (by decide), ?_⟩
          refine fun w0 hw0 => ?_; obtain rfl : w0 = some 236 := hw0.symm.trans (FS.g hF rfl)
          refine ⟨_, rfl, (by decide), (by decide), (by decide), ?_⟩
          refine ⟨fun (c135 : (((J 236 2) : Int) ≤ (J 235 6))) => ?_, fun (c135 : (¬ (((J 236 2) : Int) ≤ (J 235 6)))) => ?_⟩
          ·
            refine ⟨_, rfl, (by decide), (by decide), ?_⟩
            refine ⟨_, rfl, (by decide), ?_⟩
            refine fun w0 hw0 => ?_; obtain rfl : w0 = some 236 := hw0.symm.trans (FS.g hF rfl)
            refine ⟨_, rfl, (by decide), (by decide), (by decide), ?_⟩
            have p136 : Pn 2 0 := by apply Pn_w <;> omega
            refine ⟨_, rfl, (by decide), ?_⟩
            refine ⟨fun _ => ?_, fun c => absurd (show ((0 : Int) = 0) from by decide) c⟩
            refine ⟨_, rfl, (by decide), ?_⟩
            refine fun w0 hw0 => ?_; obtain rfl : w0 = some 241 := hw0.symm.trans (FS.g hF rfl)
            refine ⟨_, rfl, (by decide), ?_⟩
            refine ⟨_, rfl, (by decide), (by decide), (by decide), ?_⟩
            have p137 : Pn (40 + 0) (J 235 9) := by apply Pn_w <;> omega
            refine ⟨_, rfl, (by decide), ?_⟩
            refine fun w0 hw0 => ?_; obtain rfl : w0 = some 241 := hw0.symm.trans (FS.g hF rfl)
            refine ⟨fun _ => ?_, fun c => absurd (show ((b : Int) = 0) from by first | omega | (simp only [wr, wl] at *; omega)) c⟩
            refine ⟨_, rfl, (by decide), ?_⟩
            refine ⟨_, rfl, (by decide), (by decide), (by decide), ?_⟩
            have p138 : Pn (40 + 1) (J 235 9) := by apply Pn_w <;> omega
            refine r_program9_l2 hF hR hl ht (by omega) hQ _ q b 0 (uI (uI (uI (uI J 235 8 0) 236 2 0) 241 0 (J 235 9)) 241 1 (J 235 9)) (Rg.u (Rg.u (Rg.u (Rg.u hJ (Pr_f rfl)) (Pr_n p136)) (Pr_r p137)) (Pr_r p138)) (fun ka ja hk => ((uI_o (show ¬ (ka = 241 ∧ ja = 1) from by first | (intro e; obtain ⟨rfl, rfl⟩ := e; exact hk (by decide)) | omega))).trans (((uI_o (show ¬ (ka = 241 ∧ ja = 0) from by first | (intro e; obtain ⟨rfl, rfl⟩ := e; exact hk (by decide)) | omega))).trans (((uI_o (show ¬ (ka = 236 ∧ ja = 2) from by first | (intro e; obtain ⟨rfl, rfl⟩ := e; exact hk (by decide)) | omega))).trans (((uI_o (show ¬ (ka = 235 ∧ ja = 8) from by first | (intro e; obtain ⟨rfl, rfl⟩ := e; exact hk (by decide)) | omega))).trans ((hV ka ja (by omega))))))) (show (0 : Int) ≤ q from by first | with_reducible assumption | omega | (simp only [wr, wl] at *; omega)) (show (q : Int) ≤ 17 from by first | with_reducible assumption | omega | (simp only [wr, wl] at *; omega)) (show (0 : Int) ≤ b from by first | with_reducible assumption | omega | (simp only [wr, wl] at *; omega)) (show (b : Int) ≤ 1 from by first | with_reducible assumption | omega | (simp only [wr, wl] at *; omega)) (show (0 : Int) ≤ (0 : Int) from Int.le_refl _) (show ((0 : Int) : Int) ≤ 36 from by first | with_reducible assumption | omega | (simp only [wr, wl] at *; omega)) (show 1 ≤ (J 235 9) ∧ (J 235 9) ≤ 16 from by first | omega | (simp only [wr, wl] at *; omega)) (fun j hj => absurd hj (by omega)) (fun j h1 h2 _ => ((uI_o (show ¬ (236 = 241 ∧ j = 1) from fun e => absurd e.1 (Nat.ne_of_beq_eq_false rfl))).trans ((uI_o (show ¬ (236 = 241 ∧ j = 0) from fun e => absurd e.1 (Nat.ne_of_beq_eq_false rfl))).trans ((uJ_ne (show ¬ j = 2 from by omega)).trans (uI_o (show ¬ (236 = 235 ∧ j = 8) from fun e => absurd e.1 (Nat.ne_of_beq_eq_false rfl)))))).trans (cc115.2.2 j h1 h2)) (show ∃ m : Nat, RESP tt nn (-1) m ∧ (m : Int) + 1 = (J 235 9) ∧ (uI (uI (uI (uI J 235 8 0) 236 2 0) 241 0 (J 235 9)) 241 1 (J 235 9)) 241 1 = fsP tt nn (m + 1) ∧ (uI (uI (uI (uI J 235 8 0) 236 2 0) 241 0 (J 235 9)) 241 1 (J 235 9)) 241 0 = m + 1 from (by
                              obtain ⟨y1, y2, y3⟩ := cc113 (by omega)
                              have ns : ¬ sepP tt nn (Int.toNat (J 235 9) - 1) := fun z => w23 (by omega) (by have y := z.1 (by omega); rw [y1, y2] at y; exact y)
                              have hf := cc115.2.1 (by omega)
                              refine ⟨Int.toNat (J 235 9) - 1, ⟨fun k hk => ⟨cc111 k (by omega), cc112 k (by omega)⟩, Or.inr ⟨cc111 _ (by omega), ns, by rw [y1, if_pos (by omega)]⟩⟩, by omega, ?_, ?_⟩
                              · rw [show Int.toNat (J 235 9) - 1 + 1 = Int.toNat (J 235 9) from by omega]; exact (uJ_eq).trans (by first | (have z1 := hf.1 (by omega); omega) | (have z2 := hf.2 (by omega); omega))
                              · exact (uJ_ne (by decide)).trans (uJ_eq.trans (by omega)))) (show ∀ k : Nat, (k : Int) < (J 235 9) → (uI (uI (uI (uI J 235 8 0) 236 2 0) 241 0 (J 235 9)) 241 1 (J 235 9)) 241 (2 + 2 * k) = actP tt nn k ∧ (uI (uI (uI (uI J 235 8 0) 236 2 0) 241 0 (J 235 9)) 241 1 (J 235 9)) 241 (3 + 2 * k) = amP tt nn k from fun k hk => (by
                              have z := cc115.1 k (by omega)
                              exact ⟨((uJ_ne (show ¬ (2 + 2 * k) = 1 from by omega)).trans ((uJ_ne (show ¬ (2 + 2 * k) = 0 from by omega)).trans ((uI_o (show ¬ (241 = 236 ∧ (2 + 2 * k) = 2) from fun e => absurd e.1 (Nat.ne_of_beq_eq_false rfl))).trans (uI_o (show ¬ (241 = 235 ∧ (2 + 2 * k) = 8) from fun e => absurd e.1 (Nat.ne_of_beq_eq_false rfl)))))).trans z.1, ((uJ_ne (show ¬ (3 + 2 * k) = 1 from by omega)).trans ((uJ_ne (show ¬ (3 + 2 * k) = 0 from by omega)).trans ((uI_o (show ¬ (241 = 236 ∧ (3 + 2 * k) = 2) from fun e => absurd e.1 (Nat.ne_of_beq_eq_false rfl))).trans (uI_o (show ¬ (241 = 235 ∧ (3 + 2 * k) = 8) from fun e => absurd e.1 (Nat.ne_of_beq_eq_false rfl)))))).trans z.2⟩)) (show (0 : Int) = 0 from by first | omega | (simp only [wr, wl] at *; omega)) (Nat.lt_succ_self _)
          ·
            refine ⟨_, rfl, (by decide), (by decide), ?_⟩
            refine ⟨_, rfl, (by decide), ?_⟩
            refine fun w0 hw0 => ?_; obtain rfl : w0 = some 236 := hw0.symm.trans (FS.g hF rfl)
            refine ⟨_, rfl, (by decide), (by decide), (by decide), ?_⟩
            have p139 : Pn 2 0 := by apply Pn_w <;> omega
            refine ⟨_, rfl, (by decide), ?_⟩
            refine ⟨fun c => absurd c (show (¬ ((1 : Int) = 0)) from by decide), fun _ => ?_⟩
            refine ⟨_, rfl, (by decide), ?_⟩
            have n140 : (wr ((-10) - (J 235 6))) = (-10) - (J 235 6) := wr_id (show -2147483648 ≤ ((-10) - (J 235 6) : Int) ∧ ((-10) - (J 235 6) : Int) < 2147483648 from by omega)
            exact ⟨rfl, hQ _ _ (Rg.u (Rg.u hJ (Pr_f rfl)) (Pr_n p139)) (fun ka ja hk => ((uI_o (show ¬ (ka = 236 ∧ ja = 2) from by first | (intro e; obtain ⟨rfl, rfl⟩ := e; exact hk (by decide)) | omega))).trans (((uI_o (show ¬ (ka = 235 ∧ ja = 8) from by first | (intro e; obtain ⟨rfl, rfl⟩ := e; exact hk (by decide)) | omega))).trans ((hV ka ja (by omega))))) (show 0 = 0 from by first | omega | (simp only [wr, wl] at *; omega)) ((by
                              by_cases w0 : J 235 8 = 0
                              · obtain ⟨y1, y2, y3⟩ := cc113 w0
                                have ns : ¬ sepP tt nn (Int.toNat (J 235 9) - 1) := fun z => w23 w0 (by have y := z.1 (by omega); rw [y1, y2] at y; exact y)
                                exact ⟨J 235 6, Int.toNat (J 235 9) - 1, ⟨fun k hk => ⟨cc111 k (by omega), cc112 k (by omega)⟩, Or.inr ⟨cc111 _ (by omega), ns, by rw [y1, if_neg (by omega)]⟩⟩, by omega, fun _ => ⟨(show (wr ((-10) - (J 235 6))) = -10 - J 235 6 from wr_id (by unfold iR; omega)), fun j h1 h2 => ((uJ_ne (show ¬ j = 2 from by omega)).trans (uI_o (show ¬ (236 = 235 ∧ j = 8) from fun e => absurd e.1 (Nat.ne_of_beq_eq_false rfl)))).trans (cc115.2.2 j h1 h2)⟩, fun z => absurd z (by omega)⟩
                              · obtain ⟨y1, y2⟩ := cc114 w0
                                exact ⟨J 235 6, Int.toNat (J 235 9), ⟨fun k hk => ⟨cc111 k (by omega), cc112 k (by omega)⟩, Or.inl ⟨y1, by omega, y2⟩⟩, by omega, fun _ => ⟨(show (wr ((-10) - (J 235 6))) = -10 - J 235 6 from wr_id (by unfold iR; omega)), fun j h1 h2 => ((uJ_ne (show ¬ j = 2 from by omega)).trans (uI_o (show ¬ (236 = 235 ∧ j = 8) from fun e => absurd e.1 (Nat.ne_of_beq_eq_false rfl)))).trans (cc115.2.2 j h1 h2)⟩, fun z => absurd z (by omega)⟩))⟩
    ·
      refine ⟨⟨_, rfl, (by decide)⟩, ?_⟩
      refine r_tk9_15 hF hJ cc108 (TXT_f ht (fun j => hV 236 (1228 + j) (by omega))) (show (J 235 6) ≤ (J 235 7) from by first | with_reducible assumption | omega | (simp only [wr, wl] at *; omega)) (show (J 235 7) ≤ (J 236 2) from by first | with_reducible assumption | omega | (simp only [wr, wl] at *; omega)) (show (J 235 6) < (J 236 2) → (J 235 6) < (J 235 7) from by first | with_reducible assumption | omega | (simp only [wr, wl] at *; omega)) (fun I141 h142 h143 h144 h145 h146 h147 h148 h149 h150 h151 h152 => ?_) (fun w153 => ?_)
      ·
        have h145 : (J 235 8) = 0 := h145
        have h146 : mkW7 tt (J 235 6) (J 235 7) := h146
        have h147 : (J 235 7) - (J 235 6) = 1 := h147
        have h148 : (J 235 6) + 1 ≤ (I141 235 6) := h148
        have h149 : (I141 235 6) ≤ (I141 235 7) := h149
        have h150 : (I141 235 7) ≤ (J 236 2) := h150
        have h151 : (I141 235 6) < (J 236 2) → (I141 235 6) < (I141 235 7) := h151
        refine ⟨fun c => absurd c (show (¬ ((1 : Int) = 0)) from by decide), fun _ => ?_⟩
        refine ⟨fun _ => ?_, fun c => absurd c (show (¬ (b : Int) = 0) from by first | omega | (simp only [wr, wl] at *; omega))⟩
        refine ⟨⟨_, rfl, (by decide)⟩, ?_⟩
        have r154 : 0 ≤ (I141 235 6) ∧ (I141 235 6) ≤ 64 := Rg.f6 h142
        have r155 : 0 ≤ (I141 235 7) ∧ (I141 235 7) ≤ 64 := Rg.f7 h142
        have ht1 := Tok_n h152
        have hsq : twP tt nn (Int.toNat (J 235 9)) = (I141 235 6, I141 235 7, b) := (by
                              obtain ⟨y1, y2, y3⟩ := cc113 (by omega)
                              have e : (Int.toNat (J 235 9)) = (Int.toNat (J 235 9) - 1) + 1 := by omega
                              show twP tt nn (Int.toNat (J 235 9)) = _
                              rw [e, twP_s (a := (cP tt nn (Int.toNat (J 235 9) - 1)).1) (b := (cP tt nn (Int.toNat (J 235 9) - 1)).2.1) (l := (cP tt nn (Int.toNat (J 235 9) - 1)).2.2) rfl (show J 235 7 = _ from y2.symm), y3, ← ht1.1, ← ht1.2])
        have hc : cP tt nn (Int.toNat (J 235 9)) = ((I141 235 6), (I141 235 7), b) := cP_n hsq (by omega)
        have u158 : (I141 236 2) = (J 236 2) := h144 _ _ (by first | decide | omega)
        have a159 : -2147483648 ≤ (I141 236 2) ∧ (I141 236 2) < 2147483648 := h143.1 _ _
        have r160 : 0 ≤ (I141 236 2) ∧ (I141 236 2) ≤ 64 := Rg.n2 h142
        have u161 : (I141 235 8) = (J 235 8) := h144 _ _ (by first | decide | omega)
        have a162 : -2147483648 ≤ (I141 235 8) ∧ (I141 235 8) < 2147483648 := h143.1 _ _
        have u163 : (I141 235 9) = (J 235 9) := h144 _ _ (by first | decide | omega)
        have a164 : -2147483648 ≤ (I141 235 9) ∧ (I141 235 9) < 2147483648 := h143.1 _ _
        have r165 : 0 ≤ (I141 235 9) ∧ (I141 235 9) ≤ 17 := Rg.f9 h142
        refine r_part9  hF h142 ((h144 236 2 (by first | decide | omega)).trans cc108) (TXT_f ht (fun j => (h144 236 (1228 + j) (by omega)).trans (hV 236 (1228 + j) (by omega)))) (show (I141 235 6) ≤ (I141 235 7) from by first | with_reducible assumption | omega | (simp only [wr, wl] at *; omega)) (show (I141 235 7) ≤ (I141 236 2) from by first | with_reducible assumption | omega | (simp only [wr, wl] at *; omega)) (show (I141 235 6) < (I141 236 2) → (I141 235 6) < (I141 235 7) from by first | with_reducible assumption | omega | (simp only [wr, wl] at *; omega)) (show (I141 235 8) = 0 from by first | omega | (simp only [wr, wl] at *; omega)) (show 0 ≤ (I141 235 9) ∧ (I141 235 9) ≤ 16 from by first | omega | (simp only [wr, wl] at *; omega)) (fun I166 hR167 hA168 hW169 q170 q171 q172 q173 q174 q175 q176 qr177 => ?_)
        have q170 : (I166 235 6) ≤ (I166 235 7) := q170
        have q171 : (I166 235 7) ≤ (I141 236 2) := q171
        have q172 : (I166 235 6) < (I141 236 2) → (I166 235 6) < (I166 235 7) := q172
        have q173 : (I141 235 6) ≤ (I166 235 6) := q173
        have q174 : (I166 235 8) = 0 → (I166 235 9) = (I141 235 9) + 1 ∧ (I141 235 6) + 3 ≤ (I166 235 6) := q174
        have q175 : ¬ (I166 235 8) = 0 → (I166 235 9) = (I141 235 9) := q175
        have q176 : (I166 235 8) = 0 ∨ (I166 235 8) = 1 := q176
        by_cases e178 : (I166 235 8) = 0
        ·
          have r180 : 0 ≤ (I166 235 6) ∧ (I166 235 6) ≤ 64 := Rg.f6 hR167
          have r182 : 0 ≤ (I166 235 7) ∧ (I166 235 7) ≤ 64 := Rg.f7 hR167
          have a184 : -2147483648 ≤ (I166 235 8) ∧ (I166 235 8) < 2147483648 := hA168.1 _ _
          have r185 : 0 ≤ (I166 235 9) ∧ (I166 235 9) ≤ 17 := Rg.f9 hR167
          have u187 : (I166 236 2) = (I141 236 2) := hW169 _ _ (by first | decide | omega)
          have a188 : -2147483648 ≤ (I166 236 2) ∧ (I166 236 2) < 2147483648 := hA168.1 _ _
          have r189 : 0 ≤ (I166 236 2) ∧ (I166 236 2) ≤ 64 := Rg.n2 hR167
          exact ih q b I166 hR167 (fun ka ja hk => ((hW169 ka ja (by omega))).trans (((h144 ka ja (by omega))).trans ((hV ka ja (by omega))))) (show (0 : Int) ≤ q from by first | with_reducible assumption | omega | (simp only [wr, wl] at *; omega)) (show (q : Int) ≤ 17 from by first | with_reducible assumption | omega | (simp only [wr, wl] at *; omega)) (show (0 : Int) ≤ b from by first | with_reducible assumption | omega | (simp only [wr, wl] at *; omega)) (show (b : Int) ≤ 1 from by first | with_reducible assumption | omega | (simp only [wr, wl] at *; omega)) (show (I166 235 6) ≤ (I166 235 7) from by first | with_reducible assumption | omega | (simp only [wr, wl] at *; omega)) (show (I166 235 7) ≤ (I166 236 2) from by first | with_reducible assumption | omega | (simp only [wr, wl] at *; omega)) (show (I166 235 6) < (I166 236 2) → (I166 235 6) < (I166 235 7) from by first | with_reducible assumption | omega | (simp only [wr, wl] at *; omega)) (show (I166 235 8) = 0 → 4 * (I166 235 9) ≤ (I166 235 6) + 1 from by first | with_reducible assumption | omega | (simp only [wr, wl] at *; omega)) (show (I166 236 2) = nn from by first | omega | (simp only [wr, wl] at *; omega)) (show (I166 235 8) = 0 ∨ (I166 235 8) = 1 from by first | omega | (simp only [wr, wl] at *; omega)) (show (I166 235 8) = 0 → 1 ≤ (I166 235 9) from by first | with_reducible assumption | omega | (simp only [wr, wl] at *; omega)) (show ∀ k : Nat, (k : Int) < (I166 235 9) → okP tt nn k from fun k hk => if e : (k : Int) < J 235 9 then cc111 k e else (by
                              obtain rfl : k = (Int.toNat (J 235 9)) := by omega
                              exact (okP_i hc).2 (qr177.1 (by omega)).1)) (show ∀ k : Nat, (k : Int) + (1 - (I166 235 8)) < (I166 235 9) → sepP tt nn k from fun k hk => if e : (k : Int) + 1 < J 235 9 then cc112 k (by omega) else (by
                              obtain ⟨y1, y2, y3⟩ := cc113 (by omega)
                              obtain rfl : k = Int.toNat (J 235 9) - 1 := by omega
                              unfold sepP
                              rw [y1, y2, y3]
                              exact ⟨fun z => absurd z (by omega), fun _ => h146⟩)) (show (I166 235 8) = 0 → eA tt nn (Int.toNat (I166 235 9) - 1) = (I166 235 6) ∧ eB tt nn (Int.toNat (I166 235 9) - 1) = (I166 235 7) ∧ (cP tt nn (Int.toNat (I166 235 9) - 1)).2.2 = b from fun _ => (by
                              have hq := qr177.1 (by omega)
                              rw [show Int.toNat (I166 235 9) - 1 = (Int.toNat (J 235 9)) from by omega, eA_i hc, eB_i hc, hc]
                              exact ⟨hq.2.1.symm, hq.2.2.1.symm, rfl⟩)) (show ¬ (I166 235 8) = 0 → ¬ okP tt nn (Int.toNat (I166 235 9)) ∧ (I166 235 6) = flP tt nn (Int.toNat (I166 235 9)) from fun z => absurd (by omega) z) ((by
                              have hq := qr177.1 (by omega)
                              have hC : I141 235 9 = J 235 9 := h144 235 9 (by first | decide | omega)
                              rw [hC] at hq
                              have ho := cc115
                              refine ⟨fun k hk => ?_, ?_, fun j h1 h2 => ((hW169 236 (j) (by omega)).trans (h144 236 (j) (by omega))).trans (cc115.2.2 j h1 h2)⟩
                              · by_cases e : (k : Int) = J 235 9
                                · obtain rfl : k = (Int.toNat (J 235 9)) := by omega
                                  rw [actP_i hc, amP_i hc]
                                  exact ⟨hq.2.2.2.2.1, hq.2.2.2.2.2⟩
                                · have z := ho.1 k (by omega)
                                  exact ⟨(hq.2.2.2.1 _ (by omega) (by omega)).trans ((h144 241 ((2 + 2 * k)) (by omega)).trans z.1), (hq.2.2.2.1 _ (by omega) (by omega)).trans ((h144 241 ((3 + 2 * k)) (by omega)).trans z.2)⟩
                              · intro _
                                have z := ho.2.1 (by omega)
                                rw [show Int.toNat (I166 235 9) = (Int.toNat (J 235 9)) + 1 from by omega, fsP_s hc]
                                refine ⟨fun _ => ?_, fun _ => ?_⟩
                                all_goals first | omega | (have z1 := z.1 (by omega); omega) | (have z2 := z.2 (by omega); omega))) (show 0 ≤ (I166 235 9) from by first | with_reducible assumption | omega | (simp only [wr, wl] at *; omega)) (show (65 - (I166 235 6)).toNat < mz from by omega)
        ·
          have e179 : (I166 235 8) = 1 := by omega
          have r190 : 0 ≤ (I166 235 6) ∧ (I166 235 6) ≤ 64 := Rg.f6 hR167
          have r192 : 0 ≤ (I166 235 7) ∧ (I166 235 7) ≤ 64 := Rg.f7 hR167
          have a194 : -2147483648 ≤ (I166 235 8) ∧ (I166 235 8) < 2147483648 := hA168.1 _ _
          have r195 : 0 ≤ (I166 235 9) ∧ (I166 235 9) ≤ 17 := Rg.f9 hR167
          have u197 : (I166 236 2) = (I141 236 2) := hW169 _ _ (by first | decide | omega)
          have a198 : -2147483648 ≤ (I166 236 2) ∧ (I166 236 2) < 2147483648 := hA168.1 _ _
          have r199 : 0 ≤ (I166 236 2) ∧ (I166 236 2) ≤ 64 := Rg.n2 hR167
          exact ih q b I166 hR167 (fun ka ja hk => ((hW169 ka ja (by omega))).trans (((h144 ka ja (by omega))).trans ((hV ka ja (by omega))))) (show (0 : Int) ≤ q from by first | with_reducible assumption | omega | (simp only [wr, wl] at *; omega)) (show (q : Int) ≤ 17 from by first | with_reducible assumption | omega | (simp only [wr, wl] at *; omega)) (show (0 : Int) ≤ b from by first | with_reducible assumption | omega | (simp only [wr, wl] at *; omega)) (show (b : Int) ≤ 1 from by first | with_reducible assumption | omega | (simp only [wr, wl] at *; omega)) (show (I166 235 6) ≤ (I166 235 7) from by first | with_reducible assumption | omega | (simp only [wr, wl] at *; omega)) (show (I166 235 7) ≤ (I166 236 2) from by first | with_reducible assumption | omega | (simp only [wr, wl] at *; omega)) (show (I166 235 6) < (I166 236 2) → (I166 235 6) < (I166 235 7) from by first | with_reducible assumption | omega | (simp only [wr, wl] at *; omega)) (show (I166 235 8) = 0 → 4 * (I166 235 9) ≤ (I166 235 6) + 1 from by first | with_reducible assumption | omega | (simp only [wr, wl] at *; omega)) (show (I166 236 2) = nn from by first | omega | (simp only [wr, wl] at *; omega)) (show (I166 235 8) = 0 ∨ (I166 235 8) = 1 from by first | omega | (simp only [wr, wl] at *; omega)) (show (I166 235 8) = 0 → 1 ≤ (I166 235 9) from by first | with_reducible assumption | omega | (simp only [wr, wl] at *; omega)) (show ∀ k : Nat, (k : Int) < (I166 235 9) → okP tt nn k from fun k hk => if e : (k : Int) < J 235 9 then cc111 k e else (by
                              obtain rfl : k = (Int.toNat (J 235 9)) := by omega
                              exact (okP_i hc).2 (qr177.1 (by omega)).1)) (show ∀ k : Nat, (k : Int) + (1 - (I166 235 8)) < (I166 235 9) → sepP tt nn k from fun k hk => if e : (k : Int) + 1 < J 235 9 then cc112 k (by omega) else (by
                              obtain ⟨y1, y2, y3⟩ := cc113 (by omega)
                              obtain rfl : k = Int.toNat (J 235 9) - 1 := by omega
                              unfold sepP
                              rw [y1, y2, y3]
                              exact ⟨fun z => absurd z (by omega), fun _ => h146⟩)) (show (I166 235 8) = 0 → eA tt nn (Int.toNat (I166 235 9) - 1) = (I166 235 6) ∧ eB tt nn (Int.toNat (I166 235 9) - 1) = (I166 235 7) ∧ (cP tt nn (Int.toNat (I166 235 9) - 1)).2.2 = b from fun z => absurd z (by omega)) (show ¬ (I166 235 8) = 0 → ¬ okP tt nn (Int.toNat (I166 235 9)) ∧ (I166 235 6) = flP tt nn (Int.toNat (I166 235 9)) from fun _ => (by
                              have hq := qr177.2 (by omega)
                              rw [show Int.toNat (I166 235 9) = (Int.toNat (J 235 9)) from by omega]
                              exact ⟨fun z => hq.1 ((okP_i hc).1 z), hq.2.1.trans (flP_i hc).symm⟩)) ((by
                              have hq := qr177.2 (by omega)
                              have hC : I141 235 9 = J 235 9 := h144 235 9 (by first | decide | omega)
                              have ho := cc115
                              refine ⟨fun k hk => ?_, fun z => absurd z (by omega), fun j h1 h2 => ((hW169 236 (j) (by omega)).trans (h144 236 (j) (by omega))).trans (cc115.2.2 j h1 h2)⟩
                              have z := ho.1 k (by omega)
                              exact ⟨(hq.2.2 _).trans ((h144 241 ((2 + 2 * k)) (by omega)).trans z.1), (hq.2.2 _).trans ((h144 241 ((3 + 2 * k)) (by omega)).trans z.2)⟩)) (show 0 ≤ (I166 235 9) from by first | with_reducible assumption | omega | (simp only [wr, wl] at *; omega)) (show (65 - (I166 235 6)).toNat < mz from by omega)
      ·
        have w153 : (J 235 8) = 0 → ¬ mkW7 tt (J 235 6) (J 235 7) := fun e z => w153 ⟨e, z⟩
        refine ⟨fun _ => ?_, fun c => absurd (show ((0 : Int) = 0) from by decide) c⟩
        refine ⟨_, rfl, (by decide), ?_⟩
        refine ⟨fun (c200 : (¬ ((J 235 8) : Int) = 0)) => ?_, fun (c200 : (((J 235 8) : Int) = 0)) => ?_⟩
        ·
          refine ⟨_, rfl, (by decide), (by decide), ?_⟩
          refine ⟨_, rfl, (by decide), ?_⟩
          refine fun w0 hw0 => ?_; obtain rfl : w0 = some 236 := hw0.symm.trans (FS.g hF rfl)
          refine ⟨_, rfl, (by decide), (by decide), (by decide), ?_⟩
          have p201 : Pn 2 0 := by apply Pn_w <;> omega
          refine ⟨_, rfl, (by decide), ?_⟩
          refine ⟨fun c => absurd c (show (¬ ((1 : Int) = 0)) from by decide), fun _ => ?_⟩
          refine ⟨_, rfl, (by decide), ?_⟩
          have n202 : (wr ((-10) - (J 235 6))) = (-10) - (J 235 6) := wr_id (show -2147483648 ≤ ((-10) - (J 235 6) : Int) ∧ ((-10) - (J 235 6) : Int) < 2147483648 from by omega)
          exact ⟨rfl, hQ _ _ (Rg.u (Rg.u hJ (Pr_f rfl)) (Pr_n p201)) (fun ka ja hk => ((uI_o (show ¬ (ka = 236 ∧ ja = 2) from by first | (intro e; obtain ⟨rfl, rfl⟩ := e; exact hk (by decide)) | omega))).trans (((uI_o (show ¬ (ka = 235 ∧ ja = 8) from by first | (intro e; obtain ⟨rfl, rfl⟩ := e; exact hk (by decide)) | omega))).trans ((hV ka ja (by omega))))) (show 0 = 0 from by first | omega | (simp only [wr, wl] at *; omega)) ((by
                              by_cases w0 : J 235 8 = 0
                              · obtain ⟨y1, y2, y3⟩ := cc113 w0
                                have ns : ¬ sepP tt nn (Int.toNat (J 235 9) - 1) := fun z => w153 w0 (by have y := z.2 (by omega); rw [y1, y2] at y; exact y)
                                exact ⟨J 235 6, Int.toNat (J 235 9) - 1, ⟨fun k hk => ⟨cc111 k (by omega), cc112 k (by omega)⟩, Or.inr ⟨cc111 _ (by omega), ns, by rw [y1, if_neg (by omega)]⟩⟩, by omega, fun _ => ⟨(show (wr ((-10) - (J 235 6))) = -10 - J 235 6 from wr_id (by unfold iR; omega)), fun j h1 h2 => ((uJ_ne (show ¬ j = 2 from by omega)).trans (uI_o (show ¬ (236 = 235 ∧ j = 8) from fun e => absurd e.1 (Nat.ne_of_beq_eq_false rfl)))).trans (cc115.2.2 j h1 h2)⟩, fun z => absurd z (by omega)⟩
                              · obtain ⟨y1, y2⟩ := cc114 w0
                                exact ⟨J 235 6, Int.toNat (J 235 9), ⟨fun k hk => ⟨cc111 k (by omega), cc112 k (by omega)⟩, Or.inl ⟨y1, by omega, y2⟩⟩, by omega, fun _ => ⟨(show (wr ((-10) - (J 235 6))) = -10 - J 235 6 from wr_id (by unfold iR; omega)), fun j h1 h2 => ((uJ_ne (show ¬ j = 2 from by omega)).trans (uI_o (show ¬ (236 = 235 ∧ j = 8) from fun e => absurd e.1 (Nat.ne_of_beq_eq_false rfl)))).trans (cc115.2.2 j h1 h2)⟩, fun z => absurd z (by omega)⟩))⟩
        ·
          refine ⟨_, rfl, (by decide), ?_⟩
          refine ⟨_, rfl, (by decide), ?_⟩
          refine fun w0 hw0 => ?_; obtain rfl : w0 = some 236 := hw0.symm.trans (FS.g hF rfl)
          refine ⟨_, rfl, (by decide), (by decide), (by decide), ?_⟩
          refine ⟨fun (c203 : (((J 236 2) : Int) ≤ (J 235 6))) => ?_, fun (c203 : (¬ (((J 236 2) : Int) ≤ (J 235 6)))) => ?_⟩
          ·
            refine ⟨_, rfl, (by decide), (by decide), ?_⟩
            refine ⟨_, rfl, (by decide), ?_⟩
            refine fun w0 hw0 => ?_; obtain rfl : w0 = some 236 := hw0.symm.trans (FS.g hF rfl)
            refine ⟨_, rfl, (by decide), (by decide), (by decide), ?_⟩
            have p204 : Pn 2 0 := by apply Pn_w <;> omega
            refine ⟨_, rfl, (by decide), ?_⟩
            refine ⟨fun _ => ?_, fun c => absurd (show ((0 : Int) = 0) from by decide) c⟩
            refine ⟨_, rfl, (by decide), ?_⟩
            refine fun w0 hw0 => ?_; obtain rfl : w0 = some 241 := hw0.symm.trans (FS.g hF rfl)
            refine ⟨_, rfl, (by decide), ?_⟩
            refine ⟨_, rfl, (by decide), (by decide), (by decide), ?_⟩
            have p205 : Pn (40 + 0) (J 235 9) := by apply Pn_w <;> omega
            refine ⟨_, rfl, (by decide), ?_⟩
            refine fun w0 hw0 => ?_; obtain rfl : w0 = some 241 := hw0.symm.trans (FS.g hF rfl)
            refine ⟨fun c => absurd c (show (¬ ((b : Int) = 0)) from by first | omega | (simp only [wr, wl] at *; omega)), fun _ => ?_⟩
            refine ⟨_, rfl, (by decide), (by decide), (by decide), ?_⟩
            have p206 : Pn (40 + 1) q := by apply Pn_w <;> omega
            refine r_program9_l2 hF hR hl ht (by omega) hQ _ q b 0 (uI (uI (uI (uI J 235 8 0) 236 2 0) 241 0 (J 235 9)) 241 1 q) (Rg.u (Rg.u (Rg.u (Rg.u hJ (Pr_f rfl)) (Pr_n p204)) (Pr_r p205)) (Pr_r p206)) (fun ka ja hk => ((uI_o (show ¬ (ka = 241 ∧ ja = 1) from by first | (intro e; obtain ⟨rfl, rfl⟩ := e; exact hk (by decide)) | omega))).trans (((uI_o (show ¬ (ka = 241 ∧ ja = 0) from by first | (intro e; obtain ⟨rfl, rfl⟩ := e; exact hk (by decide)) | omega))).trans (((uI_o (show ¬ (ka = 236 ∧ ja = 2) from by first | (intro e; obtain ⟨rfl, rfl⟩ := e; exact hk (by decide)) | omega))).trans (((uI_o (show ¬ (ka = 235 ∧ ja = 8) from by first | (intro e; obtain ⟨rfl, rfl⟩ := e; exact hk (by decide)) | omega))).trans ((hV ka ja (by omega))))))) (show (0 : Int) ≤ q from by first | with_reducible assumption | omega | (simp only [wr, wl] at *; omega)) (show (q : Int) ≤ 17 from by first | with_reducible assumption | omega | (simp only [wr, wl] at *; omega)) (show (0 : Int) ≤ b from by first | with_reducible assumption | omega | (simp only [wr, wl] at *; omega)) (show (b : Int) ≤ 1 from by first | with_reducible assumption | omega | (simp only [wr, wl] at *; omega)) (show (0 : Int) ≤ (0 : Int) from Int.le_refl _) (show ((0 : Int) : Int) ≤ 36 from by first | with_reducible assumption | omega | (simp only [wr, wl] at *; omega)) (show 1 ≤ (J 235 9) ∧ (J 235 9) ≤ 16 from by first | omega | (simp only [wr, wl] at *; omega)) (fun j hj => absurd hj (by omega)) (fun j h1 h2 _ => ((uI_o (show ¬ (236 = 241 ∧ j = 1) from fun e => absurd e.1 (Nat.ne_of_beq_eq_false rfl))).trans ((uI_o (show ¬ (236 = 241 ∧ j = 0) from fun e => absurd e.1 (Nat.ne_of_beq_eq_false rfl))).trans ((uJ_ne (show ¬ j = 2 from by omega)).trans (uI_o (show ¬ (236 = 235 ∧ j = 8) from fun e => absurd e.1 (Nat.ne_of_beq_eq_false rfl)))))).trans (cc115.2.2 j h1 h2)) (show ∃ m : Nat, RESP tt nn (-1) m ∧ (m : Int) + 1 = (J 235 9) ∧ (uI (uI (uI (uI J 235 8 0) 236 2 0) 241 0 (J 235 9)) 241 1 q) 241 1 = fsP tt nn (m + 1) ∧ (uI (uI (uI (uI J 235 8 0) 236 2 0) 241 0 (J 235 9)) 241 1 q) 241 0 = m + 1 from (by
                              obtain ⟨y1, y2, y3⟩ := cc113 (by omega)
                              have ns : ¬ sepP tt nn (Int.toNat (J 235 9) - 1) := fun z => w153 (by omega) (by have y := z.2 (by omega); rw [y1, y2] at y; exact y)
                              have hf := cc115.2.1 (by omega)
                              refine ⟨Int.toNat (J 235 9) - 1, ⟨fun k hk => ⟨cc111 k (by omega), cc112 k (by omega)⟩, Or.inr ⟨cc111 _ (by omega), ns, by rw [y1, if_pos (by omega)]⟩⟩, by omega, ?_, ?_⟩
                              · rw [show Int.toNat (J 235 9) - 1 + 1 = Int.toNat (J 235 9) from by omega]; exact (uJ_eq).trans (by first | (have z1 := hf.1 (by omega); omega) | (have z2 := hf.2 (by omega); omega))
                              · exact (uJ_ne (by decide)).trans (uJ_eq.trans (by omega)))) (show ∀ k : Nat, (k : Int) < (J 235 9) → (uI (uI (uI (uI J 235 8 0) 236 2 0) 241 0 (J 235 9)) 241 1 q) 241 (2 + 2 * k) = actP tt nn k ∧ (uI (uI (uI (uI J 235 8 0) 236 2 0) 241 0 (J 235 9)) 241 1 q) 241 (3 + 2 * k) = amP tt nn k from fun k hk => (by
                              have z := cc115.1 k (by omega)
                              exact ⟨((uJ_ne (show ¬ (2 + 2 * k) = 1 from by omega)).trans ((uJ_ne (show ¬ (2 + 2 * k) = 0 from by omega)).trans ((uI_o (show ¬ (241 = 236 ∧ (2 + 2 * k) = 2) from fun e => absurd e.1 (Nat.ne_of_beq_eq_false rfl))).trans (uI_o (show ¬ (241 = 235 ∧ (2 + 2 * k) = 8) from fun e => absurd e.1 (Nat.ne_of_beq_eq_false rfl)))))).trans z.1, ((uJ_ne (show ¬ (3 + 2 * k) = 1 from by omega)).trans ((uJ_ne (show ¬ (3 + 2 * k) = 0 from by omega)).trans ((uI_o (show ¬ (241 = 236 ∧ (3 + 2 * k) = 2) from fun e => absurd e.1 (Nat.ne_of_beq_eq_false rfl))).trans (uI_o (show ¬ (241 = 235 ∧ (3 + 2 * k) = 8) from fun e => absurd e.1 (Nat.ne_of_beq_eq_false rfl)))))).trans z.2⟩)) (show (0 : Int) = 0 from by first | omega | (simp only [wr, wl] at *; omega)) (Nat.lt_succ_self _)
          ·
            refine ⟨_, rfl, (by decide), (by decide), ?_⟩
            refine ⟨_, rfl, (by decide), ?_⟩
            refine fun w0 hw0 => ?_; obtain rfl : w0 = some 236 := hw0.symm.trans (FS.g hF rfl)
            refine ⟨_, rfl, (by decide), (by decide), (by decide), ?_⟩
            have p207 : Pn 2 0 := by apply Pn_w <;> omega
            refine ⟨_, rfl, (by decide), ?_⟩
            refine ⟨fun c => absurd c (show (¬ ((1 : Int) = 0)) from by decide), fun _ => ?_⟩
            refine ⟨_, rfl, (by decide), ?_⟩
            have n208 : (wr ((-10) - (J 235 6))) = (-10) - (J 235 6) := wr_id (show -2147483648 ≤ ((-10) - (J 235 6) : Int) ∧ ((-10) - (J 235 6) : Int) < 2147483648 from by omega)
            exact ⟨rfl, hQ _ _ (Rg.u (Rg.u hJ (Pr_f rfl)) (Pr_n p207)) (fun ka ja hk => ((uI_o (show ¬ (ka = 236 ∧ ja = 2) from by first | (intro e; obtain ⟨rfl, rfl⟩ := e; exact hk (by decide)) | omega))).trans (((uI_o (show ¬ (ka = 235 ∧ ja = 8) from by first | (intro e; obtain ⟨rfl, rfl⟩ := e; exact hk (by decide)) | omega))).trans ((hV ka ja (by omega))))) (show 0 = 0 from by first | omega | (simp only [wr, wl] at *; omega)) ((by
                              by_cases w0 : J 235 8 = 0
                              · obtain ⟨y1, y2, y3⟩ := cc113 w0
                                have ns : ¬ sepP tt nn (Int.toNat (J 235 9) - 1) := fun z => w153 w0 (by have y := z.2 (by omega); rw [y1, y2] at y; exact y)
                                exact ⟨J 235 6, Int.toNat (J 235 9) - 1, ⟨fun k hk => ⟨cc111 k (by omega), cc112 k (by omega)⟩, Or.inr ⟨cc111 _ (by omega), ns, by rw [y1, if_neg (by omega)]⟩⟩, by omega, fun _ => ⟨(show (wr ((-10) - (J 235 6))) = -10 - J 235 6 from wr_id (by unfold iR; omega)), fun j h1 h2 => ((uJ_ne (show ¬ j = 2 from by omega)).trans (uI_o (show ¬ (236 = 235 ∧ j = 8) from fun e => absurd e.1 (Nat.ne_of_beq_eq_false rfl)))).trans (cc115.2.2 j h1 h2)⟩, fun z => absurd z (by omega)⟩
                              · obtain ⟨y1, y2⟩ := cc114 w0
                                exact ⟨J 235 6, Int.toNat (J 235 9), ⟨fun k hk => ⟨cc111 k (by omega), cc112 k (by omega)⟩, Or.inl ⟨y1, by omega, y2⟩⟩, by omega, fun _ => ⟨(show (wr ((-10) - (J 235 6))) = -10 - J 235 6 from wr_id (by unfold iR; omega)), fun j h1 h2 => ((uJ_ne (show ¬ j = 2 from by omega)).trans (uI_o (show ¬ (236 = 235 ∧ j = 8) from fun e => absurd e.1 (Nat.ne_of_beq_eq_false rfl)))).trans (cc115.2.2 j h1 h2)⟩, fun z => absurd z (by omega)⟩))⟩
theorem r_program9 (hF : FS F) (hR : Rg I) {v0 : Int} {tt : Int → Int} {nn : Int} (hl : I 236 2 = nn) (ht : TXT tt nn (fun j => I 236 (1228 + j))) (hQ : ∀ (r : Int) (I' : pI), Rg I' → AR I' → iR r → (∀ k j, ¬ ((k = 235 ∧ (j = 6 ∨ j = 7 ∨ j = 8 ∨ j = 9)) ∨ k = 241 ∨ k = 238 ∨ (k = 236 ∧ (j = 2 ∨ (40 ≤ j ∧ j < 184)))) → I' k j = I k j) → (0 ≤ v0 ∧ v0 ≤ 3 → (I' 236 2) = 0) → (¬ (0 ≤ v0 ∧ v0 ≤ 3) → (I' 236 2) = (I 236 2)) → ((¬ (0 ≤ v0 ∧ v0 ≤ 3) → r = -1000001 ∧ ∀ j : Nat, 40 ≤ j → j < 184 → I' 236 j = I 236 j) ∧ ((0 ≤ v0 ∧ v0 ≤ 3) → ∃ (x : Int) (m : Nat), RESP tt nn x m ∧ -1 ≤ x ∧ (0 ≤ x → r = -10 - x ∧ ∀ j : Nat, 40 ≤ j → j < 184 → I' 236 j = I 236 j) ∧ (x = -1 → r = m + 1 ∧ m < 16 ∧ I' 236 (40 + 36 * Int.toNat v0) = m + 1 ∧ I' 236 (40 + 36 * Int.toNat v0 + 1) = fsP tt nn (m + 1) ∧ (∀ k : Nat, k < m + 1 → I' 236 (40 + 36 * Int.toNat v0 + (2 + 2 * k)) = actP tt nn k ∧ I' 236 (40 + 36 * Int.toNat v0 + (3 + 2 * k)) = amP tt nn k) ∧ ∀ j : Nat, 40 ≤ j → j < 184 → ¬ (40 + 36 * Int.toNat v0 ≤ j ∧ j < 76 + 36 * Int.toNat v0) → I' 236 j = I 236 j))) → Q (some (vi r)) F I') : CallN G (d + 6) kX12_program [vr 235, vi v0] NP F I Q := by
  refine CallN_in (fun hok hA => CallN_out ?_)
  have iv0 : -2147483648 ≤ v0 ∧ v0 < 2147483648 := hok (vi v0) (by simp)
  have hn2 := ht.1
  have g2 := Rg.n2 hR
  refine Call_wp (lv := [some (vr 235), some (vi v0), none, none, none]) (by decide) ckX12_program [42] rfl rfl ?_
  refine ⟨⟨_, rfl, (by decide)⟩, ?_⟩
  refine s_X12_isProgram (fun (w1 : ((0 : Int) ≤ v0 ∧ (v0 : Int) ≤ 3)) => ?_) (fun (w1 : ¬ ((0 : Int) ≤ v0 ∧ (v0 : Int) ≤ 3)) => ?_)
  ·
    refine ⟨fun _ => ?_, fun c => absurd c (show (¬ (1 : Int) = 0) from by decide)⟩
    refine ⟨_, rfl, (by decide), ?_⟩
    have p2 : (0 : Int) ≤ 0 ∧ (0 : Int) ≤ 64 := by decide
    refine ⟨_, rfl, (by decide), (by decide), ?_⟩
    refine ⟨_, rfl, (by decide), ?_⟩
    have p3 : (0 : Int) ≤ 0 ∧ (0 : Int) ≤ 17 := by decide
    refine ⟨⟨_, rfl, (by decide)⟩, ?_⟩
    have r4 : 0 ≤ (I 236 2) ∧ (I 236 2) ≤ 64 := Rg.n2 hR
    refine r_goOn9  hF (Rg.u (Rg.u (Rg.u hR (Pr_x7 p2)) (Pr_f rfl)) (Pr_x9 p3)) (((uI_o (show ¬ (236 = 235 ∧ 2 = 9) from fun e => absurd e.1 (Nat.ne_of_beq_eq_false rfl))).trans ((uI_o (show ¬ (236 = 235 ∧ 2 = 8) from fun e => absurd e.1 (Nat.ne_of_beq_eq_false rfl))).trans (uI_o (show ¬ (236 = 235 ∧ 2 = 7) from fun e => absurd e.1 (Nat.ne_of_beq_eq_false rfl))))).trans hl) (TXT_f ht (fun j => (uI_o (show ¬ (236 = 235 ∧ (1228 + j) = 9) from fun e => absurd e.1 (Nat.ne_of_beq_eq_false rfl))).trans ((uI_o (show ¬ (236 = 235 ∧ (1228 + j) = 8) from fun e => absurd e.1 (Nat.ne_of_beq_eq_false rfl))).trans (uI_o (show ¬ (236 = 235 ∧ (1228 + j) = 7) from fun e => absurd e.1 (Nat.ne_of_beq_eq_false rfl)))))) (show 0 ≤ (I 236 2) from by first | with_reducible assumption | omega | (simp only [wr, wl] at *; omega)) (fun I6 hR7 hA8 hW9 q10 q11 q12 q13 qr14 => ?_)
    have q10 : 0 ≤ (I6 235 6) := q10
    have q11 : (I6 235 6) ≤ (I6 235 7) := q11
    have q12 : (I6 235 7) ≤ (I 236 2) := q12
    have q13 : (I6 235 6) < (I 236 2) → (I6 235 6) < (I6 235 7) := q13
    refine ⟨⟨_, rfl, (by decide)⟩, ?_⟩
    have r15 : 0 ≤ (I6 235 6) ∧ (I6 235 6) ≤ 64 := Rg.f6 hR7
    have r16 : 0 ≤ (I6 235 7) ∧ (I6 235 7) ≤ 64 := Rg.f7 hR7
    have hc : cP tt nn 0 = ((I6 235 6), (I6 235 7), 0) := cP_n (show (na tt nn 0, nb tt nn 0, (0 : Int)) = _ from by rw [show na tt nn 0 = (I6 235 6) from (Tok_n qr14).1.symm, show nb tt nn 0 = (I6 235 7) from (Tok_n qr14).2.symm]) (by omega)
    have u19 : (I6 236 2) = ((uI (uI (uI I 235 7 0) 235 8 0) 235 9 0) 236 2) := hW9 _ _ (by first | decide | omega)
    have u20 : ((uI (uI (uI I 235 7 0) 235 8 0) 235 9 0) 236 2) = (I 236 2) := rfl
    have a21 : -2147483648 ≤ (I6 236 2) ∧ (I6 236 2) < 2147483648 := hA8.1 _ _
    have r22 : 0 ≤ (I6 236 2) ∧ (I6 236 2) ≤ 64 := Rg.n2 hR7
    have u23 : (I6 235 8) = ((uI (uI (uI I 235 7 0) 235 8 0) 235 9 0) 235 8) := hW9 _ _ (by first | decide | omega)
    have u24 : ((uI (uI (uI I 235 7 0) 235 8 0) 235 9 0) 235 8) = 0 := rfl
    have a25 : -2147483648 ≤ (I6 235 8) ∧ (I6 235 8) < 2147483648 := hA8.1 _ _
    have u26 : (I6 235 9) = ((uI (uI (uI I 235 7 0) 235 8 0) 235 9 0) 235 9) := hW9 _ _ (by first | decide | omega)
    have u27 : ((uI (uI (uI I 235 7 0) 235 8 0) 235 9 0) 235 9) = 0 := rfl
    have a28 : -2147483648 ≤ (I6 235 9) ∧ (I6 235 9) < 2147483648 := hA8.1 _ _
    have r29 : 0 ≤ (I6 235 9) ∧ (I6 235 9) ≤ 17 := Rg.f9 hR7
    refine r_part9  hF hR7 (((hW9 236 2 (by first | decide | omega)).trans ((uI_o (show ¬ (236 = 235 ∧ 2 = 9) from fun e => absurd e.1 (Nat.ne_of_beq_eq_false rfl))).trans ((uI_o (show ¬ (236 = 235 ∧ 2 = 8) from fun e => absurd e.1 (Nat.ne_of_beq_eq_false rfl))).trans (uI_o (show ¬ (236 = 235 ∧ 2 = 7) from fun e => absurd e.1 (Nat.ne_of_beq_eq_false rfl)))))).trans hl) (TXT_f ht (fun j => (hW9 236 (1228 + j) (by omega)).trans ((uI_o (show ¬ (236 = 235 ∧ (1228 + j) = 9) from fun e => absurd e.1 (Nat.ne_of_beq_eq_false rfl))).trans ((uI_o (show ¬ (236 = 235 ∧ (1228 + j) = 8) from fun e => absurd e.1 (Nat.ne_of_beq_eq_false rfl))).trans (uI_o (show ¬ (236 = 235 ∧ (1228 + j) = 7) from fun e => absurd e.1 (Nat.ne_of_beq_eq_false rfl))))))) (show (I6 235 6) ≤ (I6 235 7) from by first | with_reducible assumption | omega | (simp only [wr, wl] at *; omega)) (show (I6 235 7) ≤ (I6 236 2) from by first | with_reducible assumption | omega | (simp only [wr, wl] at *; omega)) (show (I6 235 6) < (I6 236 2) → (I6 235 6) < (I6 235 7) from by first | with_reducible assumption | omega | (simp only [wr, wl] at *; omega)) (show (I6 235 8) = 0 from by first | omega | (simp only [wr, wl] at *; omega)) (show 0 ≤ (I6 235 9) ∧ (I6 235 9) ≤ 16 from by first | omega | (simp only [wr, wl] at *; omega)) (fun I30 hR31 hA32 hW33 q34 q35 q36 q37 q38 q39 q40 qr41 => ?_)
    have q34 : (I30 235 6) ≤ (I30 235 7) := q34
    have q35 : (I30 235 7) ≤ (I6 236 2) := q35
    have q36 : (I30 235 6) < (I6 236 2) → (I30 235 6) < (I30 235 7) := q36
    have q37 : (I6 235 6) ≤ (I30 235 6) := q37
    have q38 : (I30 235 8) = 0 → (I30 235 9) = (I6 235 9) + 1 ∧ (I6 235 6) + 3 ≤ (I30 235 6) := q38
    have q39 : ¬ (I30 235 8) = 0 → (I30 235 9) = (I6 235 9) := q39
    have q40 : (I30 235 8) = 0 ∨ (I30 235 8) = 1 := q40
    by_cases e42 : (I30 235 8) = 0
    ·
      have r44 : 0 ≤ (I30 235 6) ∧ (I30 235 6) ≤ 64 := Rg.f6 hR31
      have r46 : 0 ≤ (I30 235 7) ∧ (I30 235 7) ≤ 64 := Rg.f7 hR31
      have a48 : -2147483648 ≤ (I30 235 8) ∧ (I30 235 8) < 2147483648 := hA32.1 _ _
      have r49 : 0 ≤ (I30 235 9) ∧ (I30 235 9) ≤ 17 := Rg.f9 hR31
      have u51 : (I30 236 2) = (I6 236 2) := hW33 _ _ (by first | decide | omega)
      have a52 : -2147483648 ≤ (I30 236 2) ∧ (I30 236 2) < 2147483648 := hA32.1 _ _
      have r53 : 0 ≤ (I30 236 2) ∧ (I30 236 2) ≤ 64 := Rg.n2 hR31
      refine r_program9_l1 hF hR hl ht (by omega) (fun r I' g1 g2 g3 g4 hv hA' => hQ _ _ g1 hA' (hv _ rfl) g2 (fun _ => g3) (fun h => absurd (by omega) h) ⟨fun z => absurd (by omega) z, fun _ => g4⟩) _ 0 0 I30 hR31 (fun ka ja hk => ((hW33 ka ja (by omega))).trans (((hW9 ka ja (by omega))).trans (((uI_o (show ¬ (ka = 235 ∧ ja = 9) from by first | (intro e; obtain ⟨rfl, rfl⟩ := e; exact hk (by decide)) | omega))).trans (((uI_o (show ¬ (ka = 235 ∧ ja = 8) from by first | (intro e; obtain ⟨rfl, rfl⟩ := e; exact hk (by decide)) | omega))).trans ((uI_o (show ¬ (ka = 235 ∧ ja = 7) from by first | (intro e; obtain ⟨rfl, rfl⟩ := e; exact hk (by decide)) | omega))))))) (show (0 : Int) ≤ (0 : Int) from Int.le_refl _) (show ((0 : Int) : Int) ≤ 17 from by first | with_reducible assumption | omega | (simp only [wr, wl] at *; omega)) (show (0 : Int) ≤ (0 : Int) from Int.le_refl _) (show ((0 : Int) : Int) ≤ 1 from by first | with_reducible assumption | omega | (simp only [wr, wl] at *; omega)) (show (I30 235 6) ≤ (I30 235 7) from by first | with_reducible assumption | omega | (simp only [wr, wl] at *; omega)) (show (I30 235 7) ≤ (I30 236 2) from by first | with_reducible assumption | omega | (simp only [wr, wl] at *; omega)) (show (I30 235 6) < (I30 236 2) → (I30 235 6) < (I30 235 7) from by first | with_reducible assumption | omega | (simp only [wr, wl] at *; omega)) (show (I30 235 8) = 0 → 4 * (I30 235 9) ≤ (I30 235 6) + 1 from by first | with_reducible assumption | omega | (simp only [wr, wl] at *; omega)) (show (I30 236 2) = nn from by first | omega | (simp only [wr, wl] at *; omega)) (show (I30 235 8) = 0 ∨ (I30 235 8) = 1 from by first | omega | (simp only [wr, wl] at *; omega)) (show (I30 235 8) = 0 → 1 ≤ (I30 235 9) from by first | with_reducible assumption | omega | (simp only [wr, wl] at *; omega)) (show ∀ k : Nat, (k : Int) < (I30 235 9) → okP tt nn k from fun k hk => (by
                              obtain rfl : k = 0 := by omega
                              exact (okP_i hc).2 (qr41.1 (by omega)).1)) (show ∀ k : Nat, (k : Int) + (1 - (I30 235 8)) < (I30 235 9) → sepP tt nn k from fun k hk => absurd hk (by omega)) (show (I30 235 8) = 0 → eA tt nn (Int.toNat (I30 235 9) - 1) = (I30 235 6) ∧ eB tt nn (Int.toNat (I30 235 9) - 1) = (I30 235 7) ∧ (cP tt nn (Int.toNat (I30 235 9) - 1)).2.2 = (0 : Int) from fun _ => (by
                              have hq := qr41.1 (by omega)
                              rw [show Int.toNat (I30 235 9) - 1 = 0 from by omega, eA_i hc, eB_i hc, hc]
                              exact ⟨hq.2.1.symm, hq.2.2.1.symm, rfl⟩)) (show ¬ (I30 235 8) = 0 → ¬ okP tt nn (Int.toNat (I30 235 9)) ∧ (I30 235 6) = flP tt nn (Int.toNat (I30 235 9)) from fun z => absurd (by omega) z) ((by
                              have hq := qr41.1 (by omega)
                              refine ⟨fun k hk => ?_, ?_, fun j h1 h2 => (hW33 236 (j) (by omega)).trans ((hW9 236 (j) (by omega)).trans ((uI_o (show ¬ (236 = 235 ∧ j = 9) from fun e => absurd e.1 (Nat.ne_of_beq_eq_false rfl))).trans ((uI_o (show ¬ (236 = 235 ∧ j = 8) from fun e => absurd e.1 (Nat.ne_of_beq_eq_false rfl))).trans (uI_o (show ¬ (236 = 235 ∧ j = 7) from fun e => absurd e.1 (Nat.ne_of_beq_eq_false rfl))))))⟩
                              · obtain rfl : k = 0 := by omega
                                rw [actP_i hc, amP_i hc]
                                have z : (I6 235 9) = 0 := by omega
                                rw [z] at hq
                                exact ⟨hq.2.2.2.2.1, hq.2.2.2.2.2⟩
                              · intro _; rw [show Int.toNat (I30 235 9) = 0 + 1 from by omega, fsP_s hc]; exact ⟨fun _ => (show fsP tt nn 0 + (1 - 0) = _ from by show (0 : Int) + (1 - 0) = _; omega), fun z => absurd z (by omega)⟩)) (show 0 ≤ (I30 235 9) from by first | with_reducible assumption | omega | (simp only [wr, wl] at *; omega)) (Nat.lt_succ_self _)
    ·
      have e43 : (I30 235 8) = 1 := by omega
      have r54 : 0 ≤ (I30 235 6) ∧ (I30 235 6) ≤ 64 := Rg.f6 hR31
      have r56 : 0 ≤ (I30 235 7) ∧ (I30 235 7) ≤ 64 := Rg.f7 hR31
      have a58 : -2147483648 ≤ (I30 235 8) ∧ (I30 235 8) < 2147483648 := hA32.1 _ _
      have r59 : 0 ≤ (I30 235 9) ∧ (I30 235 9) ≤ 17 := Rg.f9 hR31
      have u61 : (I30 236 2) = (I6 236 2) := hW33 _ _ (by first | decide | omega)
      have a62 : -2147483648 ≤ (I30 236 2) ∧ (I30 236 2) < 2147483648 := hA32.1 _ _
      have r63 : 0 ≤ (I30 236 2) ∧ (I30 236 2) ≤ 64 := Rg.n2 hR31
      refine r_program9_l1 hF hR hl ht (by omega) (fun r I' g1 g2 g3 g4 hv hA' => hQ _ _ g1 hA' (hv _ rfl) g2 (fun _ => g3) (fun h => absurd (by omega) h) ⟨fun z => absurd (by omega) z, fun _ => g4⟩) _ 0 0 I30 hR31 (fun ka ja hk => ((hW33 ka ja (by omega))).trans (((hW9 ka ja (by omega))).trans (((uI_o (show ¬ (ka = 235 ∧ ja = 9) from by first | (intro e; obtain ⟨rfl, rfl⟩ := e; exact hk (by decide)) | omega))).trans (((uI_o (show ¬ (ka = 235 ∧ ja = 8) from by first | (intro e; obtain ⟨rfl, rfl⟩ := e; exact hk (by decide)) | omega))).trans ((uI_o (show ¬ (ka = 235 ∧ ja = 7) from by first | (intro e; obtain ⟨rfl, rfl⟩ := e; exact hk (by decide)) | omega))))))) (show (0 : Int) ≤ (0 : Int) from Int.le_refl _) (show ((0 : Int) : Int) ≤ 17 from by first | with_reducible assumption | omega | (simp only [wr, wl] at *; omega)) (show (0 : Int) ≤ (0 : Int) from Int.le_refl _) (show ((0 : Int) : Int) ≤ 1 from by first | with_reducible assumption | omega | (simp only [wr, wl] at *; omega)) (show (I30 235 6) ≤ (I30 235 7) from by first | with_reducible assumption | omega | (simp only [wr, wl] at *; omega)) (show (I30 235 7) ≤ (I30 236 2) from by first | with_reducible assumption | omega | (simp only [wr, wl] at *; omega)) (show (I30 235 6) < (I30 236 2) → (I30 235 6) < (I30 235 7) from by first | with_reducible assumption | omega | (simp only [wr, wl] at *; omega)) (show (I30 235 8) = 0 → 4 * (I30 235 9) ≤ (I30 235 6) + 1 from by first | with_reducible assumption | omega | (simp only [wr, wl] at *; omega)) (show (I30 236 2) = nn from by first | omega | (simp only [wr, wl] at *; omega)) (show (I30 235 8) = 0 ∨ (I30 235 8) = 1 from by first | omega | (simp only [wr, wl] at *; omega)) (show (I30 235 8) = 0 → 1 ≤ (I30 235 9) from by first | with_reducible assumption | omega | (simp only [wr, wl] at *; omega)) (show ∀ k : Nat, (k : Int) < (I30 235 9) → okP tt nn k from fun k hk => absurd hk (by omega)) (show ∀ k : Nat, (k : Int) + (1 - (I30 235 8)) < (I30 235 9) → sepP tt nn k from fun k hk => absurd hk (by omega)) (show (I30 235 8) = 0 → eA tt nn (Int.toNat (I30 235 9) - 1) = (I30 235 6) ∧ eB tt nn (Int.toNat (I30 235 9) - 1) = (I30 235 7) ∧ (cP tt nn (Int.toNat (I30 235 9) - 1)).2.2 = (0 : Int) from fun z => absurd z (by omega)) (show ¬ (I30 235 8) = 0 → ¬ okP tt nn (Int.toNat (I30 235 9)) ∧ (I30 235 6) = flP tt nn (Int.toNat (I30 235 9)) from fun _ => (by
                              have hq := qr41.2 (by omega)
                              rw [show Int.toNat (I30 235 9) = 0 from by omega]
                              exact ⟨fun z => hq.1 ((okP_i hc).1 z), hq.2.1.trans (flP_i hc).symm⟩)) ((by
                              refine ⟨fun k hk => absurd hk (by omega), fun z => absurd z (by omega), fun j h1 h2 => (hW33 236 (j) (by omega)).trans ((hW9 236 (j) (by omega)).trans ((uI_o (show ¬ (236 = 235 ∧ j = 9) from fun e => absurd e.1 (Nat.ne_of_beq_eq_false rfl))).trans ((uI_o (show ¬ (236 = 235 ∧ j = 8) from fun e => absurd e.1 (Nat.ne_of_beq_eq_false rfl))).trans (uI_o (show ¬ (236 = 235 ∧ j = 7) from fun e => absurd e.1 (Nat.ne_of_beq_eq_false rfl))))))⟩)) (show 0 ≤ (I30 235 9) from by first | with_reducible assumption | omega | (simp only [wr, wl] at *; omega)) (Nat.lt_succ_self _)
  ·
    refine ⟨fun c => absurd (show ((0 : Int) = 0) from by decide) c, fun _ => ?_⟩
    refine ⟨⟨_, rfl, (by decide)⟩, ?_⟩
    refine s_X12_finding hF (v := (-1000001)) (by decide) ?_
    have r64 : 0 ≤ (I 236 2) ∧ (I 236 2) ≤ 64 := Rg.n2 hR
    exact ⟨rfl, fun hv hA' => hQ _ _ (Rg.u hR (Pr_f rfl)) hA' (hv _ rfl) (fun ka ja hk => (uI_o (show ¬ (ka = 238 ∧ ja = 1) from by first | (intro e; obtain ⟨rfl, rfl⟩ := e; exact hk (by decide)) | omega))) (show 0 ≤ v0 ∧ v0 ≤ 3 → (I 236 2) = 0 from by first | with_reducible assumption | omega | (simp only [wr, wl] at *; omega)) (show ¬ (0 ≤ v0 ∧ v0 ≤ 3) → (I 236 2) = (I 236 2) from by first | with_reducible assumption | omega | (simp only [wr, wl] at *; omega)) (⟨fun _ => ⟨rfl, fun j h1 h2 => uI_o (show ¬ (236 = 238 ∧ j = 1) from fun e => absurd e.1 (Nat.ne_of_beq_eq_false rfl))⟩, fun z => absurd z (by omega)⟩)⟩
end RP9
