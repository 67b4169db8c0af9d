/-! runs of the reference, exactly. Own work (scripts laid by wip/pm/gen34.py). -/
section RM9
variable {G : pG} {d : Nat} {F : pF} {I : pI} {Q : Option pV → pF → pI → Prop}
theorem r_ld9 (hF : FS F) (hR : Rg I) {ld : Int → Int} {P : Nat → Int} {pp : Nat} (hq : RR9 ld P pp I) (hx : 0 ≤ I 235 12) (hQ : ∀ r : Int, iR r → ((I 235 13 = 0 → r = ld (I 235 12)) ∧ (¬ I 235 13 = 0 → r = 0)) → Q (some (vi r)) F I) : CallN G (d + 3) kX12_loadNow [vr 235] NP F I Q := by
  refine CallN_in (fun hok hA => CallN_out ?_)
  have h11 := hq.1.1
  refine Call_wp (lv := [some (vr 235)]) (by decide) ckX12_loadNow [] rfl rfl ?_
  refine ⟨_, rfl, (by decide), ?_⟩
  have a1 : -2147483648 ≤ (I 235 13) ∧ (I 235 13) < 2147483648 := hA.1 _ _
  refine ⟨fun (c2 : (((I 235 13) : Int) = 0)) => ?_, fun (c2 : (¬ (((I 235 13) : Int) = 0))) => ?_⟩
  ·
    refine ⟨_, rfl, (by decide), ?_⟩
    have r3 : 0 ≤ (I 235 11) ∧ (I 235 11) ≤ 13 := Rg.f11 hR
    refine ⟨_, rfl, (by decide), ?_⟩
    have r4 : 0 ≤ (I 235 12) ∧ (I 235 12) ≤ 20000000 := Rg.f12 hR
    refine ⟨⟨_, rfl, (by decide)⟩, ?_⟩
    refine r_answered6 (v0 := (I 235 11)) (v1 := (I 235 12)) hF hR (by omega) (by omega) (by rw [show Int.toNat (306 + 66 * (I 235 11)) = 306 + 66 * pp from by omega]; exact hq.2.1) (by rw [show Int.toNat (307 + 66 * (I 235 11)) = 307 + 66 * pp from by omega]; exact hq.2.2.1) (by rw [show Int.toNat (307 + 66 * (I 235 11)) = 307 + 66 * pp from by omega, show Int.toNat (I 235 11) = pp from by omega]; exact hq.2.2.2.1) (fun vr7 hr8 qr9 => ?_)
    have hr8 : -2147483648 ≤ vr7 ∧ vr7 < 2147483648 := hr8
    exact ⟨rfl, fun hv hA' => hQ _ (hv _ rfl) (⟨fun _ => (by
                              have z := qr9
                              rw [show Int.toNat (304 + 66 * (I 235 11)) = 304 + 66 * pp from by omega, show Int.toNat (306 + 66 * (I 235 11)) = 306 + 66 * pp from by omega, show Int.toNat (307 + 66 * (I 235 11)) = 307 + 66 * pp from by omega, show Int.toNat (I 235 11) = pp from by omega] at z
                              rw [z]; exact (hq.2.2.2.2.2.1 _).symm), fun z => absurd z (by omega)⟩)⟩
  ·
    exact ⟨rfl, fun hv hA' => hQ _ (hv _ rfl) (⟨fun z => absurd z (by omega), fun _ => rfl⟩)⟩
theorem r_tick9 (hF : FS F) (hR : Rg I) {ld : Int → Int} {P : Nat → Int} {pp : Nat} (hq : RR9 ld P pp I) (hx : 0 ≤ I 235 12) (ht : 0 ≤ I 235 16 ∧ I 235 16 ≤ 19999999) (hQ : ∀ (I' : pI), Rg I' → AR I' → (∀ k j, ¬ ((k = 235 ∧ (j = 13 ∨ j = 15 ∨ j = 16)) ∨ k = 242) → I' k j = I k j) → ((I' 235 16) = (I 235 16) + 1) → (TCK ld P I' I) → Q none F I') : CallN G (d + 4) kX12_tick [vr 235] NP F I Q := by
  refine CallN_in (fun hok hA => CallN_out ?_)
  have h11 := hq.1.1
  have hL := hq.2.2.2.2.2.2
  have hP6 : P 6 = 10 * ((I 236 (Int.toNat (307 + 66 * (I 235 11)))) - 1) := by rw [show Int.toNat (307 + 66 * (I 235 11)) = 307 + 66 * pp from by omega]; exact hq.2.2.2.2.1.2.2
  refine Call_wp (lv := [some (vr 235)]) (by decide) ckX12_tick [] rfl rfl ?_
  refine ⟨_, rfl, (by decide), ?_⟩
  have r1 : 0 ≤ (I 235 16) ∧ (I 235 16) ≤ 19999999 := ht
  refine ⟨_, rfl, (by decide), ?_⟩
  have n3 : (wr ((I 235 16) + 1)) = (I 235 16) + 1 := wr_id (show -2147483648 ≤ ((I 235 16) + 1 : Int) ∧ ((I 235 16) + 1 : Int) < 2147483648 from by omega)
  have p4 : (0 : Int) ≤ (wr ((I 235 16) + 1)) ∧ ((wr ((I 235 16) + 1)) : Int) ≤ 20000000 := by first | omega | (simp only [wr, wl] at *; omega)
  refine ⟨_, rfl, (by decide), ?_⟩
  have a5 : -2147483648 ≤ (I 235 13) ∧ (I 235 13) < 2147483648 := hA.1 _ _
  refine ⟨fun (c6 : (¬ ((I 235 13) : Int) = 0)) => ?_, fun (c6 : (((I 235 13) : Int) = 0)) => ?_⟩
  ·
    refine ⟨_, rfl, (by decide), (by decide), ?_⟩
    refine ⟨_, rfl, (by decide), ?_⟩
    refine fun w0 hw0 => ?_; obtain rfl : w0 = some 242 := hw0.symm.trans (FS.g hF rfl)
    refine ⟨_, rfl, (by decide), ?_⟩
    refine ⟨(by decide), ?_⟩
    refine ⟨⟨_, rfl, (by decide)⟩, ?_⟩
    have r7 : 0 ≤ (I 235 12) ∧ (I 235 12) ≤ 20000000 := Rg.f12 hR
    refine r_ld9  hF (Rg.u (Rg.u hR (Pr_x16 p4)) (Pr_f rfl)) (RR9_f hq ((uJ_ne (show ¬ 11 = 13 from Nat.ne_of_beq_eq_false rfl)).trans (uJ_ne (show ¬ 11 = 16 from Nat.ne_of_beq_eq_false rfl))) (fun j => (uI_o (show ¬ (236 = 235 ∧ j = 13) from fun e => absurd e.1 (Nat.ne_of_beq_eq_false rfl))).trans (uI_o (show ¬ (236 = 235 ∧ j = 16) from fun e => absurd e.1 (Nat.ne_of_beq_eq_false rfl))))) (show 0 ≤ (I 235 12) from by first | with_reducible assumption | omega | (simp only [wr, wl] at *; omega)) (fun vr9 hr10 qr11 => ?_)
    have hr10 : -2147483648 ≤ vr9 ∧ vr9 < 2147483648 := hr10
    have hl12 : vr9 = 0 := qr11.2 (show ¬ (1 : Int) = 0 from by decide)
    have n13 : (Int.tmod (wr ((I 235 16) + 1)) 8) = ((wr ((I 235 16) + 1)) : Int) % 8 := Int.tmod_eq_emod_of_nonneg (by omega)
    refine ⟨_, rfl, (by decide), (show (0 : Int) ≤ (Int.tmod (wr ((I 235 16) + 1)) 8) from by first | with_reducible assumption | omega | (simp only [wr, wl] at *; omega)), (show (Int.tmod (wr ((I 235 16) + 1)) 8) < (8 : Int) from by first | with_reducible assumption | omega | (simp only [wr, wl] at *; omega)), ?_⟩
    refine ⟨_, rfl, (by decide), ?_⟩
    have a14 : -2147483648 ≤ (I 235 14) ∧ (I 235 14) < 2147483648 := hA.1 _ _
    refine ⟨fun (c15 : (¬ ((I 235 14) : Int) = 0)) => ?_, fun (c15 : (((I 235 14) : Int) = 0)) => ?_⟩
    ·
      exact ⟨rfl, fun hv hA' => hQ _ (Rg.u (Rg.u (Rg.u hR (Pr_x16 p4)) (Pr_f rfl)) (Pr_p (k := 242) rfl _ _)) hA' (fun ka ja hk => ((uI_o (show ¬ (ka = 242 ∧ ja = (Int.toNat (Int.tmod (wr ((I 235 16) + 1)) 8))) from by omega))).trans (((uI_o (show ¬ (ka = 235 ∧ ja = 13) from by first | (intro e; obtain ⟨rfl, rfl⟩ := e; exact hk (by decide)) | omega))).trans ((uI_o (show ¬ (ka = 235 ∧ ja = 16) from by first | (intro e; obtain ⟨rfl, rfl⟩ := e; exact hk (by decide)) | omega))))) (show (wr ((I 235 16) + 1)) = (I 235 16) + 1 from by first | omega | (simp only [wr, wl] at *; omega)) ((by
                              refine ⟨(show (wr ((I 235 16) + 1)) = I 235 16 + 1 from by omega), fun z => (show (1 : Int) = 1 from by omega), fun z => (show (1 : Int) = 0 from by omega), vr9, fun _ => hl12, fun z => absurd (show (1 : Int) = 1 from rfl) z, uJ_eqj (show (Int.toNat (I 235 16 + 1) % 8) = (Int.toNat (Int.tmod (wr ((I 235 16) + 1)) 8)) from by omega), fun j hj => (uJ_ne (show ¬ j = (Int.toNat (Int.tmod (wr ((I 235 16) + 1)) 8)) from by omega)).trans ((uI_o (show ¬ (242 = 235 ∧ j = 13) from fun e => absurd e.1 (Nat.ne_of_beq_eq_false rfl))).trans (uI_o (show ¬ (242 = 235 ∧ j = 16) from fun e => absurd e.1 (Nat.ne_of_beq_eq_false rfl)))), fun z => absurd z (by omega), fun _ => (uI_o (show ¬ (235 = 242 ∧ 15 = (Int.toNat (Int.tmod (wr ((I 235 16) + 1)) 8))) from fun e => absurd e.1 (Nat.ne_of_beq_eq_false rfl))).trans ((uJ_ne (show ¬ 15 = 13 from Nat.ne_of_beq_eq_false rfl)).trans (uJ_ne (show ¬ 15 = 16 from Nat.ne_of_beq_eq_false rfl)))⟩))⟩
    ·
      refine ⟨_, rfl, (by decide), ?_⟩
      refine ⟨fun c => absurd c (show (¬ ((1 : Int) = 0)) from by decide), fun _ => ?_⟩
      refine ⟨_, rfl, (by decide), ?_⟩
      exact ⟨rfl, fun hv hA' => hQ _ (Rg.u (Rg.u (Rg.u (Rg.u hR (Pr_x16 p4)) (Pr_f rfl)) (Pr_p (k := 242) rfl _ _)) (Pr_f rfl)) hA' (fun ka ja hk => ((uI_o (show ¬ (ka = 235 ∧ ja = 15) from by first | (intro e; obtain ⟨rfl, rfl⟩ := e; exact hk (by decide)) | omega))).trans (((uI_o (show ¬ (ka = 242 ∧ ja = (Int.toNat (Int.tmod (wr ((I 235 16) + 1)) 8))) from by omega))).trans (((uI_o (show ¬ (ka = 235 ∧ ja = 13) from by first | (intro e; obtain ⟨rfl, rfl⟩ := e; exact hk (by decide)) | omega))).trans ((uI_o (show ¬ (ka = 235 ∧ ja = 16) from by first | (intro e; obtain ⟨rfl, rfl⟩ := e; exact hk (by decide)) | omega)))))) (show (wr ((I 235 16) + 1)) = (I 235 16) + 1 from by first | omega | (simp only [wr, wl] at *; omega)) ((by
                              refine ⟨(show (wr ((I 235 16) + 1)) = I 235 16 + 1 from by omega), fun z => (show (1 : Int) = 1 from by omega), fun z => (show (1 : Int) = 0 from by omega), vr9, fun _ => hl12, fun z => absurd (show (1 : Int) = 1 from rfl) z, (uI_o (show ¬ (242 = 235 ∧ (Int.toNat (I 235 16 + 1) % 8) = 15) from fun e => absurd e.1 (Nat.ne_of_beq_eq_false rfl))).trans (uJ_eqj (show (Int.toNat (I 235 16 + 1) % 8) = (Int.toNat (Int.tmod (wr ((I 235 16) + 1)) 8)) from by omega)), fun j hj => (uI_o (show ¬ (242 = 235 ∧ j = 15) from fun e => absurd e.1 (Nat.ne_of_beq_eq_false rfl))).trans ((uJ_ne (show ¬ j = (Int.toNat (Int.tmod (wr ((I 235 16) + 1)) 8)) from by omega)).trans ((uI_o (show ¬ (242 = 235 ∧ j = 13) from fun e => absurd e.1 (Nat.ne_of_beq_eq_false rfl))).trans (uI_o (show ¬ (242 = 235 ∧ j = 16) from fun e => absurd e.1 (Nat.ne_of_beq_eq_false rfl))))), (by
                              intro z0
                              show ((1 : Int) = 1 → (3 : Int) = 3) ∧ (¬ (1 : Int) = 1 → (P 0 < vr9 → (3 : Int) = 1) ∧ (¬ P 0 < vr9 → (P 1 < I 235 12 → (3 : Int) = 2) ∧ (¬ P 1 < I 235 12 → (3 : Int) = 0)))
                              omega), fun z => absurd z (by omega)⟩))⟩
  ·
    refine ⟨_, rfl, (by decide), ?_⟩
    have r16 : 0 ≤ (I 235 12) ∧ (I 235 12) ≤ 20000000 := Rg.f12 hR
    refine ⟨_, rfl, (by decide), ?_⟩
    have r17 : 0 ≤ (I 235 11) ∧ (I 235 11) ≤ 13 := Rg.f11 hR
    refine ⟨⟨_, rfl, (by decide)⟩, ?_⟩
    refine Call_wp (lv := [some (vr 235), some (vi (I 235 11))]) (by decide) ckX12_end [] rfl rfl ?_
    refine ⟨⟨_, rfl, (by decide)⟩, ?_⟩
    refine r_of (p := (I 235 11)) (f := 3) hF (j := (Int.toNat (307 + 66 * (I 235 11)))) (by omega) (by omega) (by omega) (fun w19 hw20 => ?_)
    have r21 : 0 ≤ (I 236 (Int.toNat (307 + 66 * (I 235 11)))) ∧ (I 236 (Int.toNat (307 + 66 * (I 235 11)))) ≤ 12 := Pn_p3 (p := (Int.toNat (I 235 11))) (by omega) (by omega) (hR.n (Int.toNat (307 + 66 * (I 235 11))) (by omega))
    have hw20 : w19 = (I 236 (Int.toNat (307 + 66 * (I 235 11)))) := hw20
    refine ⟨rfl, ?_⟩
    have n24 : (wr (w19 - 1)) = w19 - 1 := wr_id (show -2147483648 ≤ (w19 - 1 : Int) ∧ (w19 - 1 : Int) < 2147483648 from by omega)
    have n25 : (wr (10 * (wr (w19 - 1)))) = 10 * (wr (w19 - 1)) := wr_id (show -2147483648 ≤ (10 * (wr (w19 - 1)) : Int) ∧ (10 * (wr (w19 - 1)) : Int) < 2147483648 from by omega)
    refine ⟨fun (c26 : (((I 235 12) : Int) ≤ (wr (10 * (wr (w19 - 1)))))) => ?_, fun (c26 : (¬ (((I 235 12) : Int) ≤ (wr (10 * (wr (w19 - 1))))))) => ?_⟩
    ·
      refine ⟨_, rfl, (by decide), (by decide), ?_⟩
      refine ⟨_, rfl, (by decide), ?_⟩
      refine fun w0 hw0 => ?_; obtain rfl : w0 = some 242 := hw0.symm.trans (FS.g hF rfl)
      refine ⟨_, rfl, (by decide), ?_⟩
      refine ⟨(by decide), ?_⟩
      refine ⟨⟨_, rfl, (by decide)⟩, ?_⟩
      refine r_ld9  hF (Rg.u (Rg.u hR (Pr_x16 p4)) (Pr_f rfl)) (RR9_f hq ((uJ_ne (show ¬ 11 = 13 from Nat.ne_of_beq_eq_false rfl)).trans (uJ_ne (show ¬ 11 = 16 from Nat.ne_of_beq_eq_false rfl))) (fun j => (uI_o (show ¬ (236 = 235 ∧ j = 13) from fun e => absurd e.1 (Nat.ne_of_beq_eq_false rfl))).trans (uI_o (show ¬ (236 = 235 ∧ j = 16) from fun e => absurd e.1 (Nat.ne_of_beq_eq_false rfl))))) (show 0 ≤ (I 235 12) from by first | with_reducible assumption | omega | (simp only [wr, wl] at *; omega)) (fun vr27 hr28 qr29 => ?_)
      have hr28 : -2147483648 ≤ vr27 ∧ vr27 < 2147483648 := hr28
      have hl30 : vr27 = ld (I 235 12) := qr29.1 rfl
      have n31 : (Int.tmod (wr ((I 235 16) + 1)) 8) = ((wr ((I 235 16) + 1)) : Int) % 8 := Int.tmod_eq_emod_of_nonneg (by omega)
      refine ⟨_, rfl, (by decide), (show (0 : Int) ≤ (Int.tmod (wr ((I 235 16) + 1)) 8) from by first | with_reducible assumption | omega | (simp only [wr, wl] at *; omega)), (show (Int.tmod (wr ((I 235 16) + 1)) 8) < (8 : Int) from by first | with_reducible assumption | omega | (simp only [wr, wl] at *; omega)), ?_⟩
      refine ⟨_, rfl, (by decide), ?_⟩
      have a32 : -2147483648 ≤ (I 235 14) ∧ (I 235 14) < 2147483648 := hA.1 _ _
      refine ⟨fun (c33 : (¬ ((I 235 14) : Int) = 0)) => ?_, fun (c33 : (((I 235 14) : Int) = 0)) => ?_⟩
      ·
        exact ⟨rfl, fun hv hA' => hQ _ (Rg.u (Rg.u (Rg.u hR (Pr_x16 p4)) (Pr_f rfl)) (Pr_p (k := 242) rfl _ _)) hA' (fun ka ja hk => ((uI_o (show ¬ (ka = 242 ∧ ja = (Int.toNat (Int.tmod (wr ((I 235 16) + 1)) 8))) from by omega))).trans (((uI_o (show ¬ (ka = 235 ∧ ja = 13) from by first | (intro e; obtain ⟨rfl, rfl⟩ := e; exact hk (by decide)) | omega))).trans ((uI_o (show ¬ (ka = 235 ∧ ja = 16) from by first | (intro e; obtain ⟨rfl, rfl⟩ := e; exact hk (by decide)) | omega))))) (show (wr ((I 235 16) + 1)) = (I 235 16) + 1 from by first | omega | (simp only [wr, wl] at *; omega)) ((by
                              refine ⟨(show (wr ((I 235 16) + 1)) = I 235 16 + 1 from by omega), fun z => (show (0 : Int) = 1 from by omega), fun z => (show (0 : Int) = 0 from by omega), vr27, fun z => absurd (show (0 : Int) = 1 from z) (by decide), fun _ => hl30, uJ_eqj (show (Int.toNat (I 235 16 + 1) % 8) = (Int.toNat (Int.tmod (wr ((I 235 16) + 1)) 8)) from by omega), fun j hj => (uJ_ne (show ¬ j = (Int.toNat (Int.tmod (wr ((I 235 16) + 1)) 8)) from by omega)).trans ((uI_o (show ¬ (242 = 235 ∧ j = 13) from fun e => absurd e.1 (Nat.ne_of_beq_eq_false rfl))).trans (uI_o (show ¬ (242 = 235 ∧ j = 16) from fun e => absurd e.1 (Nat.ne_of_beq_eq_false rfl)))), fun z => absurd z (by omega), fun _ => (uI_o (show ¬ (235 = 242 ∧ 15 = (Int.toNat (Int.tmod (wr ((I 235 16) + 1)) 8))) from fun e => absurd e.1 (Nat.ne_of_beq_eq_false rfl))).trans ((uJ_ne (show ¬ 15 = 13 from Nat.ne_of_beq_eq_false rfl)).trans (uJ_ne (show ¬ 15 = 16 from Nat.ne_of_beq_eq_false rfl)))⟩))⟩
      ·
        refine ⟨_, rfl, (by decide), ?_⟩
        refine ⟨fun _ => ?_, fun c => absurd (show ((0 : Int) = 0) from by decide) c⟩
        refine ⟨⟨_, rfl, (by decide)⟩, ?_⟩
        refine r_ld9  hF (Rg.u (Rg.u (Rg.u hR (Pr_x16 p4)) (Pr_f rfl)) (Pr_p (k := 242) rfl _ _)) (RR9_f hq ((uI_o (show ¬ (235 = 242 ∧ 11 = (Int.toNat (Int.tmod (wr ((I 235 16) + 1)) 8))) from fun e => absurd e.1 (Nat.ne_of_beq_eq_false rfl))).trans ((uJ_ne (show ¬ 11 = 13 from Nat.ne_of_beq_eq_false rfl)).trans (uJ_ne (show ¬ 11 = 16 from Nat.ne_of_beq_eq_false rfl)))) (fun j => (uI_o (show ¬ (236 = 242 ∧ j = (Int.toNat (Int.tmod (wr ((I 235 16) + 1)) 8))) from fun e => absurd e.1 (Nat.ne_of_beq_eq_false rfl))).trans ((uI_o (show ¬ (236 = 235 ∧ j = 13) from fun e => absurd e.1 (Nat.ne_of_beq_eq_false rfl))).trans (uI_o (show ¬ (236 = 235 ∧ j = 16) from fun e => absurd e.1 (Nat.ne_of_beq_eq_false rfl)))))) (show 0 ≤ (I 235 12) from by first | with_reducible assumption | omega | (simp only [wr, wl] at *; omega)) (fun vr34 hr35 qr36 => ?_)
        have hr35 : -2147483648 ≤ vr34 ∧ vr34 < 2147483648 := hr35
        have hl37 : vr34 = ld (I 235 12) := qr36.1 rfl
        refine ⟨_, rfl, (by decide), ?_⟩
        refine fun w0 hw0 => ?_; obtain rfl : w0 = some 236 := hw0.symm.trans (FS.g hF rfl)
        refine ⟨_, rfl, (by decide), (by decide), (by decide), ?_⟩
        have a38 : -2147483648 ≤ (I 236 4) ∧ (I 236 4) < 2147483648 := hA.1 _ _
        refine ⟨fun (c39 : ((vr34 : Int) ≤ (I 236 4))) => ?_, fun (c39 : (¬ ((vr34 : Int) ≤ (I 236 4)))) => ?_⟩
        ·
          refine ⟨_, rfl, (by decide), ?_⟩
          refine ⟨_, rfl, (by decide), ?_⟩
          refine fun w0 hw0 => ?_; obtain rfl : w0 = some 236 := hw0.symm.trans (FS.g hF rfl)
          refine ⟨_, rfl, (by decide), (by decide), (by decide), ?_⟩
          have a40 : -2147483648 ≤ (I 236 5) ∧ (I 236 5) < 2147483648 := hA.1 _ _
          refine ⟨fun (c41 : (((I 235 12) : Int) ≤ (I 236 5))) => ?_, fun (c41 : (¬ (((I 235 12) : Int) ≤ (I 236 5)))) => ?_⟩
          ·
            refine ⟨_, rfl, (by decide), ?_⟩
            exact ⟨rfl, fun hv hA' => hQ _ (Rg.u (Rg.u (Rg.u (Rg.u hR (Pr_x16 p4)) (Pr_f rfl)) (Pr_p (k := 242) rfl _ _)) (Pr_f rfl)) hA' (fun ka ja hk => ((uI_o (show ¬ (ka = 235 ∧ ja = 15) from by first | (intro e; obtain ⟨rfl, rfl⟩ := e; exact hk (by decide)) | omega))).trans (((uI_o (show ¬ (ka = 242 ∧ ja = (Int.toNat (Int.tmod (wr ((I 235 16) + 1)) 8))) from by omega))).trans (((uI_o (show ¬ (ka = 235 ∧ ja = 13) from by first | (intro e; obtain ⟨rfl, rfl⟩ := e; exact hk (by decide)) | omega))).trans ((uI_o (show ¬ (ka = 235 ∧ ja = 16) from by first | (intro e; obtain ⟨rfl, rfl⟩ := e; exact hk (by decide)) | omega)))))) (show (wr ((I 235 16) + 1)) = (I 235 16) + 1 from by first | omega | (simp only [wr, wl] at *; omega)) ((by
                              refine ⟨(show (wr ((I 235 16) + 1)) = I 235 16 + 1 from by omega), fun z => (show (0 : Int) = 1 from by omega), fun z => (show (0 : Int) = 0 from by omega), vr27, fun z => absurd (show (0 : Int) = 1 from z) (by decide), fun _ => hl30, (uI_o (show ¬ (242 = 235 ∧ (Int.toNat (I 235 16 + 1) % 8) = 15) from fun e => absurd e.1 (Nat.ne_of_beq_eq_false rfl))).trans (uJ_eqj (show (Int.toNat (I 235 16 + 1) % 8) = (Int.toNat (Int.tmod (wr ((I 235 16) + 1)) 8)) from by omega)), fun j hj => (uI_o (show ¬ (242 = 235 ∧ j = 15) from fun e => absurd e.1 (Nat.ne_of_beq_eq_false rfl))).trans ((uJ_ne (show ¬ j = (Int.toNat (Int.tmod (wr ((I 235 16) + 1)) 8)) from by omega)).trans ((uI_o (show ¬ (242 = 235 ∧ j = 13) from fun e => absurd e.1 (Nat.ne_of_beq_eq_false rfl))).trans (uI_o (show ¬ (242 = 235 ∧ j = 16) from fun e => absurd e.1 (Nat.ne_of_beq_eq_false rfl))))), (by
                              intro z0
                              show ((0 : Int) = 1 → (0 : Int) = 3) ∧ (¬ (0 : Int) = 1 → (P 0 < vr27 → (0 : Int) = 1) ∧ (¬ P 0 < vr27 → (P 1 < I 235 12 → (0 : Int) = 2) ∧ (¬ P 1 < I 235 12 → (0 : Int) = 0)))
                              omega), fun z => absurd z (by omega)⟩))⟩
          ·
            refine ⟨_, rfl, (by decide), ?_⟩
            exact ⟨rfl, fun hv hA' => hQ _ (Rg.u (Rg.u (Rg.u (Rg.u hR (Pr_x16 p4)) (Pr_f rfl)) (Pr_p (k := 242) rfl _ _)) (Pr_f rfl)) hA' (fun ka ja hk => ((uI_o (show ¬ (ka = 235 ∧ ja = 15) from by first | (intro e; obtain ⟨rfl, rfl⟩ := e; exact hk (by decide)) | omega))).trans (((uI_o (show ¬ (ka = 242 ∧ ja = (Int.toNat (Int.tmod (wr ((I 235 16) + 1)) 8))) from by omega))).trans (((uI_o (show ¬ (ka = 235 ∧ ja = 13) from by first | (intro e; obtain ⟨rfl, rfl⟩ := e; exact hk (by decide)) | omega))).trans ((uI_o (show ¬ (ka = 235 ∧ ja = 16) from by first | (intro e; obtain ⟨rfl, rfl⟩ := e; exact hk (by decide)) | omega)))))) (show (wr ((I 235 16) + 1)) = (I 235 16) + 1 from by first | omega | (simp only [wr, wl] at *; omega)) ((by
                              refine ⟨(show (wr ((I 235 16) + 1)) = I 235 16 + 1 from by omega), fun z => (show (0 : Int) = 1 from by omega), fun z => (show (0 : Int) = 0 from by omega), vr27, fun z => absurd (show (0 : Int) = 1 from z) (by decide), fun _ => hl30, (uI_o (show ¬ (242 = 235 ∧ (Int.toNat (I 235 16 + 1) % 8) = 15) from fun e => absurd e.1 (Nat.ne_of_beq_eq_false rfl))).trans (uJ_eqj (show (Int.toNat (I 235 16 + 1) % 8) = (Int.toNat (Int.tmod (wr ((I 235 16) + 1)) 8)) from by omega)), fun j hj => (uI_o (show ¬ (242 = 235 ∧ j = 15) from fun e => absurd e.1 (Nat.ne_of_beq_eq_false rfl))).trans ((uJ_ne (show ¬ j = (Int.toNat (Int.tmod (wr ((I 235 16) + 1)) 8)) from by omega)).trans ((uI_o (show ¬ (242 = 235 ∧ j = 13) from fun e => absurd e.1 (Nat.ne_of_beq_eq_false rfl))).trans (uI_o (show ¬ (242 = 235 ∧ j = 16) from fun e => absurd e.1 (Nat.ne_of_beq_eq_false rfl))))), (by
                              intro z0
                              show ((0 : Int) = 1 → (2 : Int) = 3) ∧ (¬ (0 : Int) = 1 → (P 0 < vr27 → (2 : Int) = 1) ∧ (¬ P 0 < vr27 → (P 1 < I 235 12 → (2 : Int) = 2) ∧ (¬ P 1 < I 235 12 → (2 : Int) = 0)))
                              omega), fun z => absurd z (by omega)⟩))⟩
        ·
          refine ⟨_, rfl, (by decide), ?_⟩
          exact ⟨rfl, fun hv hA' => hQ _ (Rg.u (Rg.u (Rg.u (Rg.u hR (Pr_x16 p4)) (Pr_f rfl)) (Pr_p (k := 242) rfl _ _)) (Pr_f rfl)) hA' (fun ka ja hk => ((uI_o (show ¬ (ka = 235 ∧ ja = 15) from by first | (intro e; obtain ⟨rfl, rfl⟩ := e; exact hk (by decide)) | omega))).trans (((uI_o (show ¬ (ka = 242 ∧ ja = (Int.toNat (Int.tmod (wr ((I 235 16) + 1)) 8))) from by omega))).trans (((uI_o (show ¬ (ka = 235 ∧ ja = 13) from by first | (intro e; obtain ⟨rfl, rfl⟩ := e; exact hk (by decide)) | omega))).trans ((uI_o (show ¬ (ka = 235 ∧ ja = 16) from by first | (intro e; obtain ⟨rfl, rfl⟩ := e; exact hk (by decide)) | omega)))))) (show (wr ((I 235 16) + 1)) = (I 235 16) + 1 from by first | omega | (simp only [wr, wl] at *; omega)) ((by
                              refine ⟨(show (wr ((I 235 16) + 1)) = I 235 16 + 1 from by omega), fun z => (show (0 : Int) = 1 from by omega), fun z => (show (0 : Int) = 0 from by omega), vr27, fun z => absurd (show (0 : Int) = 1 from z) (by decide), fun _ => hl30, (uI_o (show ¬ (242 = 235 ∧ (Int.toNat (I 235 16 + 1) % 8) = 15) from fun e => absurd e.1 (Nat.ne_of_beq_eq_false rfl))).trans (uJ_eqj (show (Int.toNat (I 235 16 + 1) % 8) = (Int.toNat (Int.tmod (wr ((I 235 16) + 1)) 8)) from by omega)), fun j hj => (uI_o (show ¬ (242 = 235 ∧ j = 15) from fun e => absurd e.1 (Nat.ne_of_beq_eq_false rfl))).trans ((uJ_ne (show ¬ j = (Int.toNat (Int.tmod (wr ((I 235 16) + 1)) 8)) from by omega)).trans ((uI_o (show ¬ (242 = 235 ∧ j = 13) from fun e => absurd e.1 (Nat.ne_of_beq_eq_false rfl))).trans (uI_o (show ¬ (242 = 235 ∧ j = 16) from fun e => absurd e.1 (Nat.ne_of_beq_eq_false rfl))))), (by
                              intro z0
                              show ((0 : Int) = 1 → (1 : Int) = 3) ∧ (¬ (0 : Int) = 1 → (P 0 < vr27 → (1 : Int) = 1) ∧ (¬ P 0 < vr27 → (P 1 < I 235 12 → (1 : Int) = 2) ∧ (¬ P 1 < I 235 12 → (1 : Int) = 0)))
                              omega), fun z => absurd z (by omega)⟩))⟩
    ·
      refine ⟨_, rfl, (by decide), (by decide), ?_⟩
      refine ⟨_, rfl, (by decide), ?_⟩
      refine fun w0 hw0 => ?_; obtain rfl : w0 = some 242 := hw0.symm.trans (FS.g hF rfl)
      refine ⟨_, rfl, (by decide), ?_⟩
      refine ⟨(by decide), ?_⟩
      refine ⟨⟨_, rfl, (by decide)⟩, ?_⟩
      refine r_ld9  hF (Rg.u (Rg.u hR (Pr_x16 p4)) (Pr_f rfl)) (RR9_f hq ((uJ_ne (show ¬ 11 = 13 from Nat.ne_of_beq_eq_false rfl)).trans (uJ_ne (show ¬ 11 = 16 from Nat.ne_of_beq_eq_false rfl))) (fun j => (uI_o (show ¬ (236 = 235 ∧ j = 13) from fun e => absurd e.1 (Nat.ne_of_beq_eq_false rfl))).trans (uI_o (show ¬ (236 = 235 ∧ j = 16) from fun e => absurd e.1 (Nat.ne_of_beq_eq_false rfl))))) (show 0 ≤ (I 235 12) from by first | with_reducible assumption | omega | (simp only [wr, wl] at *; omega)) (fun vr42 hr43 qr44 => ?_)
      have hr43 : -2147483648 ≤ vr42 ∧ vr42 < 2147483648 := hr43
      have hl45 : vr42 = 0 := qr44.2 (show ¬ (1 : Int) = 0 from by decide)
      have n46 : (Int.tmod (wr ((I 235 16) + 1)) 8) = ((wr ((I 235 16) + 1)) : Int) % 8 := Int.tmod_eq_emod_of_nonneg (by omega)
      refine ⟨_, rfl, (by decide), (show (0 : Int) ≤ (Int.tmod (wr ((I 235 16) + 1)) 8) from by first | with_reducible assumption | omega | (simp only [wr, wl] at *; omega)), (show (Int.tmod (wr ((I 235 16) + 1)) 8) < (8 : Int) from by first | with_reducible assumption | omega | (simp only [wr, wl] at *; omega)), ?_⟩
      refine ⟨_, rfl, (by decide), ?_⟩
      have a47 : -2147483648 ≤ (I 235 14) ∧ (I 235 14) < 2147483648 := hA.1 _ _
      refine ⟨fun (c48 : (¬ ((I 235 14) : Int) = 0)) => ?_, fun (c48 : (((I 235 14) : Int) = 0)) => ?_⟩
      ·
        exact ⟨rfl, fun hv hA' => hQ _ (Rg.u (Rg.u (Rg.u hR (Pr_x16 p4)) (Pr_f rfl)) (Pr_p (k := 242) rfl _ _)) hA' (fun ka ja hk => ((uI_o (show ¬ (ka = 242 ∧ ja = (Int.toNat (Int.tmod (wr ((I 235 16) + 1)) 8))) from by omega))).trans (((uI_o (show ¬ (ka = 235 ∧ ja = 13) from by first | (intro e; obtain ⟨rfl, rfl⟩ := e; exact hk (by decide)) | omega))).trans ((uI_o (show ¬ (ka = 235 ∧ ja = 16) from by first | (intro e; obtain ⟨rfl, rfl⟩ := e; exact hk (by decide)) | omega))))) (show (wr ((I 235 16) + 1)) = (I 235 16) + 1 from by first | omega | (simp only [wr, wl] at *; omega)) ((by
                              refine ⟨(show (wr ((I 235 16) + 1)) = I 235 16 + 1 from by omega), fun z => (show (1 : Int) = 1 from by omega), fun z => (show (1 : Int) = 0 from by omega), vr42, fun _ => hl45, fun z => absurd (show (1 : Int) = 1 from rfl) z, uJ_eqj (show (Int.toNat (I 235 16 + 1) % 8) = (Int.toNat (Int.tmod (wr ((I 235 16) + 1)) 8)) from by omega), fun j hj => (uJ_ne (show ¬ j = (Int.toNat (Int.tmod (wr ((I 235 16) + 1)) 8)) from by omega)).trans ((uI_o (show ¬ (242 = 235 ∧ j = 13) from fun e => absurd e.1 (Nat.ne_of_beq_eq_false rfl))).trans (uI_o (show ¬ (242 = 235 ∧ j = 16) from fun e => absurd e.1 (Nat.ne_of_beq_eq_false rfl)))), fun z => absurd z (by omega), fun _ => (uI_o (show ¬ (235 = 242 ∧ 15 = (Int.toNat (Int.tmod (wr ((I 235 16) + 1)) 8))) from fun e => absurd e.1 (Nat.ne_of_beq_eq_false rfl))).trans ((uJ_ne (show ¬ 15 = 13 from Nat.ne_of_beq_eq_false rfl)).trans (uJ_ne (show ¬ 15 = 16 from Nat.ne_of_beq_eq_false rfl)))⟩))⟩
      ·
        refine ⟨_, rfl, (by decide), ?_⟩
        refine ⟨fun c => absurd c (show (¬ ((1 : Int) = 0)) from by decide), fun _ => ?_⟩
        refine ⟨_, rfl, (by decide), ?_⟩
        exact ⟨rfl, fun hv hA' => hQ _ (Rg.u (Rg.u (Rg.u (Rg.u hR (Pr_x16 p4)) (Pr_f rfl)) (Pr_p (k := 242) rfl _ _)) (Pr_f rfl)) hA' (fun ka ja hk => ((uI_o (show ¬ (ka = 235 ∧ ja = 15) from by first | (intro e; obtain ⟨rfl, rfl⟩ := e; exact hk (by decide)) | omega))).trans (((uI_o (show ¬ (ka = 242 ∧ ja = (Int.toNat (Int.tmod (wr ((I 235 16) + 1)) 8))) from by omega))).trans (((uI_o (show ¬ (ka = 235 ∧ ja = 13) from by first | (intro e; obtain ⟨rfl, rfl⟩ := e; exact hk (by decide)) | omega))).trans ((uI_o (show ¬ (ka = 235 ∧ ja = 16) from by first | (intro e; obtain ⟨rfl, rfl⟩ := e; exact hk (by decide)) | omega)))))) (show (wr ((I 235 16) + 1)) = (I 235 16) + 1 from by first | omega | (simp only [wr, wl] at *; omega)) ((by
                              refine ⟨(show (wr ((I 235 16) + 1)) = I 235 16 + 1 from by omega), fun z => (show (1 : Int) = 1 from by omega), fun z => (show (1 : Int) = 0 from by omega), vr42, fun _ => hl45, fun z => absurd (show (1 : Int) = 1 from rfl) z, (uI_o (show ¬ (242 = 235 ∧ (Int.toNat (I 235 16 + 1) % 8) = 15) from fun e => absurd e.1 (Nat.ne_of_beq_eq_false rfl))).trans (uJ_eqj (show (Int.toNat (I 235 16 + 1) % 8) = (Int.toNat (Int.tmod (wr ((I 235 16) + 1)) 8)) from by omega)), fun j hj => (uI_o (show ¬ (242 = 235 ∧ j = 15) from fun e => absurd e.1 (Nat.ne_of_beq_eq_false rfl))).trans ((uJ_ne (show ¬ j = (Int.toNat (Int.tmod (wr ((I 235 16) + 1)) 8)) from by omega)).trans ((uI_o (show ¬ (242 = 235 ∧ j = 13) from fun e => absurd e.1 (Nat.ne_of_beq_eq_false rfl))).trans (uI_o (show ¬ (242 = 235 ∧ j = 16) from fun e => absurd e.1 (Nat.ne_of_beq_eq_false rfl))))), (by
                              intro z0
                              show ((1 : Int) = 1 → (3 : Int) = 3) ∧ (¬ (1 : Int) = 1 → (P 0 < vr42 → (3 : Int) = 1) ∧ (¬ P 0 < vr42 → (P 1 < I 235 12 → (3 : Int) = 2) ∧ (¬ P 1 < I 235 12 → (3 : Int) = 0)))
                              omega), fun z => absurd z (by omega)⟩))⟩
theorem r_take9 (hF : FS F) (hR : Rg I) {ld : Int → Int} {P : Nat → Int} {pp : Nat} (hq : RR9 ld P pp I) (hx : 0 ≤ I 235 12) (ht : 0 ≤ I 235 16 ∧ I 235 16 ≤ 19999999) (hQ : ∀ (I' : pI), Rg I' → AR I' → (∀ k j, ¬ ((k = 235 ∧ (j = 18)) ∨ k = 243 ∨ k = 244) → I' k j = I k j) → (TKR ld P I' I) → Q none F I') : CallN G (d + 4) kX12_takeReading [vr 235] NP F I Q := by
  refine CallN_in (fun hok hA => CallN_out ?_)
  have h11 := hq.1.1
  have hL := hq.2.2.2.2.2.2
  have hT : Int.tmod (I 235 18 + 1) (P 3) = Int.tmod (wr ((I 235 18) + 1)) (I 236 7) := by rw [← hL.2.2.2.1, wr_id (z := I 235 18 + 1) (by have z := Rg.f18 hR; unfold iR; omega)]
  refine Call_wp (lv := [some (vr 235), none, none, none]) (by decide) ckX12_takeReading [] rfl rfl ?_
  refine ⟨_, rfl, (by decide), ?_⟩
  have r1 : 0 ≤ (I 235 18) ∧ (I 235 18) ≤ 24 := Rg.f18 hR
  refine ⟨fun (c3 : (¬ ((I 235 18) : Int) = 24)) => ?_, fun (c3 : (((I 235 18) : Int) = 24)) => ?_⟩
  ·
    refine ⟨_, rfl, (by decide), ?_⟩
    have r4 : 0 ≤ (I 235 16) ∧ (I 235 16) ≤ 19999999 := ht
    refine ⟨_, rfl, (by decide), ?_⟩
    refine fun w0 hw0 => ?_; obtain rfl : w0 = some 236 := hw0.symm.trans (FS.g hF rfl)
    refine ⟨_, rfl, (by decide), (by decide), (by decide), ?_⟩
    have r5 : 0 ≤ (I 236 8) ∧ (I 236 8) ≤ 5 := Rg.n8 hR
    refine ⟨_, rfl, (by decide), ?_⟩
    refine fun w0 hw0 => ?_; obtain rfl : w0 = some 236 := hw0.symm.trans (FS.g hF rfl)
    refine ⟨_, rfl, (by decide), (by decide), (by decide), ?_⟩
    refine ⟨fun (c7 : (¬ ((I 236 8) : Int) = 0)) => ?_, fun (c7 : (((I 236 8) : Int) = 0)) => ?_⟩
    ·
      have n9 : (wr ((I 235 16) + 1)) = (I 235 16) + 1 := wr_id (show -2147483648 ≤ ((I 235 16) + 1 : Int) ∧ ((I 235 16) + 1 : Int) < 2147483648 from by omega)
      have n10 : (wr ((wr ((I 235 16) + 1)) - (I 236 8))) = (wr ((I 235 16) + 1)) - (I 236 8) := wr_id (show -2147483648 ≤ ((wr ((I 235 16) + 1)) - (I 236 8) : Int) ∧ ((wr ((I 235 16) + 1)) - (I 236 8) : Int) < 2147483648 from by omega)
      refine ⟨fun (c11 : ((1 : Int) ≤ (wr ((wr ((I 235 16) + 1)) - (I 236 8))))) => ?_, fun (c11 : (¬ ((1 : Int) ≤ (wr ((wr ((I 235 16) + 1)) - (I 236 8)))))) => ?_⟩
      ·
        refine ⟨_, rfl, (by decide), ?_⟩
        refine fun w0 hw0 => ?_; obtain rfl : w0 = some 242 := hw0.symm.trans (FS.g hF rfl)
        refine ⟨(by decide), ?_⟩
        have n12 : (Int.tmod (wr ((wr ((I 235 16) + 1)) - (I 236 8))) 8) = ((wr ((wr ((I 235 16) + 1)) - (I 236 8))) : Int) % 8 := Int.tmod_eq_emod_of_nonneg (by omega)
        refine ⟨_, rfl, (by decide), (show (0 : Int) ≤ (Int.tmod (wr ((wr ((I 235 16) + 1)) - (I 236 8))) 8) from by first | with_reducible assumption | omega | (simp only [wr, wl] at *; omega)), (show (Int.tmod (wr ((wr ((I 235 16) + 1)) - (I 236 8))) 8) < (8 : Int) from by first | with_reducible assumption | omega | (simp only [wr, wl] at *; omega)), ?_⟩
        have z13 : (I 242 (Int.toNat (Int.tmod (wr ((wr ((I 235 16) + 1)) - (I 236 8))) 8))) = I 242 (Int.toNat (I 235 16 + 1 - P 4) % 8) := congrArg (I 242) (by omega)
        refine ⟨_, rfl, (by decide), ?_⟩
        refine fun w0 hw0 => ?_; obtain rfl : w0 = some 236 := hw0.symm.trans (FS.g hF rfl)
        refine ⟨_, rfl, (by decide), (by decide), (by decide), ?_⟩
        have r14 : 0 ≤ (I 236 7) ∧ (I 236 7) ≤ 24 := Rg.n7 hR
        refine ⟨fun (c16 : (((I 236 7) : Int) ≤ 0)) => ?_, fun (c16 : (¬ (((I 236 7) : Int) ≤ 0))) => ?_⟩
        ·
          refine ⟨_, rfl, (by decide), ?_⟩
          refine fun w0 hw0 => ?_; obtain rfl : w0 = some 243 := hw0.symm.trans (FS.g hF rfl)
          refine ⟨_, rfl, (by decide), ?_⟩
          refine ⟨_, rfl, (by decide), ?_⟩
          have r17 : 0 ≤ (I 235 12) ∧ (I 235 12) ≤ 20000000 := Rg.f12 hR
          refine ⟨_, rfl, (by decide), (show (0 : Int) ≤ (I 235 18) from by first | with_reducible assumption | omega | (simp only [wr, wl] at *; omega)), (show (I 235 18) < (24 : Int) from by first | with_reducible assumption | omega | (simp only [wr, wl] at *; omega)), ?_⟩
          refine ⟨_, rfl, (by decide), ?_⟩
          refine fun w0 hw0 => ?_; obtain rfl : w0 = some 244 := hw0.symm.trans (FS.g hF rfl)
          refine ⟨_, rfl, (by decide), ?_⟩
          refine ⟨fun _ => ?_, fun c => absurd (show ((0 : Int) = 0) from by decide) c⟩
          refine ⟨_, rfl, (by decide), ?_⟩
          refine fun w0 hw0 => ?_; obtain rfl : w0 = some 236 := hw0.symm.trans (FS.g hF rfl)
          refine ⟨_, rfl, (by decide), (by decide), (by decide), ?_⟩
          have a18 : -2147483648 ≤ (I 242 (Int.toNat (Int.tmod (wr ((wr ((I 235 16) + 1)) - (I 236 8))) 8))) ∧ (I 242 (Int.toNat (Int.tmod (wr ((wr ((I 235 16) + 1)) - (I 236 8))) 8))) < 2147483648 := hA.1 _ _
          have a19 : -2147483648 ≤ (I 236 6) ∧ (I 236 6) < 2147483648 := hA.1 _ _
          refine ⟨fun (c20 : (((I 242 (Int.toNat (Int.tmod (wr ((wr ((I 235 16) + 1)) - (I 236 8))) 8))) : Int) ≤ (I 236 6))) => ?_, fun (c20 : (¬ (((I 242 (Int.toNat (Int.tmod (wr ((wr ((I 235 16) + 1)) - (I 236 8))) 8))) : Int) ≤ (I 236 6)))) => ?_⟩
          ·
            refine ⟨_, rfl, (by decide), (show (0 : Int) ≤ (I 235 18) from by first | with_reducible assumption | omega | (simp only [wr, wl] at *; omega)), (show (I 235 18) < (24 : Int) from by first | with_reducible assumption | omega | (simp only [wr, wl] at *; omega)), ?_⟩
            refine ⟨_, rfl, (by decide), ?_⟩
            refine ⟨_, rfl, (by decide), ?_⟩
            have n21 : (wr ((I 235 18) + 1)) = (I 235 18) + 1 := wr_id (show -2147483648 ≤ ((I 235 18) + 1 : Int) ∧ ((I 235 18) + 1 : Int) < 2147483648 from by omega)
            have p22 : (0 : Int) ≤ (wr ((I 235 18) + 1)) ∧ ((wr ((I 235 18) + 1)) : Int) ≤ 24 := by first | omega | (simp only [wr, wl] at *; omega)
            exact ⟨rfl, fun hv hA' => hQ _ (Rg.u (Rg.u (Rg.u hR (Pr_p (k := 243) rfl _ _)) (Pr_p (k := 244) rfl _ _)) (Pr_x18 p22)) hA' (fun ka ja hk => ((uI_o (show ¬ (ka = 235 ∧ ja = 18) from by first | (intro e; obtain ⟨rfl, rfl⟩ := e; exact hk (by decide)) | omega))).trans (((uI_o (show ¬ (ka = 244 ∧ ja = (Int.toNat (I 235 18))) from by first | (intro e; obtain ⟨rfl, _⟩ := e; exact hk (by decide)) | omega))).trans ((uI_o (show ¬ (ka = 243 ∧ ja = (Int.toNat (I 235 18))) from by first | (intro e; obtain ⟨rfl, _⟩ := e; exact hk (by decide)) | omega))))) ((by
                              have hv : ((I 242 (Int.toNat (Int.tmod (wr ((wr ((I 235 16) + 1)) - (I 236 8))) 8))) : Int) = (I 242 (Int.toNat (Int.tmod (wr ((wr ((I 235 16) + 1)) - (I 236 8))) 8))) := rfl
                              refine ⟨fun z => absurd z (by omega), fun _ => ⟨(show (wr ((I 235 18) + 1)) = I 235 18 + 1 from by omega), fun i hi => ⟨(uI_o (show ¬ (243 = 235 ∧ i = 18) from fun e => absurd e.1 (Nat.ne_of_beq_eq_false rfl))).trans ((uI_o (show ¬ (243 = 244 ∧ i = (Int.toNat (I 235 18))) from fun e => absurd e.1 (Nat.ne_of_beq_eq_false rfl))).trans (uJ_ne (show ¬ i = (Int.toNat (I 235 18)) from by omega))), (uI_o (show ¬ (244 = 235 ∧ i = 18) from fun e => absurd e.1 (Nat.ne_of_beq_eq_false rfl))).trans ((uJ_ne (show ¬ i = (Int.toNat (I 235 18)) from by omega)).trans (uI_o (show ¬ (244 = 243 ∧ i = (Int.toNat (I 235 18))) from fun e => absurd e.1 (Nat.ne_of_beq_eq_false rfl))))⟩, (I 242 (Int.toNat (I 235 16 + 1 - P 4) % 8)), (I 242 (Int.toNat (Int.tmod (wr ((wr ((I 235 16) + 1)) - (I 236 8))) 8))), fun z => absurd z (by omega), fun _ => ⟨fun z => absurd z (by omega), fun z => rfl⟩, fun z => ?_, fun z => ⟨fun y => ?_, fun y => ?_⟩, fun i hi => ⟨(uI_o (show ¬ (243 = 235 ∧ i = 18) from fun e => absurd e.1 (Nat.ne_of_beq_eq_false rfl))).trans ((uI_o (show ¬ (243 = 244 ∧ i = (Int.toNat (I 235 18))) from fun e => absurd e.1 (Nat.ne_of_beq_eq_false rfl))).trans (uJ_eqj (show i = (Int.toNat (I 235 18)) from by omega))), (uI_o (show ¬ (244 = 235 ∧ i = 18) from fun e => absurd e.1 (Nat.ne_of_beq_eq_false rfl))).trans (uJ_eqj (show i = (Int.toNat (I 235 18)) from by omega))⟩⟩⟩
                              all_goals omega))⟩
          ·
            refine ⟨_, rfl, (by decide), (show (0 : Int) ≤ (I 235 18) from by first | with_reducible assumption | omega | (simp only [wr, wl] at *; omega)), (show (I 235 18) < (24 : Int) from by first | with_reducible assumption | omega | (simp only [wr, wl] at *; omega)), ?_⟩
            refine ⟨_, rfl, (by decide), ?_⟩
            refine ⟨_, rfl, (by decide), ?_⟩
            have n23 : (wr ((I 235 18) + 1)) = (I 235 18) + 1 := wr_id (show -2147483648 ≤ ((I 235 18) + 1 : Int) ∧ ((I 235 18) + 1 : Int) < 2147483648 from by omega)
            have p24 : (0 : Int) ≤ (wr ((I 235 18) + 1)) ∧ ((wr ((I 235 18) + 1)) : Int) ≤ 24 := by first | omega | (simp only [wr, wl] at *; omega)
            exact ⟨rfl, fun hv hA' => hQ _ (Rg.u (Rg.u (Rg.u hR (Pr_p (k := 243) rfl _ _)) (Pr_p (k := 244) rfl _ _)) (Pr_x18 p24)) hA' (fun ka ja hk => ((uI_o (show ¬ (ka = 235 ∧ ja = 18) from by first | (intro e; obtain ⟨rfl, rfl⟩ := e; exact hk (by decide)) | omega))).trans (((uI_o (show ¬ (ka = 244 ∧ ja = (Int.toNat (I 235 18))) from by first | (intro e; obtain ⟨rfl, _⟩ := e; exact hk (by decide)) | omega))).trans ((uI_o (show ¬ (ka = 243 ∧ ja = (Int.toNat (I 235 18))) from by first | (intro e; obtain ⟨rfl, _⟩ := e; exact hk (by decide)) | omega))))) ((by
                              have hv : ((-2) : Int) = (-2) := rfl
                              refine ⟨fun z => absurd z (by omega), fun _ => ⟨(show (wr ((I 235 18) + 1)) = I 235 18 + 1 from by omega), fun i hi => ⟨(uI_o (show ¬ (243 = 235 ∧ i = 18) from fun e => absurd e.1 (Nat.ne_of_beq_eq_false rfl))).trans ((uI_o (show ¬ (243 = 244 ∧ i = (Int.toNat (I 235 18))) from fun e => absurd e.1 (Nat.ne_of_beq_eq_false rfl))).trans (uJ_ne (show ¬ i = (Int.toNat (I 235 18)) from by omega))), (uI_o (show ¬ (244 = 235 ∧ i = 18) from fun e => absurd e.1 (Nat.ne_of_beq_eq_false rfl))).trans ((uJ_ne (show ¬ i = (Int.toNat (I 235 18)) from by omega)).trans (uI_o (show ¬ (244 = 243 ∧ i = (Int.toNat (I 235 18))) from fun e => absurd e.1 (Nat.ne_of_beq_eq_false rfl))))⟩, (I 242 (Int.toNat (I 235 16 + 1 - P 4) % 8)), (-2), fun z => absurd z (by omega), fun _ => ⟨fun z => absurd z (by omega), fun z => rfl⟩, fun z => ?_, fun z => ⟨fun y => ?_, fun y => ?_⟩, fun i hi => ⟨(uI_o (show ¬ (243 = 235 ∧ i = 18) from fun e => absurd e.1 (Nat.ne_of_beq_eq_false rfl))).trans ((uI_o (show ¬ (243 = 244 ∧ i = (Int.toNat (I 235 18))) from fun e => absurd e.1 (Nat.ne_of_beq_eq_false rfl))).trans (uJ_eqj (show i = (Int.toNat (I 235 18)) from by omega))), (uI_o (show ¬ (244 = 235 ∧ i = 18) from fun e => absurd e.1 (Nat.ne_of_beq_eq_false rfl))).trans (uJ_eqj (show i = (Int.toNat (I 235 18)) from by omega))⟩⟩⟩
                              all_goals omega))⟩
        ·
          refine ⟨_, rfl, (by decide), ?_⟩
          refine ⟨_, rfl, (by decide), ?_⟩
          refine fun w0 hw0 => ?_; obtain rfl : w0 = some 236 := hw0.symm.trans (FS.g hF rfl)
          refine ⟨_, rfl, (by decide), (by decide), (by decide), ?_⟩
          refine ⟨(show ¬ ((I 236 7) : Int) = 0 from by first | omega | (simp only [wr, wl] at *; omega)), ?_⟩
          refine ⟨fun (c25 : (¬ ((Int.tmod (wr ((I 235 18) + 1)) (I 236 7)) : Int) = 0)) => ?_, fun (c25 : (((Int.tmod (wr ((I 235 18) + 1)) (I 236 7)) : Int) = 0)) => ?_⟩
          ·
            refine ⟨_, rfl, (by decide), ?_⟩
            refine fun w0 hw0 => ?_; obtain rfl : w0 = some 243 := hw0.symm.trans (FS.g hF rfl)
            refine ⟨_, rfl, (by decide), ?_⟩
            refine ⟨_, rfl, (by decide), ?_⟩
            have r26 : 0 ≤ (I 235 12) ∧ (I 235 12) ≤ 20000000 := Rg.f12 hR
            refine ⟨_, rfl, (by decide), (show (0 : Int) ≤ (I 235 18) from by first | with_reducible assumption | omega | (simp only [wr, wl] at *; omega)), (show (I 235 18) < (24 : Int) from by first | with_reducible assumption | omega | (simp only [wr, wl] at *; omega)), ?_⟩
            refine ⟨_, rfl, (by decide), ?_⟩
            refine fun w0 hw0 => ?_; obtain rfl : w0 = some 244 := hw0.symm.trans (FS.g hF rfl)
            refine ⟨_, rfl, (by decide), ?_⟩
            refine ⟨fun _ => ?_, fun c => absurd (show ((0 : Int) = 0) from by decide) c⟩
            refine ⟨_, rfl, (by decide), ?_⟩
            refine fun w0 hw0 => ?_; obtain rfl : w0 = some 236 := hw0.symm.trans (FS.g hF rfl)
            refine ⟨_, rfl, (by decide), (by decide), (by decide), ?_⟩
            have a27 : -2147483648 ≤ (I 242 (Int.toNat (Int.tmod (wr ((wr ((I 235 16) + 1)) - (I 236 8))) 8))) ∧ (I 242 (Int.toNat (Int.tmod (wr ((wr ((I 235 16) + 1)) - (I 236 8))) 8))) < 2147483648 := hA.1 _ _
            have a28 : -2147483648 ≤ (I 236 6) ∧ (I 236 6) < 2147483648 := hA.1 _ _
            refine ⟨fun (c29 : (((I 242 (Int.toNat (Int.tmod (wr ((wr ((I 235 16) + 1)) - (I 236 8))) 8))) : Int) ≤ (I 236 6))) => ?_, fun (c29 : (¬ (((I 242 (Int.toNat (Int.tmod (wr ((wr ((I 235 16) + 1)) - (I 236 8))) 8))) : Int) ≤ (I 236 6)))) => ?_⟩
            ·
              refine ⟨_, rfl, (by decide), (show (0 : Int) ≤ (I 235 18) from by first | with_reducible assumption | omega | (simp only [wr, wl] at *; omega)), (show (I 235 18) < (24 : Int) from by first | with_reducible assumption | omega | (simp only [wr, wl] at *; omega)), ?_⟩
              refine ⟨_, rfl, (by decide), ?_⟩
              refine ⟨_, rfl, (by decide), ?_⟩
              have n30 : (wr ((I 235 18) + 1)) = (I 235 18) + 1 := wr_id (show -2147483648 ≤ ((I 235 18) + 1 : Int) ∧ ((I 235 18) + 1 : Int) < 2147483648 from by omega)
              have p31 : (0 : Int) ≤ (wr ((I 235 18) + 1)) ∧ ((wr ((I 235 18) + 1)) : Int) ≤ 24 := by first | omega | (simp only [wr, wl] at *; omega)
              exact ⟨rfl, fun hv hA' => hQ _ (Rg.u (Rg.u (Rg.u hR (Pr_p (k := 243) rfl _ _)) (Pr_p (k := 244) rfl _ _)) (Pr_x18 p31)) hA' (fun ka ja hk => ((uI_o (show ¬ (ka = 235 ∧ ja = 18) from by first | (intro e; obtain ⟨rfl, rfl⟩ := e; exact hk (by decide)) | omega))).trans (((uI_o (show ¬ (ka = 244 ∧ ja = (Int.toNat (I 235 18))) from by first | (intro e; obtain ⟨rfl, _⟩ := e; exact hk (by decide)) | omega))).trans ((uI_o (show ¬ (ka = 243 ∧ ja = (Int.toNat (I 235 18))) from by first | (intro e; obtain ⟨rfl, _⟩ := e; exact hk (by decide)) | omega))))) ((by
                              have hv : ((I 242 (Int.toNat (Int.tmod (wr ((wr ((I 235 16) + 1)) - (I 236 8))) 8))) : Int) = (I 242 (Int.toNat (Int.tmod (wr ((wr ((I 235 16) + 1)) - (I 236 8))) 8))) := rfl
                              refine ⟨fun z => absurd z (by omega), fun _ => ⟨(show (wr ((I 235 18) + 1)) = I 235 18 + 1 from by omega), fun i hi => ⟨(uI_o (show ¬ (243 = 235 ∧ i = 18) from fun e => absurd e.1 (Nat.ne_of_beq_eq_false rfl))).trans ((uI_o (show ¬ (243 = 244 ∧ i = (Int.toNat (I 235 18))) from fun e => absurd e.1 (Nat.ne_of_beq_eq_false rfl))).trans (uJ_ne (show ¬ i = (Int.toNat (I 235 18)) from by omega))), (uI_o (show ¬ (244 = 235 ∧ i = 18) from fun e => absurd e.1 (Nat.ne_of_beq_eq_false rfl))).trans ((uJ_ne (show ¬ i = (Int.toNat (I 235 18)) from by omega)).trans (uI_o (show ¬ (244 = 243 ∧ i = (Int.toNat (I 235 18))) from fun e => absurd e.1 (Nat.ne_of_beq_eq_false rfl))))⟩, (I 242 (Int.toNat (I 235 16 + 1 - P 4) % 8)), (I 242 (Int.toNat (Int.tmod (wr ((wr ((I 235 16) + 1)) - (I 236 8))) 8))), fun z => absurd z (by omega), fun _ => ⟨fun z => absurd z (by omega), fun z => rfl⟩, fun z => ?_, fun z => ⟨fun y => ?_, fun y => ?_⟩, fun i hi => ⟨(uI_o (show ¬ (243 = 235 ∧ i = 18) from fun e => absurd e.1 (Nat.ne_of_beq_eq_false rfl))).trans ((uI_o (show ¬ (243 = 244 ∧ i = (Int.toNat (I 235 18))) from fun e => absurd e.1 (Nat.ne_of_beq_eq_false rfl))).trans (uJ_eqj (show i = (Int.toNat (I 235 18)) from by omega))), (uI_o (show ¬ (244 = 235 ∧ i = 18) from fun e => absurd e.1 (Nat.ne_of_beq_eq_false rfl))).trans (uJ_eqj (show i = (Int.toNat (I 235 18)) from by omega))⟩⟩⟩
                              all_goals omega))⟩
            ·
              refine ⟨_, rfl, (by decide), (show (0 : Int) ≤ (I 235 18) from by first | with_reducible assumption | omega | (simp only [wr, wl] at *; omega)), (show (I 235 18) < (24 : Int) from by first | with_reducible assumption | omega | (simp only [wr, wl] at *; omega)), ?_⟩
              refine ⟨_, rfl, (by decide), ?_⟩
              refine ⟨_, rfl, (by decide), ?_⟩
              have n32 : (wr ((I 235 18) + 1)) = (I 235 18) + 1 := wr_id (show -2147483648 ≤ ((I 235 18) + 1 : Int) ∧ ((I 235 18) + 1 : Int) < 2147483648 from by omega)
              have p33 : (0 : Int) ≤ (wr ((I 235 18) + 1)) ∧ ((wr ((I 235 18) + 1)) : Int) ≤ 24 := by first | omega | (simp only [wr, wl] at *; omega)
              exact ⟨rfl, fun hv hA' => hQ _ (Rg.u (Rg.u (Rg.u hR (Pr_p (k := 243) rfl _ _)) (Pr_p (k := 244) rfl _ _)) (Pr_x18 p33)) hA' (fun ka ja hk => ((uI_o (show ¬ (ka = 235 ∧ ja = 18) from by first | (intro e; obtain ⟨rfl, rfl⟩ := e; exact hk (by decide)) | omega))).trans (((uI_o (show ¬ (ka = 244 ∧ ja = (Int.toNat (I 235 18))) from by first | (intro e; obtain ⟨rfl, _⟩ := e; exact hk (by decide)) | omega))).trans ((uI_o (show ¬ (ka = 243 ∧ ja = (Int.toNat (I 235 18))) from by first | (intro e; obtain ⟨rfl, _⟩ := e; exact hk (by decide)) | omega))))) ((by
                              have hv : ((-2) : Int) = (-2) := rfl
                              refine ⟨fun z => absurd z (by omega), fun _ => ⟨(show (wr ((I 235 18) + 1)) = I 235 18 + 1 from by omega), fun i hi => ⟨(uI_o (show ¬ (243 = 235 ∧ i = 18) from fun e => absurd e.1 (Nat.ne_of_beq_eq_false rfl))).trans ((uI_o (show ¬ (243 = 244 ∧ i = (Int.toNat (I 235 18))) from fun e => absurd e.1 (Nat.ne_of_beq_eq_false rfl))).trans (uJ_ne (show ¬ i = (Int.toNat (I 235 18)) from by omega))), (uI_o (show ¬ (244 = 235 ∧ i = 18) from fun e => absurd e.1 (Nat.ne_of_beq_eq_false rfl))).trans ((uJ_ne (show ¬ i = (Int.toNat (I 235 18)) from by omega)).trans (uI_o (show ¬ (244 = 243 ∧ i = (Int.toNat (I 235 18))) from fun e => absurd e.1 (Nat.ne_of_beq_eq_false rfl))))⟩, (I 242 (Int.toNat (I 235 16 + 1 - P 4) % 8)), (-2), fun z => absurd z (by omega), fun _ => ⟨fun z => absurd z (by omega), fun z => rfl⟩, fun z => ?_, fun z => ⟨fun y => ?_, fun y => ?_⟩, fun i hi => ⟨(uI_o (show ¬ (243 = 235 ∧ i = 18) from fun e => absurd e.1 (Nat.ne_of_beq_eq_false rfl))).trans ((uI_o (show ¬ (243 = 244 ∧ i = (Int.toNat (I 235 18))) from fun e => absurd e.1 (Nat.ne_of_beq_eq_false rfl))).trans (uJ_eqj (show i = (Int.toNat (I 235 18)) from by omega))), (uI_o (show ¬ (244 = 235 ∧ i = 18) from fun e => absurd e.1 (Nat.ne_of_beq_eq_false rfl))).trans (uJ_eqj (show i = (Int.toNat (I 235 18)) from by omega))⟩⟩⟩
                              all_goals omega))⟩
          ·
            refine ⟨_, rfl, (by decide), ?_⟩
            refine fun w0 hw0 => ?_; obtain rfl : w0 = some 243 := hw0.symm.trans (FS.g hF rfl)
            refine ⟨_, rfl, (by decide), ?_⟩
            refine ⟨_, rfl, (by decide), ?_⟩
            have r34 : 0 ≤ (I 235 12) ∧ (I 235 12) ≤ 20000000 := Rg.f12 hR
            refine ⟨_, rfl, (by decide), (show (0 : Int) ≤ (I 235 18) from by first | with_reducible assumption | omega | (simp only [wr, wl] at *; omega)), (show (I 235 18) < (24 : Int) from by first | with_reducible assumption | omega | (simp only [wr, wl] at *; omega)), ?_⟩
            refine ⟨_, rfl, (by decide), ?_⟩
            refine fun w0 hw0 => ?_; obtain rfl : w0 = some 244 := hw0.symm.trans (FS.g hF rfl)
            refine ⟨_, rfl, (by decide), ?_⟩
            refine ⟨fun c => absurd c (show (¬ ((1 : Int) = 0)) from by decide), fun _ => ?_⟩
            refine ⟨_, rfl, (by decide), (show (0 : Int) ≤ (I 235 18) from by first | with_reducible assumption | omega | (simp only [wr, wl] at *; omega)), (show (I 235 18) < (24 : Int) from by first | with_reducible assumption | omega | (simp only [wr, wl] at *; omega)), ?_⟩
            refine ⟨_, rfl, (by decide), ?_⟩
            refine ⟨_, rfl, (by decide), ?_⟩
            have n35 : (wr ((I 235 18) + 1)) = (I 235 18) + 1 := wr_id (show -2147483648 ≤ ((I 235 18) + 1 : Int) ∧ ((I 235 18) + 1 : Int) < 2147483648 from by omega)
            have p36 : (0 : Int) ≤ (wr ((I 235 18) + 1)) ∧ ((wr ((I 235 18) + 1)) : Int) ≤ 24 := by first | omega | (simp only [wr, wl] at *; omega)
            exact ⟨rfl, fun hv hA' => hQ _ (Rg.u (Rg.u (Rg.u hR (Pr_p (k := 243) rfl _ _)) (Pr_p (k := 244) rfl _ _)) (Pr_x18 p36)) hA' (fun ka ja hk => ((uI_o (show ¬ (ka = 235 ∧ ja = 18) from by first | (intro e; obtain ⟨rfl, rfl⟩ := e; exact hk (by decide)) | omega))).trans (((uI_o (show ¬ (ka = 244 ∧ ja = (Int.toNat (I 235 18))) from by first | (intro e; obtain ⟨rfl, _⟩ := e; exact hk (by decide)) | omega))).trans ((uI_o (show ¬ (ka = 243 ∧ ja = (Int.toNat (I 235 18))) from by first | (intro e; obtain ⟨rfl, _⟩ := e; exact hk (by decide)) | omega))))) ((by
                              have hv : ((-1) : Int) = (-1) := rfl
                              refine ⟨fun z => absurd z (by omega), fun _ => ⟨(show (wr ((I 235 18) + 1)) = I 235 18 + 1 from by omega), fun i hi => ⟨(uI_o (show ¬ (243 = 235 ∧ i = 18) from fun e => absurd e.1 (Nat.ne_of_beq_eq_false rfl))).trans ((uI_o (show ¬ (243 = 244 ∧ i = (Int.toNat (I 235 18))) from fun e => absurd e.1 (Nat.ne_of_beq_eq_false rfl))).trans (uJ_ne (show ¬ i = (Int.toNat (I 235 18)) from by omega))), (uI_o (show ¬ (244 = 235 ∧ i = 18) from fun e => absurd e.1 (Nat.ne_of_beq_eq_false rfl))).trans ((uJ_ne (show ¬ i = (Int.toNat (I 235 18)) from by omega)).trans (uI_o (show ¬ (244 = 243 ∧ i = (Int.toNat (I 235 18))) from fun e => absurd e.1 (Nat.ne_of_beq_eq_false rfl))))⟩, (I 242 (Int.toNat (I 235 16 + 1 - P 4) % 8)), (-1), fun z => absurd z (by omega), fun _ => ⟨fun z => absurd z (by omega), fun z => rfl⟩, fun z => ?_, fun z => ⟨fun y => ?_, fun y => ?_⟩, fun i hi => ⟨(uI_o (show ¬ (243 = 235 ∧ i = 18) from fun e => absurd e.1 (Nat.ne_of_beq_eq_false rfl))).trans ((uI_o (show ¬ (243 = 244 ∧ i = (Int.toNat (I 235 18))) from fun e => absurd e.1 (Nat.ne_of_beq_eq_false rfl))).trans (uJ_eqj (show i = (Int.toNat (I 235 18)) from by omega))), (uI_o (show ¬ (244 = 235 ∧ i = 18) from fun e => absurd e.1 (Nat.ne_of_beq_eq_false rfl))).trans (uJ_eqj (show i = (Int.toNat (I 235 18)) from by omega))⟩⟩⟩
                              all_goals omega))⟩
      ·
        refine ⟨_, rfl, (by decide), ?_⟩
        refine fun w0 hw0 => ?_; obtain rfl : w0 = some 236 := hw0.symm.trans (FS.g hF rfl)
        refine ⟨_, rfl, (by decide), (by decide), (by decide), ?_⟩
        have r37 : 0 ≤ (I 236 7) ∧ (I 236 7) ≤ 24 := Rg.n7 hR
        refine ⟨fun (c39 : (((I 236 7) : Int) ≤ 0)) => ?_, fun (c39 : (¬ (((I 236 7) : Int) ≤ 0))) => ?_⟩
        ·
          refine ⟨_, rfl, (by decide), ?_⟩
          refine fun w0 hw0 => ?_; obtain rfl : w0 = some 243 := hw0.symm.trans (FS.g hF rfl)
          refine ⟨_, rfl, (by decide), ?_⟩
          refine ⟨_, rfl, (by decide), ?_⟩
          have r40 : 0 ≤ (I 235 12) ∧ (I 235 12) ≤ 20000000 := Rg.f12 hR
          refine ⟨_, rfl, (by decide), (show (0 : Int) ≤ (I 235 18) from by first | with_reducible assumption | omega | (simp only [wr, wl] at *; omega)), (show (I 235 18) < (24 : Int) from by first | with_reducible assumption | omega | (simp only [wr, wl] at *; omega)), ?_⟩
          refine ⟨_, rfl, (by decide), ?_⟩
          refine fun w0 hw0 => ?_; obtain rfl : w0 = some 244 := hw0.symm.trans (FS.g hF rfl)
          refine ⟨_, rfl, (by decide), ?_⟩
          refine ⟨fun _ => ?_, fun c => absurd (show ((0 : Int) = 0) from by decide) c⟩
          refine ⟨_, rfl, (by decide), ?_⟩
          refine fun w0 hw0 => ?_; obtain rfl : w0 = some 236 := hw0.symm.trans (FS.g hF rfl)
          refine ⟨_, rfl, (by decide), (by decide), (by decide), ?_⟩
          have a41 : -2147483648 ≤ (I 236 6) ∧ (I 236 6) < 2147483648 := hA.1 _ _
          refine ⟨fun (c42 : ((0 : Int) ≤ (I 236 6))) => ?_, fun (c42 : (¬ ((0 : Int) ≤ (I 236 6)))) => ?_⟩
          ·
            refine ⟨_, rfl, (by decide), (show (0 : Int) ≤ (I 235 18) from by first | with_reducible assumption | omega | (simp only [wr, wl] at *; omega)), (show (I 235 18) < (24 : Int) from by first | with_reducible assumption | omega | (simp only [wr, wl] at *; omega)), ?_⟩
            refine ⟨_, rfl, (by decide), ?_⟩
            refine ⟨_, rfl, (by decide), ?_⟩
            have n43 : (wr ((I 235 18) + 1)) = (I 235 18) + 1 := wr_id (show -2147483648 ≤ ((I 235 18) + 1 : Int) ∧ ((I 235 18) + 1 : Int) < 2147483648 from by omega)
            have p44 : (0 : Int) ≤ (wr ((I 235 18) + 1)) ∧ ((wr ((I 235 18) + 1)) : Int) ≤ 24 := by first | omega | (simp only [wr, wl] at *; omega)
            exact ⟨rfl, fun hv hA' => hQ _ (Rg.u (Rg.u (Rg.u hR (Pr_p (k := 243) rfl _ _)) (Pr_p (k := 244) rfl _ _)) (Pr_x18 p44)) hA' (fun ka ja hk => ((uI_o (show ¬ (ka = 235 ∧ ja = 18) from by first | (intro e; obtain ⟨rfl, rfl⟩ := e; exact hk (by decide)) | omega))).trans (((uI_o (show ¬ (ka = 244 ∧ ja = (Int.toNat (I 235 18))) from by first | (intro e; obtain ⟨rfl, _⟩ := e; exact hk (by decide)) | omega))).trans ((uI_o (show ¬ (ka = 243 ∧ ja = (Int.toNat (I 235 18))) from by first | (intro e; obtain ⟨rfl, _⟩ := e; exact hk (by decide)) | omega))))) ((by
                              have hv : (0 : Int) = 0 := rfl
                              refine ⟨fun z => absurd z (by omega), fun _ => ⟨(show (wr ((I 235 18) + 1)) = I 235 18 + 1 from by omega), fun i hi => ⟨(uI_o (show ¬ (243 = 235 ∧ i = 18) from fun e => absurd e.1 (Nat.ne_of_beq_eq_false rfl))).trans ((uI_o (show ¬ (243 = 244 ∧ i = (Int.toNat (I 235 18))) from fun e => absurd e.1 (Nat.ne_of_beq_eq_false rfl))).trans (uJ_ne (show ¬ i = (Int.toNat (I 235 18)) from by omega))), (uI_o (show ¬ (244 = 235 ∧ i = 18) from fun e => absurd e.1 (Nat.ne_of_beq_eq_false rfl))).trans ((uJ_ne (show ¬ i = (Int.toNat (I 235 18)) from by omega)).trans (uI_o (show ¬ (244 = 243 ∧ i = (Int.toNat (I 235 18))) from fun e => absurd e.1 (Nat.ne_of_beq_eq_false rfl))))⟩, (0 : Int), 0, fun z => absurd z (by omega), fun _ => ⟨fun z => rfl, fun z => absurd (by omega) z⟩, fun z => ?_, fun z => ⟨fun y => ?_, fun y => ?_⟩, fun i hi => ⟨(uI_o (show ¬ (243 = 235 ∧ i = 18) from fun e => absurd e.1 (Nat.ne_of_beq_eq_false rfl))).trans ((uI_o (show ¬ (243 = 244 ∧ i = (Int.toNat (I 235 18))) from fun e => absurd e.1 (Nat.ne_of_beq_eq_false rfl))).trans (uJ_eqj (show i = (Int.toNat (I 235 18)) from by omega))), (uI_o (show ¬ (244 = 235 ∧ i = 18) from fun e => absurd e.1 (Nat.ne_of_beq_eq_false rfl))).trans (uJ_eqj (show i = (Int.toNat (I 235 18)) from by omega))⟩⟩⟩
                              all_goals omega))⟩
          ·
            refine ⟨_, rfl, (by decide), (show (0 : Int) ≤ (I 235 18) from by first | with_reducible assumption | omega | (simp only [wr, wl] at *; omega)), (show (I 235 18) < (24 : Int) from by first | with_reducible assumption | omega | (simp only [wr, wl] at *; omega)), ?_⟩
            refine ⟨_, rfl, (by decide), ?_⟩
            refine ⟨_, rfl, (by decide), ?_⟩
            have n45 : (wr ((I 235 18) + 1)) = (I 235 18) + 1 := wr_id (show -2147483648 ≤ ((I 235 18) + 1 : Int) ∧ ((I 235 18) + 1 : Int) < 2147483648 from by omega)
            have p46 : (0 : Int) ≤ (wr ((I 235 18) + 1)) ∧ ((wr ((I 235 18) + 1)) : Int) ≤ 24 := by first | omega | (simp only [wr, wl] at *; omega)
            exact ⟨rfl, fun hv hA' => hQ _ (Rg.u (Rg.u (Rg.u hR (Pr_p (k := 243) rfl _ _)) (Pr_p (k := 244) rfl _ _)) (Pr_x18 p46)) hA' (fun ka ja hk => ((uI_o (show ¬ (ka = 235 ∧ ja = 18) from by first | (intro e; obtain ⟨rfl, rfl⟩ := e; exact hk (by decide)) | omega))).trans (((uI_o (show ¬ (ka = 244 ∧ ja = (Int.toNat (I 235 18))) from by first | (intro e; obtain ⟨rfl, _⟩ := e; exact hk (by decide)) | omega))).trans ((uI_o (show ¬ (ka = 243 ∧ ja = (Int.toNat (I 235 18))) from by first | (intro e; obtain ⟨rfl, _⟩ := e; exact hk (by decide)) | omega))))) ((by
                              have hv : ((-2) : Int) = (-2) := rfl
                              refine ⟨fun z => absurd z (by omega), fun _ => ⟨(show (wr ((I 235 18) + 1)) = I 235 18 + 1 from by omega), fun i hi => ⟨(uI_o (show ¬ (243 = 235 ∧ i = 18) from fun e => absurd e.1 (Nat.ne_of_beq_eq_false rfl))).trans ((uI_o (show ¬ (243 = 244 ∧ i = (Int.toNat (I 235 18))) from fun e => absurd e.1 (Nat.ne_of_beq_eq_false rfl))).trans (uJ_ne (show ¬ i = (Int.toNat (I 235 18)) from by omega))), (uI_o (show ¬ (244 = 235 ∧ i = 18) from fun e => absurd e.1 (Nat.ne_of_beq_eq_false rfl))).trans ((uJ_ne (show ¬ i = (Int.toNat (I 235 18)) from by omega)).trans (uI_o (show ¬ (244 = 243 ∧ i = (Int.toNat (I 235 18))) from fun e => absurd e.1 (Nat.ne_of_beq_eq_false rfl))))⟩, (0 : Int), (-2), fun z => absurd z (by omega), fun _ => ⟨fun z => rfl, fun z => absurd (by omega) z⟩, fun z => ?_, fun z => ⟨fun y => ?_, fun y => ?_⟩, fun i hi => ⟨(uI_o (show ¬ (243 = 235 ∧ i = 18) from fun e => absurd e.1 (Nat.ne_of_beq_eq_false rfl))).trans ((uI_o (show ¬ (243 = 244 ∧ i = (Int.toNat (I 235 18))) from fun e => absurd e.1 (Nat.ne_of_beq_eq_false rfl))).trans (uJ_eqj (show i = (Int.toNat (I 235 18)) from by omega))), (uI_o (show ¬ (244 = 235 ∧ i = 18) from fun e => absurd e.1 (Nat.ne_of_beq_eq_false rfl))).trans (uJ_eqj (show i = (Int.toNat (I 235 18)) from by omega))⟩⟩⟩
                              all_goals omega))⟩
        ·
          refine ⟨_, rfl, (by decide), ?_⟩
          refine ⟨_, rfl, (by decide), ?_⟩
          refine fun w0 hw0 => ?_; obtain rfl : w0 = some 236 := hw0.symm.trans (FS.g hF rfl)
          refine ⟨_, rfl, (by decide), (by decide), (by decide), ?_⟩
          refine ⟨(show ¬ ((I 236 7) : Int) = 0 from by first | omega | (simp only [wr, wl] at *; omega)), ?_⟩
          refine ⟨fun (c47 : (¬ ((Int.tmod (wr ((I 235 18) + 1)) (I 236 7)) : Int) = 0)) => ?_, fun (c47 : (((Int.tmod (wr ((I 235 18) + 1)) (I 236 7)) : Int) = 0)) => ?_⟩
          ·
            refine ⟨_, rfl, (by decide), ?_⟩
            refine fun w0 hw0 => ?_; obtain rfl : w0 = some 243 := hw0.symm.trans (FS.g hF rfl)
            refine ⟨_, rfl, (by decide), ?_⟩
            refine ⟨_, rfl, (by decide), ?_⟩
            have r48 : 0 ≤ (I 235 12) ∧ (I 235 12) ≤ 20000000 := Rg.f12 hR
            refine ⟨_, rfl, (by decide), (show (0 : Int) ≤ (I 235 18) from by first | with_reducible assumption | omega | (simp only [wr, wl] at *; omega)), (show (I 235 18) < (24 : Int) from by first | with_reducible assumption | omega | (simp only [wr, wl] at *; omega)), ?_⟩
            refine ⟨_, rfl, (by decide), ?_⟩
            refine fun w0 hw0 => ?_; obtain rfl : w0 = some 244 := hw0.symm.trans (FS.g hF rfl)
            refine ⟨_, rfl, (by decide), ?_⟩
            refine ⟨fun _ => ?_, fun c => absurd (show ((0 : Int) = 0) from by decide) c⟩
            refine ⟨_, rfl, (by decide), ?_⟩
            refine fun w0 hw0 => ?_; obtain rfl : w0 = some 236 := hw0.symm.trans (FS.g hF rfl)
            refine ⟨_, rfl, (by decide), (by decide), (by decide), ?_⟩
            have a49 : -2147483648 ≤ (I 236 6) ∧ (I 236 6) < 2147483648 := hA.1 _ _
            refine ⟨fun (c50 : ((0 : Int) ≤ (I 236 6))) => ?_, fun (c50 : (¬ ((0 : Int) ≤ (I 236 6)))) => ?_⟩
            ·
              refine ⟨_, rfl, (by decide), (show (0 : Int) ≤ (I 235 18) from by first | with_reducible assumption | omega | (simp only [wr, wl] at *; omega)), (show (I 235 18) < (24 : Int) from by first | with_reducible assumption | omega | (simp only [wr, wl] at *; omega)), ?_⟩
              refine ⟨_, rfl, (by decide), ?_⟩
              refine ⟨_, rfl, (by decide), ?_⟩
              have n51 : (wr ((I 235 18) + 1)) = (I 235 18) + 1 := wr_id (show -2147483648 ≤ ((I 235 18) + 1 : Int) ∧ ((I 235 18) + 1 : Int) < 2147483648 from by omega)
              have p52 : (0 : Int) ≤ (wr ((I 235 18) + 1)) ∧ ((wr ((I 235 18) + 1)) : Int) ≤ 24 := by first | omega | (simp only [wr, wl] at *; omega)
              exact ⟨rfl, fun hv hA' => hQ _ (Rg.u (Rg.u (Rg.u hR (Pr_p (k := 243) rfl _ _)) (Pr_p (k := 244) rfl _ _)) (Pr_x18 p52)) hA' (fun ka ja hk => ((uI_o (show ¬ (ka = 235 ∧ ja = 18) from by first | (intro e; obtain ⟨rfl, rfl⟩ := e; exact hk (by decide)) | omega))).trans (((uI_o (show ¬ (ka = 244 ∧ ja = (Int.toNat (I 235 18))) from by first | (intro e; obtain ⟨rfl, _⟩ := e; exact hk (by decide)) | omega))).trans ((uI_o (show ¬ (ka = 243 ∧ ja = (Int.toNat (I 235 18))) from by first | (intro e; obtain ⟨rfl, _⟩ := e; exact hk (by decide)) | omega))))) ((by
                              have hv : (0 : Int) = 0 := rfl
                              refine ⟨fun z => absurd z (by omega), fun _ => ⟨(show (wr ((I 235 18) + 1)) = I 235 18 + 1 from by omega), fun i hi => ⟨(uI_o (show ¬ (243 = 235 ∧ i = 18) from fun e => absurd e.1 (Nat.ne_of_beq_eq_false rfl))).trans ((uI_o (show ¬ (243 = 244 ∧ i = (Int.toNat (I 235 18))) from fun e => absurd e.1 (Nat.ne_of_beq_eq_false rfl))).trans (uJ_ne (show ¬ i = (Int.toNat (I 235 18)) from by omega))), (uI_o (show ¬ (244 = 235 ∧ i = 18) from fun e => absurd e.1 (Nat.ne_of_beq_eq_false rfl))).trans ((uJ_ne (show ¬ i = (Int.toNat (I 235 18)) from by omega)).trans (uI_o (show ¬ (244 = 243 ∧ i = (Int.toNat (I 235 18))) from fun e => absurd e.1 (Nat.ne_of_beq_eq_false rfl))))⟩, (0 : Int), 0, fun z => absurd z (by omega), fun _ => ⟨fun z => rfl, fun z => absurd (by omega) z⟩, fun z => ?_, fun z => ⟨fun y => ?_, fun y => ?_⟩, fun i hi => ⟨(uI_o (show ¬ (243 = 235 ∧ i = 18) from fun e => absurd e.1 (Nat.ne_of_beq_eq_false rfl))).trans ((uI_o (show ¬ (243 = 244 ∧ i = (Int.toNat (I 235 18))) from fun e => absurd e.1 (Nat.ne_of_beq_eq_false rfl))).trans (uJ_eqj (show i = (Int.toNat (I 235 18)) from by omega))), (uI_o (show ¬ (244 = 235 ∧ i = 18) from fun e => absurd e.1 (Nat.ne_of_beq_eq_false rfl))).trans (uJ_eqj (show i = (Int.toNat (I 235 18)) from by omega))⟩⟩⟩
                              all_goals omega))⟩
            ·
              refine ⟨_, rfl, (by decide), (show (0 : Int) ≤ (I 235 18) from by first | with_reducible assumption | omega | (simp only [wr, wl] at *; omega)), (show (I 235 18) < (24 : Int) from by first | with_reducible assumption | omega | (simp only [wr, wl] at *; omega)), ?_⟩
              refine ⟨_, rfl, (by decide), ?_⟩
              refine ⟨_, rfl, (by decide), ?_⟩
              have n53 : (wr ((I 235 18) + 1)) = (I 235 18) + 1 := wr_id (show -2147483648 ≤ ((I 235 18) + 1 : Int) ∧ ((I 235 18) + 1 : Int) < 2147483648 from by omega)
              have p54 : (0 : Int) ≤ (wr ((I 235 18) + 1)) ∧ ((wr ((I 235 18) + 1)) : Int) ≤ 24 := by first | omega | (simp only [wr, wl] at *; omega)
              exact ⟨rfl, fun hv hA' => hQ _ (Rg.u (Rg.u (Rg.u hR (Pr_p (k := 243) rfl _ _)) (Pr_p (k := 244) rfl _ _)) (Pr_x18 p54)) hA' (fun ka ja hk => ((uI_o (show ¬ (ka = 235 ∧ ja = 18) from by first | (intro e; obtain ⟨rfl, rfl⟩ := e; exact hk (by decide)) | omega))).trans (((uI_o (show ¬ (ka = 244 ∧ ja = (Int.toNat (I 235 18))) from by first | (intro e; obtain ⟨rfl, _⟩ := e; exact hk (by decide)) | omega))).trans ((uI_o (show ¬ (ka = 243 ∧ ja = (Int.toNat (I 235 18))) from by first | (intro e; obtain ⟨rfl, _⟩ := e; exact hk (by decide)) | omega))))) ((by
                              have hv : ((-2) : Int) = (-2) := rfl
                              refine ⟨fun z => absurd z (by omega), fun _ => ⟨(show (wr ((I 235 18) + 1)) = I 235 18 + 1 from by omega), fun i hi => ⟨(uI_o (show ¬ (243 = 235 ∧ i = 18) from fun e => absurd e.1 (Nat.ne_of_beq_eq_false rfl))).trans ((uI_o (show ¬ (243 = 244 ∧ i = (Int.toNat (I 235 18))) from fun e => absurd e.1 (Nat.ne_of_beq_eq_false rfl))).trans (uJ_ne (show ¬ i = (Int.toNat (I 235 18)) from by omega))), (uI_o (show ¬ (244 = 235 ∧ i = 18) from fun e => absurd e.1 (Nat.ne_of_beq_eq_false rfl))).trans ((uJ_ne (show ¬ i = (Int.toNat (I 235 18)) from by omega)).trans (uI_o (show ¬ (244 = 243 ∧ i = (Int.toNat (I 235 18))) from fun e => absurd e.1 (Nat.ne_of_beq_eq_false rfl))))⟩, (0 : Int), (-2), fun z => absurd z (by omega), fun _ => ⟨fun z => rfl, fun z => absurd (by omega) z⟩, fun z => ?_, fun z => ⟨fun y => ?_, fun y => ?_⟩, fun i hi => ⟨(uI_o (show ¬ (243 = 235 ∧ i = 18) from fun e => absurd e.1 (Nat.ne_of_beq_eq_false rfl))).trans ((uI_o (show ¬ (243 = 244 ∧ i = (Int.toNat (I 235 18))) from fun e => absurd e.1 (Nat.ne_of_beq_eq_false rfl))).trans (uJ_eqj (show i = (Int.toNat (I 235 18)) from by omega))), (uI_o (show ¬ (244 = 235 ∧ i = 18) from fun e => absurd e.1 (Nat.ne_of_beq_eq_false rfl))).trans (uJ_eqj (show i = (Int.toNat (I 235 18)) from by omega))⟩⟩⟩
                              all_goals omega))⟩
          ·
            refine ⟨_, rfl, (by decide), ?_⟩
            refine fun w0 hw0 => ?_; obtain rfl : w0 = some 243 := hw0.symm.trans (FS.g hF rfl)
            refine ⟨_, rfl, (by decide), ?_⟩
            refine ⟨_, rfl, (by decide), ?_⟩
            have r55 : 0 ≤ (I 235 12) ∧ (I 235 12) ≤ 20000000 := Rg.f12 hR
            refine ⟨_, rfl, (by decide), (show (0 : Int) ≤ (I 235 18) from by first | with_reducible assumption | omega | (simp only [wr, wl] at *; omega)), (show (I 235 18) < (24 : Int) from by first | with_reducible assumption | omega | (simp only [wr, wl] at *; omega)), ?_⟩
            refine ⟨_, rfl, (by decide), ?_⟩
            refine fun w0 hw0 => ?_; obtain rfl : w0 = some 244 := hw0.symm.trans (FS.g hF rfl)
            refine ⟨_, rfl, (by decide), ?_⟩
            refine ⟨fun c => absurd c (show (¬ ((1 : Int) = 0)) from by decide), fun _ => ?_⟩
            refine ⟨_, rfl, (by decide), (show (0 : Int) ≤ (I 235 18) from by first | with_reducible assumption | omega | (simp only [wr, wl] at *; omega)), (show (I 235 18) < (24 : Int) from by first | with_reducible assumption | omega | (simp only [wr, wl] at *; omega)), ?_⟩
            refine ⟨_, rfl, (by decide), ?_⟩
            refine ⟨_, rfl, (by decide), ?_⟩
            have n56 : (wr ((I 235 18) + 1)) = (I 235 18) + 1 := wr_id (show -2147483648 ≤ ((I 235 18) + 1 : Int) ∧ ((I 235 18) + 1 : Int) < 2147483648 from by omega)
            have p57 : (0 : Int) ≤ (wr ((I 235 18) + 1)) ∧ ((wr ((I 235 18) + 1)) : Int) ≤ 24 := by first | omega | (simp only [wr, wl] at *; omega)
            exact ⟨rfl, fun hv hA' => hQ _ (Rg.u (Rg.u (Rg.u hR (Pr_p (k := 243) rfl _ _)) (Pr_p (k := 244) rfl _ _)) (Pr_x18 p57)) hA' (fun ka ja hk => ((uI_o (show ¬ (ka = 235 ∧ ja = 18) from by first | (intro e; obtain ⟨rfl, rfl⟩ := e; exact hk (by decide)) | omega))).trans (((uI_o (show ¬ (ka = 244 ∧ ja = (Int.toNat (I 235 18))) from by first | (intro e; obtain ⟨rfl, _⟩ := e; exact hk (by decide)) | omega))).trans ((uI_o (show ¬ (ka = 243 ∧ ja = (Int.toNat (I 235 18))) from by first | (intro e; obtain ⟨rfl, _⟩ := e; exact hk (by decide)) | omega))))) ((by
                              have hv : ((-1) : Int) = (-1) := rfl
                              refine ⟨fun z => absurd z (by omega), fun _ => ⟨(show (wr ((I 235 18) + 1)) = I 235 18 + 1 from by omega), fun i hi => ⟨(uI_o (show ¬ (243 = 235 ∧ i = 18) from fun e => absurd e.1 (Nat.ne_of_beq_eq_false rfl))).trans ((uI_o (show ¬ (243 = 244 ∧ i = (Int.toNat (I 235 18))) from fun e => absurd e.1 (Nat.ne_of_beq_eq_false rfl))).trans (uJ_ne (show ¬ i = (Int.toNat (I 235 18)) from by omega))), (uI_o (show ¬ (244 = 235 ∧ i = 18) from fun e => absurd e.1 (Nat.ne_of_beq_eq_false rfl))).trans ((uJ_ne (show ¬ i = (Int.toNat (I 235 18)) from by omega)).trans (uI_o (show ¬ (244 = 243 ∧ i = (Int.toNat (I 235 18))) from fun e => absurd e.1 (Nat.ne_of_beq_eq_false rfl))))⟩, (0 : Int), (-1), fun z => absurd z (by omega), fun _ => ⟨fun z => rfl, fun z => absurd (by omega) z⟩, fun z => ?_, fun z => ⟨fun y => ?_, fun y => ?_⟩, fun i hi => ⟨(uI_o (show ¬ (243 = 235 ∧ i = 18) from fun e => absurd e.1 (Nat.ne_of_beq_eq_false rfl))).trans ((uI_o (show ¬ (243 = 244 ∧ i = (Int.toNat (I 235 18))) from fun e => absurd e.1 (Nat.ne_of_beq_eq_false rfl))).trans (uJ_eqj (show i = (Int.toNat (I 235 18)) from by omega))), (uI_o (show ¬ (244 = 235 ∧ i = 18) from fun e => absurd e.1 (Nat.ne_of_beq_eq_false rfl))).trans (uJ_eqj (show i = (Int.toNat (I 235 18)) from by omega))⟩⟩⟩
                              all_goals omega))⟩
    ·
      refine ⟨⟨_, rfl, (by decide)⟩, ?_⟩
      have r58 : 0 ≤ (I 235 12) ∧ (I 235 12) ≤ 20000000 := Rg.f12 hR
      refine r_ld9  hF hR hq (show 0 ≤ (I 235 12) from by first | with_reducible assumption | omega | (simp only [wr, wl] at *; omega)) (fun vr60 hr61 qr62 => ?_)
      have hr61 : -2147483648 ≤ vr60 ∧ vr60 < 2147483648 := hr61
      have hl63 : ((I 235 13) = 0 → vr60 = ld (I 235 12)) ∧ (¬ (I 235 13) = 0 → vr60 = 0) := qr62
      refine ⟨_, rfl, (by decide), ?_⟩
      refine fun w0 hw0 => ?_; obtain rfl : w0 = some 236 := hw0.symm.trans (FS.g hF rfl)
      refine ⟨_, rfl, (by decide), (by decide), (by decide), ?_⟩
      have r64 : 0 ≤ (I 236 7) ∧ (I 236 7) ≤ 24 := Rg.n7 hR
      refine ⟨fun (c66 : (((I 236 7) : Int) ≤ 0)) => ?_, fun (c66 : (¬ (((I 236 7) : Int) ≤ 0))) => ?_⟩
      ·
        refine ⟨_, rfl, (by decide), ?_⟩
        refine fun w0 hw0 => ?_; obtain rfl : w0 = some 243 := hw0.symm.trans (FS.g hF rfl)
        refine ⟨_, rfl, (by decide), ?_⟩
        refine ⟨_, rfl, (by decide), ?_⟩
        refine ⟨_, rfl, (by decide), (show (0 : Int) ≤ (I 235 18) from by first | with_reducible assumption | omega | (simp only [wr, wl] at *; omega)), (show (I 235 18) < (24 : Int) from by first | with_reducible assumption | omega | (simp only [wr, wl] at *; omega)), ?_⟩
        refine ⟨_, rfl, (by decide), ?_⟩
        refine fun w0 hw0 => ?_; obtain rfl : w0 = some 244 := hw0.symm.trans (FS.g hF rfl)
        refine ⟨_, rfl, (by decide), ?_⟩
        refine ⟨fun _ => ?_, fun c => absurd (show ((0 : Int) = 0) from by decide) c⟩
        refine ⟨_, rfl, (by decide), ?_⟩
        refine fun w0 hw0 => ?_; obtain rfl : w0 = some 236 := hw0.symm.trans (FS.g hF rfl)
        refine ⟨_, rfl, (by decide), (by decide), (by decide), ?_⟩
        have a67 : -2147483648 ≤ (I 236 6) ∧ (I 236 6) < 2147483648 := hA.1 _ _
        refine ⟨fun (c68 : ((vr60 : Int) ≤ (I 236 6))) => ?_, fun (c68 : (¬ ((vr60 : Int) ≤ (I 236 6)))) => ?_⟩
        ·
          refine ⟨_, rfl, (by decide), (show (0 : Int) ≤ (I 235 18) from by first | with_reducible assumption | omega | (simp only [wr, wl] at *; omega)), (show (I 235 18) < (24 : Int) from by first | with_reducible assumption | omega | (simp only [wr, wl] at *; omega)), ?_⟩
          refine ⟨_, rfl, (by decide), ?_⟩
          refine ⟨_, rfl, (by decide), ?_⟩
          have n69 : (wr ((I 235 18) + 1)) = (I 235 18) + 1 := wr_id (show -2147483648 ≤ ((I 235 18) + 1 : Int) ∧ ((I 235 18) + 1 : Int) < 2147483648 from by omega)
          have p70 : (0 : Int) ≤ (wr ((I 235 18) + 1)) ∧ ((wr ((I 235 18) + 1)) : Int) ≤ 24 := by first | omega | (simp only [wr, wl] at *; omega)
          exact ⟨rfl, fun hv hA' => hQ _ (Rg.u (Rg.u (Rg.u hR (Pr_p (k := 243) rfl _ _)) (Pr_p (k := 244) rfl _ _)) (Pr_x18 p70)) hA' (fun ka ja hk => ((uI_o (show ¬ (ka = 235 ∧ ja = 18) from by first | (intro e; obtain ⟨rfl, rfl⟩ := e; exact hk (by decide)) | omega))).trans (((uI_o (show ¬ (ka = 244 ∧ ja = (Int.toNat (I 235 18))) from by first | (intro e; obtain ⟨rfl, _⟩ := e; exact hk (by decide)) | omega))).trans ((uI_o (show ¬ (ka = 243 ∧ ja = (Int.toNat (I 235 18))) from by first | (intro e; obtain ⟨rfl, _⟩ := e; exact hk (by decide)) | omega))))) ((by
                              have hv : (vr60 : Int) = vr60 := rfl
                              refine ⟨fun z => absurd z (by omega), fun _ => ⟨(show (wr ((I 235 18) + 1)) = I 235 18 + 1 from by omega), fun i hi => ⟨(uI_o (show ¬ (243 = 235 ∧ i = 18) from fun e => absurd e.1 (Nat.ne_of_beq_eq_false rfl))).trans ((uI_o (show ¬ (243 = 244 ∧ i = (Int.toNat (I 235 18))) from fun e => absurd e.1 (Nat.ne_of_beq_eq_false rfl))).trans (uJ_ne (show ¬ i = (Int.toNat (I 235 18)) from by omega))), (uI_o (show ¬ (244 = 235 ∧ i = 18) from fun e => absurd e.1 (Nat.ne_of_beq_eq_false rfl))).trans ((uJ_ne (show ¬ i = (Int.toNat (I 235 18)) from by omega)).trans (uI_o (show ¬ (244 = 243 ∧ i = (Int.toNat (I 235 18))) from fun e => absurd e.1 (Nat.ne_of_beq_eq_false rfl))))⟩, vr60, vr60, fun _ => ⟨fun z => hl63.1 z, fun z => hl63.2 z⟩, fun z => absurd (by omega) z, fun z => ?_, fun z => ⟨fun y => ?_, fun y => ?_⟩, fun i hi => ⟨(uI_o (show ¬ (243 = 235 ∧ i = 18) from fun e => absurd e.1 (Nat.ne_of_beq_eq_false rfl))).trans ((uI_o (show ¬ (243 = 244 ∧ i = (Int.toNat (I 235 18))) from fun e => absurd e.1 (Nat.ne_of_beq_eq_false rfl))).trans (uJ_eqj (show i = (Int.toNat (I 235 18)) from by omega))), (uI_o (show ¬ (244 = 235 ∧ i = 18) from fun e => absurd e.1 (Nat.ne_of_beq_eq_false rfl))).trans (uJ_eqj (show i = (Int.toNat (I 235 18)) from by omega))⟩⟩⟩
                              all_goals omega))⟩
        ·
          refine ⟨_, rfl, (by decide), (show (0 : Int) ≤ (I 235 18) from by first | with_reducible assumption | omega | (simp only [wr, wl] at *; omega)), (show (I 235 18) < (24 : Int) from by first | with_reducible assumption | omega | (simp only [wr, wl] at *; omega)), ?_⟩
          refine ⟨_, rfl, (by decide), ?_⟩
          refine ⟨_, rfl, (by decide), ?_⟩
          have n71 : (wr ((I 235 18) + 1)) = (I 235 18) + 1 := wr_id (show -2147483648 ≤ ((I 235 18) + 1 : Int) ∧ ((I 235 18) + 1 : Int) < 2147483648 from by omega)
          have p72 : (0 : Int) ≤ (wr ((I 235 18) + 1)) ∧ ((wr ((I 235 18) + 1)) : Int) ≤ 24 := by first | omega | (simp only [wr, wl] at *; omega)
          exact ⟨rfl, fun hv hA' => hQ _ (Rg.u (Rg.u (Rg.u hR (Pr_p (k := 243) rfl _ _)) (Pr_p (k := 244) rfl _ _)) (Pr_x18 p72)) hA' (fun ka ja hk => ((uI_o (show ¬ (ka = 235 ∧ ja = 18) from by first | (intro e; obtain ⟨rfl, rfl⟩ := e; exact hk (by decide)) | omega))).trans (((uI_o (show ¬ (ka = 244 ∧ ja = (Int.toNat (I 235 18))) from by first | (intro e; obtain ⟨rfl, _⟩ := e; exact hk (by decide)) | omega))).trans ((uI_o (show ¬ (ka = 243 ∧ ja = (Int.toNat (I 235 18))) from by first | (intro e; obtain ⟨rfl, _⟩ := e; exact hk (by decide)) | omega))))) ((by
                              have hv : ((-2) : Int) = (-2) := rfl
                              refine ⟨fun z => absurd z (by omega), fun _ => ⟨(show (wr ((I 235 18) + 1)) = I 235 18 + 1 from by omega), fun i hi => ⟨(uI_o (show ¬ (243 = 235 ∧ i = 18) from fun e => absurd e.1 (Nat.ne_of_beq_eq_false rfl))).trans ((uI_o (show ¬ (243 = 244 ∧ i = (Int.toNat (I 235 18))) from fun e => absurd e.1 (Nat.ne_of_beq_eq_false rfl))).trans (uJ_ne (show ¬ i = (Int.toNat (I 235 18)) from by omega))), (uI_o (show ¬ (244 = 235 ∧ i = 18) from fun e => absurd e.1 (Nat.ne_of_beq_eq_false rfl))).trans ((uJ_ne (show ¬ i = (Int.toNat (I 235 18)) from by omega)).trans (uI_o (show ¬ (244 = 243 ∧ i = (Int.toNat (I 235 18))) from fun e => absurd e.1 (Nat.ne_of_beq_eq_false rfl))))⟩, vr60, (-2), fun _ => ⟨fun z => hl63.1 z, fun z => hl63.2 z⟩, fun z => absurd (by omega) z, fun z => ?_, fun z => ⟨fun y => ?_, fun y => ?_⟩, fun i hi => ⟨(uI_o (show ¬ (243 = 235 ∧ i = 18) from fun e => absurd e.1 (Nat.ne_of_beq_eq_false rfl))).trans ((uI_o (show ¬ (243 = 244 ∧ i = (Int.toNat (I 235 18))) from fun e => absurd e.1 (Nat.ne_of_beq_eq_false rfl))).trans (uJ_eqj (show i = (Int.toNat (I 235 18)) from by omega))), (uI_o (show ¬ (244 = 235 ∧ i = 18) from fun e => absurd e.1 (Nat.ne_of_beq_eq_false rfl))).trans (uJ_eqj (show i = (Int.toNat (I 235 18)) from by omega))⟩⟩⟩
                              all_goals omega))⟩
      ·
        refine ⟨_, rfl, (by decide), ?_⟩
        refine ⟨_, rfl, (by decide), ?_⟩
        refine fun w0 hw0 => ?_; obtain rfl : w0 = some 236 := hw0.symm.trans (FS.g hF rfl)
        refine ⟨_, rfl, (by decide), (by decide), (by decide), ?_⟩
        refine ⟨(show ¬ ((I 236 7) : Int) = 0 from by first | omega | (simp only [wr, wl] at *; omega)), ?_⟩
        refine ⟨fun (c73 : (¬ ((Int.tmod (wr ((I 235 18) + 1)) (I 236 7)) : Int) = 0)) => ?_, fun (c73 : (((Int.tmod (wr ((I 235 18) + 1)) (I 236 7)) : Int) = 0)) => ?_⟩
        ·
          refine ⟨_, rfl, (by decide), ?_⟩
          refine fun w0 hw0 => ?_; obtain rfl : w0 = some 243 := hw0.symm.trans (FS.g hF rfl)
          refine ⟨_, rfl, (by decide), ?_⟩
          refine ⟨_, rfl, (by decide), ?_⟩
          refine ⟨_, rfl, (by decide), (show (0 : Int) ≤ (I 235 18) from by first | with_reducible assumption | omega | (simp only [wr, wl] at *; omega)), (show (I 235 18) < (24 : Int) from by first | with_reducible assumption | omega | (simp only [wr, wl] at *; omega)), ?_⟩
          refine ⟨_, rfl, (by decide), ?_⟩
          refine fun w0 hw0 => ?_; obtain rfl : w0 = some 244 := hw0.symm.trans (FS.g hF rfl)
          refine ⟨_, rfl, (by decide), ?_⟩
          refine ⟨fun _ => ?_, fun c => absurd (show ((0 : Int) = 0) from by decide) c⟩
          refine ⟨_, rfl, (by decide), ?_⟩
          refine fun w0 hw0 => ?_; obtain rfl : w0 = some 236 := hw0.symm.trans (FS.g hF rfl)
          refine ⟨_, rfl, (by decide), (by decide), (by decide), ?_⟩
          have a74 : -2147483648 ≤ (I 236 6) ∧ (I 236 6) < 2147483648 := hA.1 _ _
          refine ⟨fun (c75 : ((vr60 : Int) ≤ (I 236 6))) => ?_, fun (c75 : (¬ ((vr60 : Int) ≤ (I 236 6)))) => ?_⟩
          ·
            refine ⟨_, rfl, (by decide), (show (0 : Int) ≤ (I 235 18) from by first | with_reducible assumption | omega | (simp only [wr, wl] at *; omega)), (show (I 235 18) < (24 : Int) from by first | with_reducible assumption | omega | (simp only [wr, wl] at *; omega)), ?_⟩
            refine ⟨_, rfl, (by decide), ?_⟩
            refine ⟨_, rfl, (by decide), ?_⟩
            have n76 : (wr ((I 235 18) + 1)) = (I 235 18) + 1 := wr_id (show -2147483648 ≤ ((I 235 18) + 1 : Int) ∧ ((I 235 18) + 1 : Int) < 2147483648 from by omega)
            have p77 : (0 : Int) ≤ (wr ((I 235 18) + 1)) ∧ ((wr ((I 235 18) + 1)) : Int) ≤ 24 := by first | omega | (simp only [wr, wl] at *; omega)
            exact ⟨rfl, fun hv hA' => hQ _ (Rg.u (Rg.u (Rg.u hR (Pr_p (k := 243) rfl _ _)) (Pr_p (k := 244) rfl _ _)) (Pr_x18 p77)) hA' (fun ka ja hk => ((uI_o (show ¬ (ka = 235 ∧ ja = 18) from by first | (intro e; obtain ⟨rfl, rfl⟩ := e; exact hk (by decide)) | omega))).trans (((uI_o (show ¬ (ka = 244 ∧ ja = (Int.toNat (I 235 18))) from by first | (intro e; obtain ⟨rfl, _⟩ := e; exact hk (by decide)) | omega))).trans ((uI_o (show ¬ (ka = 243 ∧ ja = (Int.toNat (I 235 18))) from by first | (intro e; obtain ⟨rfl, _⟩ := e; exact hk (by decide)) | omega))))) ((by
                              have hv : (vr60 : Int) = vr60 := rfl
                              refine ⟨fun z => absurd z (by omega), fun _ => ⟨(show (wr ((I 235 18) + 1)) = I 235 18 + 1 from by omega), fun i hi => ⟨(uI_o (show ¬ (243 = 235 ∧ i = 18) from fun e => absurd e.1 (Nat.ne_of_beq_eq_false rfl))).trans ((uI_o (show ¬ (243 = 244 ∧ i = (Int.toNat (I 235 18))) from fun e => absurd e.1 (Nat.ne_of_beq_eq_false rfl))).trans (uJ_ne (show ¬ i = (Int.toNat (I 235 18)) from by omega))), (uI_o (show ¬ (244 = 235 ∧ i = 18) from fun e => absurd e.1 (Nat.ne_of_beq_eq_false rfl))).trans ((uJ_ne (show ¬ i = (Int.toNat (I 235 18)) from by omega)).trans (uI_o (show ¬ (244 = 243 ∧ i = (Int.toNat (I 235 18))) from fun e => absurd e.1 (Nat.ne_of_beq_eq_false rfl))))⟩, vr60, vr60, fun _ => ⟨fun z => hl63.1 z, fun z => hl63.2 z⟩, fun z => absurd (by omega) z, fun z => ?_, fun z => ⟨fun y => ?_, fun y => ?_⟩, fun i hi => ⟨(uI_o (show ¬ (243 = 235 ∧ i = 18) from fun e => absurd e.1 (Nat.ne_of_beq_eq_false rfl))).trans ((uI_o (show ¬ (243 = 244 ∧ i = (Int.toNat (I 235 18))) from fun e => absurd e.1 (Nat.ne_of_beq_eq_false rfl))).trans (uJ_eqj (show i = (Int.toNat (I 235 18)) from by omega))), (uI_o (show ¬ (244 = 235 ∧ i = 18) from fun e => absurd e.1 (Nat.ne_of_beq_eq_false rfl))).trans (uJ_eqj (show i = (Int.toNat (I 235 18)) from by omega))⟩⟩⟩
                              all_goals omega))⟩
          ·
            refine ⟨_, rfl, (by decide), (show (0 : Int) ≤ (I 235 18) from by first | with_reducible assumption | omega | (simp only [wr, wl] at *; omega)), (show (I 235 18) < (24 : Int) from by first | with_reducible assumption | omega | (simp only [wr, wl] at *; omega)), ?_⟩
            refine ⟨_, rfl, (by decide), ?_⟩
            refine ⟨_, rfl, (by decide), ?_⟩
            have n78 : (wr ((I 235 18) + 1)) = (I 235 18) + 1 := wr_id (show -2147483648 ≤ ((I 235 18) + 1 : Int) ∧ ((I 235 18) + 1 : Int) < 2147483648 from by omega)
            have p79 : (0 : Int) ≤ (wr ((I 235 18) + 1)) ∧ ((wr ((I 235 18) + 1)) : Int) ≤ 24 := by first | omega | (simp only [wr, wl] at *; omega)
            exact ⟨rfl, fun hv hA' => hQ _ (Rg.u (Rg.u (Rg.u hR (Pr_p (k := 243) rfl _ _)) (Pr_p (k := 244) rfl _ _)) (Pr_x18 p79)) hA' (fun ka ja hk => ((uI_o (show ¬ (ka = 235 ∧ ja = 18) from by first | (intro e; obtain ⟨rfl, rfl⟩ := e; exact hk (by decide)) | omega))).trans (((uI_o (show ¬ (ka = 244 ∧ ja = (Int.toNat (I 235 18))) from by first | (intro e; obtain ⟨rfl, _⟩ := e; exact hk (by decide)) | omega))).trans ((uI_o (show ¬ (ka = 243 ∧ ja = (Int.toNat (I 235 18))) from by first | (intro e; obtain ⟨rfl, _⟩ := e; exact hk (by decide)) | omega))))) ((by
                              have hv : ((-2) : Int) = (-2) := rfl
                              refine ⟨fun z => absurd z (by omega), fun _ => ⟨(show (wr ((I 235 18) + 1)) = I 235 18 + 1 from by omega), fun i hi => ⟨(uI_o (show ¬ (243 = 235 ∧ i = 18) from fun e => absurd e.1 (Nat.ne_of_beq_eq_false rfl))).trans ((uI_o (show ¬ (243 = 244 ∧ i = (Int.toNat (I 235 18))) from fun e => absurd e.1 (Nat.ne_of_beq_eq_false rfl))).trans (uJ_ne (show ¬ i = (Int.toNat (I 235 18)) from by omega))), (uI_o (show ¬ (244 = 235 ∧ i = 18) from fun e => absurd e.1 (Nat.ne_of_beq_eq_false rfl))).trans ((uJ_ne (show ¬ i = (Int.toNat (I 235 18)) from by omega)).trans (uI_o (show ¬ (244 = 243 ∧ i = (Int.toNat (I 235 18))) from fun e => absurd e.1 (Nat.ne_of_beq_eq_false rfl))))⟩, vr60, (-2), fun _ => ⟨fun z => hl63.1 z, fun z => hl63.2 z⟩, fun z => absurd (by omega) z, fun z => ?_, fun z => ⟨fun y => ?_, fun y => ?_⟩, fun i hi => ⟨(uI_o (show ¬ (243 = 235 ∧ i = 18) from fun e => absurd e.1 (Nat.ne_of_beq_eq_false rfl))).trans ((uI_o (show ¬ (243 = 244 ∧ i = (Int.toNat (I 235 18))) from fun e => absurd e.1 (Nat.ne_of_beq_eq_false rfl))).trans (uJ_eqj (show i = (Int.toNat (I 235 18)) from by omega))), (uI_o (show ¬ (244 = 235 ∧ i = 18) from fun e => absurd e.1 (Nat.ne_of_beq_eq_false rfl))).trans (uJ_eqj (show i = (Int.toNat (I 235 18)) from by omega))⟩⟩⟩
                              all_goals omega))⟩
        ·
          refine ⟨_, rfl, (by decide), ?_⟩
          refine fun w0 hw0 => ?_; obtain rfl : w0 = some 243 := hw0.symm.trans (FS.g hF rfl)
          refine ⟨_, rfl, (by decide), ?_⟩
          refine ⟨_, rfl, (by decide), ?_⟩
          refine ⟨_, rfl, (by decide), (show (0 : Int) ≤ (I 235 18) from by first | with_reducible assumption | omega | (simp only [wr, wl] at *; omega)), (show (I 235 18) < (24 : Int) from by first | with_reducible assumption | omega | (simp only [wr, wl] at *; omega)), ?_⟩
          refine ⟨_, rfl, (by decide), ?_⟩
          refine fun w0 hw0 => ?_; obtain rfl : w0 = some 244 := hw0.symm.trans (FS.g hF rfl)
          refine ⟨_, rfl, (by decide), ?_⟩
          refine ⟨fun c => absurd c (show (¬ ((1 : Int) = 0)) from by decide), fun _ => ?_⟩
          refine ⟨_, rfl, (by decide), (show (0 : Int) ≤ (I 235 18) from by first | with_reducible assumption | omega | (simp only [wr, wl] at *; omega)), (show (I 235 18) < (24 : Int) from by first | with_reducible assumption | omega | (simp only [wr, wl] at *; omega)), ?_⟩
          refine ⟨_, rfl, (by decide), ?_⟩
          refine ⟨_, rfl, (by decide), ?_⟩
          have n80 : (wr ((I 235 18) + 1)) = (I 235 18) + 1 := wr_id (show -2147483648 ≤ ((I 235 18) + 1 : Int) ∧ ((I 235 18) + 1 : Int) < 2147483648 from by omega)
          have p81 : (0 : Int) ≤ (wr ((I 235 18) + 1)) ∧ ((wr ((I 235 18) + 1)) : Int) ≤ 24 := by first | omega | (simp only [wr, wl] at *; omega)
          exact ⟨rfl, fun hv hA' => hQ _ (Rg.u (Rg.u (Rg.u hR (Pr_p (k := 243) rfl _ _)) (Pr_p (k := 244) rfl _ _)) (Pr_x18 p81)) hA' (fun ka ja hk => ((uI_o (show ¬ (ka = 235 ∧ ja = 18) from by first | (intro e; obtain ⟨rfl, rfl⟩ := e; exact hk (by decide)) | omega))).trans (((uI_o (show ¬ (ka = 244 ∧ ja = (Int.toNat (I 235 18))) from by first | (intro e; obtain ⟨rfl, _⟩ := e; exact hk (by decide)) | omega))).trans ((uI_o (show ¬ (ka = 243 ∧ ja = (Int.toNat (I 235 18))) from by first | (intro e; obtain ⟨rfl, _⟩ := e; exact hk (by decide)) | omega))))) ((by
                              have hv : ((-1) : Int) = (-1) := rfl
                              refine ⟨fun z => absurd z (by omega), fun _ => ⟨(show (wr ((I 235 18) + 1)) = I 235 18 + 1 from by omega), fun i hi => ⟨(uI_o (show ¬ (243 = 235 ∧ i = 18) from fun e => absurd e.1 (Nat.ne_of_beq_eq_false rfl))).trans ((uI_o (show ¬ (243 = 244 ∧ i = (Int.toNat (I 235 18))) from fun e => absurd e.1 (Nat.ne_of_beq_eq_false rfl))).trans (uJ_ne (show ¬ i = (Int.toNat (I 235 18)) from by omega))), (uI_o (show ¬ (244 = 235 ∧ i = 18) from fun e => absurd e.1 (Nat.ne_of_beq_eq_false rfl))).trans ((uJ_ne (show ¬ i = (Int.toNat (I 235 18)) from by omega)).trans (uI_o (show ¬ (244 = 243 ∧ i = (Int.toNat (I 235 18))) from fun e => absurd e.1 (Nat.ne_of_beq_eq_false rfl))))⟩, vr60, (-1), fun _ => ⟨fun z => hl63.1 z, fun z => hl63.2 z⟩, fun z => absurd (by omega) z, fun z => ?_, fun z => ⟨fun y => ?_, fun y => ?_⟩, fun i hi => ⟨(uI_o (show ¬ (243 = 235 ∧ i = 18) from fun e => absurd e.1 (Nat.ne_of_beq_eq_false rfl))).trans ((uI_o (show ¬ (243 = 244 ∧ i = (Int.toNat (I 235 18))) from fun e => absurd e.1 (Nat.ne_of_beq_eq_false rfl))).trans (uJ_eqj (show i = (Int.toNat (I 235 18)) from by omega))), (uI_o (show ¬ (244 = 235 ∧ i = 18) from fun e => absurd e.1 (Nat.ne_of_beq_eq_false rfl))).trans (uJ_eqj (show i = (Int.toNat (I 235 18)) from by omega))⟩⟩⟩
                              all_goals omega))⟩
  ·
    exact ⟨rfl, fun hv hA' => hQ _ hR hA' (fun _ _ _ => rfl) (⟨fun _ => ⟨rfl, fun i => ⟨rfl, rfl⟩⟩, fun z => absurd z (by omega)⟩)⟩
set_option maxHeartbeats 20000000 in
theorem r_does9_l (hF : FS F) (hR : Rg I) {v0 v1 : Int} {ld : Int → Int} {P : Nat → Int} {pp : Nat} (hq : RR9 ld P pp I) {il : Int} {TT : pI} (hil : il = 0 ∨ il = 1) (hv0 : 0 ≤ v0 ∧ v0 ≤ 5) (B : Int) (hB : 0 ≤ B ∧ B ≤ 19000000) (hQ : ∀ (I' : pI), Rg I' → (∀ k j, ¬ ((k = 235 ∧ 12 ≤ j ∧ j ≤ 18) ∨ (242 ≤ k ∧ k ≤ 244)) → I' k j = I k j) → (MR il TT I') → Q none F I') : ∀ (mz : Nat) (tm k : Int) (J : pI), Rg J → (∀ k j, ¬ ((k = 235 ∧ 12 ≤ j ∧ j ≤ 18) ∨ (242 ≤ k ∧ k ≤ 244)) → J k j = I k j) → ((tm : Int) ≤ 300000) → ((0 : Int) ≤ k) → ((k : Int) ≤ 300000) → (∃ U : pI, MR il U J ∧ WS U ∧ U 0 3 ≤ B + k ∧ prtF ld P il v0 v1 (Int.toNat (tm - k)) U = TT) → (tm - k).toNat < mz → GoN G (d + 5) kX12_does NP NP 30 [some (vr 235), some (vi v0), some (vi v1), some (vi tm), some (vi k)] [] F J Q := by
  intro mz
  induction mz with
  | zero => intro tm k J hJ hV _ _ _ _ h; exact absurd h (Nat.not_lt_zero _)
  | succ mz ih =>
    intro tm k J hJ hV cc100 cc101 cc102 cc103 hm
    refine GoN_in (fun hok hA => ?_)
    have iiv0 : -2147483648 ≤ v0 ∧ v0 < 2147483648 := hok 1 _ rfl
    have iiv1 : -2147483648 ≤ v1 ∧ v1 < 2147483648 := hok 2 _ rfl
    have iitm : -2147483648 ≤ tm ∧ tm < 2147483648 := hok 3 _ rfl
    have iik : -2147483648 ≤ k ∧ k < 2147483648 := hok 4 _ rfl
    obtain ⟨U, hU, hW, hB2, hTT⟩ := cc103
    have hU2 := hU
    obtain ⟨⟨m12, m13, m14, m15, m16, m17, m18⟩, ma, mr⟩ := hU2
    have hW2 := hW
    obtain ⟨wa, wb_, wc, wd⟩ := hW2
    have hP5 : (I 236 (Int.toNat (304 + 66 * (J 235 11))) = 3 → P 5 = 1) ∧ (¬ I 236 (Int.toNat (304 + 66 * (J 235 11))) = 3 → P 5 = 0) := by
      rw [show Int.toNat (304 + 66 * (J 235 11)) = 304 + 66 * pp from by have := hq.1.1; have := hV 235 11 (by first | decide | omega); omega]
      exact ⟨hq.2.2.2.2.1.1, hq.2.2.2.2.1.2.1⟩
    refine Go_wp (by decide) ckX12_does [30] ?_
    refine ⟨fun (c1 : ((tm : Int) ≤ k)) => ?_, fun (c1 : (¬ ((tm : Int) ≤ k))) => ?_⟩
    ·
      exact ⟨rfl, hQ _ hJ (fun ka ja hk => (hV ka ja (by omega))) ((by
                              first | (exact ((prtF_e (Or.inl (by omega))).symm.trans hTT) ▸ hU) | (exact ((prtF_e (Or.inr (fun z => absurd z.1 (by omega)))).symm.trans hTT) ▸ hU) | (exact ((prtF_e (Or.inr (fun z => absurd (z.2.2 (by omega)) (by omega)))).symm.trans hTT) ▸ hU)))⟩
    ·
      refine ⟨⟨_, rfl, (by decide)⟩, ?_⟩
      refine Call_wp (lv := [some (vr 235)]) (by decide) ckX12_goesOn [] rfl rfl ?_
      refine ⟨_, rfl, (by decide), ?_⟩
      have r2 : 0 ≤ (J 235 14) ∧ (J 235 14) ≤ 1 := (by omega)
      refine ⟨fun (c4 : (¬ ((J 235 14) : Int) = 0)) => ?_, fun (c4 : (((J 235 14) : Int) = 0)) => ?_⟩
      ·
        refine ⟨rfl, (by decide), ?_⟩
        refine ⟨fun c => absurd c (show (¬ ((1 : Int) = 0)) from by decide), fun _ => ?_⟩
        refine ⟨fun (c5 : ((v0 : Int) = 0)) => ?_, fun (c5 : (¬ ((v0 : Int) = 0))) => ?_⟩
        ·
          refine ⟨_, rfl, (by decide), ?_⟩
          have r6 : 0 ≤ (J 235 12) ∧ (J 235 12) ≤ 19400000 := (by omega)
          refine ⟨_, rfl, (by decide), ?_⟩
          have n8 : (wr ((J 235 12) + 1)) = (J 235 12) + 1 := wr_id (show -2147483648 ≤ ((J 235 12) + 1 : Int) ∧ ((J 235 12) + 1 : Int) < 2147483648 from by omega)
          have p9 : (0 : Int) ≤ (wr ((J 235 12) + 1)) ∧ ((wr ((J 235 12) + 1)) : Int) ≤ 20000000 := by first | omega | (simp only [wr, wl] at *; omega)
          refine ⟨⟨_, rfl, (by decide)⟩, ?_⟩
          have r10 : 0 ≤ (J 235 16) ∧ (J 235 16) ≤ 19400000 := (by omega)
          refine r_tick9  hF (Rg.u hJ (Pr_x12 p9)) (RR9_f hq ((uJ_ne (show ¬ 11 = 12 from Nat.ne_of_beq_eq_false rfl)).trans (hV 235 11 (by first | decide | omega))) (fun j => (uI_o (show ¬ (236 = 235 ∧ j = 12) from fun e => absurd e.1 (Nat.ne_of_beq_eq_false rfl))).trans (hV 236 j (by omega)))) (show 0 ≤ (wr ((J 235 12) + 1)) from by first | with_reducible assumption | omega | (simp only [wr, wl] at *; omega)) (show 0 ≤ (J 235 16) ∧ (J 235 16) ≤ 19999999 from by first | omega | (simp only [wr, wl] at *; omega)) (fun I12 hR13 hA14 hW15 q16 qr17 => ?_)
          have q16 : (I12 235 16) = (J 235 16) + 1 := q16
          have n18 : (wr (k + 1)) = k + 1 := wr_id (show -2147483648 ≤ (k + 1 : Int) ∧ (k + 1 : Int) < 2147483648 from by omega)
          have r19 : 0 ≤ (J 235 13) ∧ (J 235 13) ≤ 1 := (by omega)
          have a21 : -2147483648 ≤ (J 235 15) ∧ (J 235 15) < 2147483648 := hA.1 _ _
          have r22 : 0 ≤ (J 235 17) ∧ (J 235 17) ≤ 19400000 := (by omega)
          have r24 : 0 ≤ (J 235 18) ∧ (J 235 18) ≤ 24 := (by omega)
          exact ih tm (wr (k + 1)) I12 hR13 (fun ka ja hk => ((hW15 ka ja (by omega))).trans (((uI_o (show ¬ (ka = 235 ∧ ja = 12) from by first | (intro e; obtain ⟨rfl, rfl⟩ := e; exact hk (by decide)) | omega))).trans ((hV ka ja (by omega))))) (show (tm : Int) ≤ 300000 from by first | with_reducible assumption | omega | (simp only [wr, wl] at *; omega)) (show (0 : Int) ≤ (wr (k + 1)) from by first | with_reducible assumption | omega | (simp only [wr, wl] at *; omega)) (show ((wr (k + 1)) : Int) ≤ 300000 from by first | with_reducible assumption | omega | (simp only [wr, wl] at *; omega)) ((by
                              have hs : (il = 1 ∨ U 0 2 = 0) ∧ wtF ld v0 v1 U := ⟨by omega, ⟨fun e => absurd e (by omega), fun e => (by omega)⟩⟩
                              rw [show Int.toNat (tm - k) = Int.toNat (tm - (wr (k + 1))) + 1 from by omega, prtF_s hs] at hTT
                              exact ⟨onc ld P il v0 U, MR_t (M := (uI J 235 12 (wr ((J 235 12) + 1)))) (N := I12) (J := J) hil hW hU (show (wr ((J 235 12) + 1)) = xxF P v0 U from by have k1 := mvF_c (P := P) (act := v0) (h := U 0 4); have k2 := xxF_c (P := P) (act := v0) (S := U); omega) (show (J 235 13) = U 0 1 from by omega) (show (J 235 14) = il from by omega) (show (J 235 15) = U 0 2 from by omega) (show (J 235 16) = U 0 3 from by omega) (show (J 235 17) = hoF v0 U from by have k4 := hoF_c (act := v0) (S := U); omega) (MR_o (ld := ld) (P := P) (act := v0) (M := (uI J 235 12 (wr ((J 235 12) + 1)))) hU (by omega) (uJ_ne (show ¬ 18 = 12 from Nat.ne_of_beq_eq_false rfl)) (fun i => ⟨uI_o (show ¬ (243 = 235 ∧ i = 12) from fun e => absurd e.1 (Nat.ne_of_beq_eq_false rfl)), uI_o (show ¬ (244 = 235 ∧ i = 12) from fun e => absurd e.1 (Nat.ne_of_beq_eq_false rfl))⟩)).1 (MR_o (ld := ld) (P := P) (act := v0) (M := (uI J 235 12 (wr ((J 235 12) + 1)))) hU (by omega) (uJ_ne (show ¬ 18 = 12 from Nat.ne_of_beq_eq_false rfl)) (fun i => ⟨uI_o (show ¬ (243 = 235 ∧ i = 12) from fun e => absurd e.1 (Nat.ne_of_beq_eq_false rfl)), uI_o (show ¬ (244 = 235 ∧ i = 12) from fun e => absurd e.1 (Nat.ne_of_beq_eq_false rfl))⟩)).2 (fun j => uI_o (show ¬ (242 = 235 ∧ j = 12) from fun e => absurd e.1 (Nat.ne_of_beq_eq_false rfl))) (hW15 235 12 (by first | decide | omega)) (hW15 235 14 (by first | decide | omega)) (hW15 235 17 (by first | decide | omega)) (hW15 235 18 (by first | decide | omega)) (fun i => ⟨hW15 243 i (by omega), hW15 244 i (by omega)⟩) qr17, WS_o hW, (show U 0 3 + 1 ≤ B + (wr (k + 1)) from by omega), hTT⟩)) (show (tm - (wr (k + 1))).toNat < mz from by omega)
        ·
          refine ⟨fun (c26 : ((v0 : Int) = 1)) => ?_, fun (c26 : (¬ ((v0 : Int) = 1))) => ?_⟩
          ·
            refine ⟨⟨_, rfl, (by decide)⟩, ?_⟩
            have r27 : 0 ≤ (J 235 12) ∧ (J 235 12) ≤ 19400000 := (by omega)
            refine r_ld9  hF hJ (RR9_f hq (hV 235 11 (by first | decide | omega)) (fun j => hV 236 j (by omega))) (show 0 ≤ (J 235 12) from by first | with_reducible assumption | omega | (simp only [wr, wl] at *; omega)) (fun vr29 hr30 qr31 => ?_)
            have hr30 : -2147483648 ≤ vr29 ∧ vr29 < 2147483648 := hr30
            have r32 : 0 ≤ (J 235 13) ∧ (J 235 13) ≤ 1 := (by omega)
            have hl33 : ((J 235 13) = 0 → vr29 = ld (J 235 12)) ∧ (¬ (J 235 13) = 0 → vr29 = 0) := qr31
            refine ⟨fun (c34 : ((vr29 : Int) < v1)) => ?_, fun (c34 : (¬ ((vr29 : Int) < v1))) => ?_⟩
            ·
              refine ⟨_, rfl, (by decide), ?_⟩
              refine ⟨_, rfl, (by decide), ?_⟩
              have n35 : (wr ((J 235 12) + 1)) = (J 235 12) + 1 := wr_id (show -2147483648 ≤ ((J 235 12) + 1 : Int) ∧ ((J 235 12) + 1 : Int) < 2147483648 from by omega)
              have p36 : (0 : Int) ≤ (wr ((J 235 12) + 1)) ∧ ((wr ((J 235 12) + 1)) : Int) ≤ 20000000 := by first | omega | (simp only [wr, wl] at *; omega)
              refine ⟨⟨_, rfl, (by decide)⟩, ?_⟩
              have r37 : 0 ≤ (J 235 16) ∧ (J 235 16) ≤ 19400000 := (by omega)
              refine r_tick9  hF (Rg.u hJ (Pr_x12 p36)) (RR9_f hq ((uJ_ne (show ¬ 11 = 12 from Nat.ne_of_beq_eq_false rfl)).trans (hV 235 11 (by first | decide | omega))) (fun j => (uI_o (show ¬ (236 = 235 ∧ j = 12) from fun e => absurd e.1 (Nat.ne_of_beq_eq_false rfl))).trans (hV 236 j (by omega)))) (show 0 ≤ (wr ((J 235 12) + 1)) from by first | with_reducible assumption | omega | (simp only [wr, wl] at *; omega)) (show 0 ≤ (J 235 16) ∧ (J 235 16) ≤ 19999999 from by first | omega | (simp only [wr, wl] at *; omega)) (fun I39 hR40 hA41 hW42 q43 qr44 => ?_)
              have q43 : (I39 235 16) = (J 235 16) + 1 := q43
              have n45 : (wr (k + 1)) = k + 1 := wr_id (show -2147483648 ≤ (k + 1 : Int) ∧ (k + 1 : Int) < 2147483648 from by omega)
              have a47 : -2147483648 ≤ (J 235 15) ∧ (J 235 15) < 2147483648 := hA.1 _ _
              have r48 : 0 ≤ (J 235 17) ∧ (J 235 17) ≤ 19400000 := (by omega)
              have r50 : 0 ≤ (J 235 18) ∧ (J 235 18) ≤ 24 := (by omega)
              exact ih tm (wr (k + 1)) I39 hR40 (fun ka ja hk => ((hW42 ka ja (by omega))).trans (((uI_o (show ¬ (ka = 235 ∧ ja = 12) from by first | (intro e; obtain ⟨rfl, rfl⟩ := e; exact hk (by decide)) | omega))).trans ((hV ka ja (by omega))))) (show (tm : Int) ≤ 300000 from by first | with_reducible assumption | omega | (simp only [wr, wl] at *; omega)) (show (0 : Int) ≤ (wr (k + 1)) from by first | with_reducible assumption | omega | (simp only [wr, wl] at *; omega)) (show ((wr (k + 1)) : Int) ≤ 300000 from by first | with_reducible assumption | omega | (simp only [wr, wl] at *; omega)) ((by
                              have hs : (il = 1 ∨ U 0 2 = 0) ∧ wtF ld v0 v1 U := ⟨by omega, ⟨fun _ => (by
                              by_cases b : U 0 1 = 1
                              · rw [if_pos b]; have y := hl33.2 (by omega); omega
                              · rw [if_neg b, ← m12]; have y := hl33.1 (by omega); omega), fun e => absurd e (by omega)⟩⟩
                              rw [show Int.toNat (tm - k) = Int.toNat (tm - (wr (k + 1))) + 1 from by omega, prtF_s hs] at hTT
                              exact ⟨onc ld P il v0 U, MR_t (M := (uI J 235 12 (wr ((J 235 12) + 1)))) (N := I39) (J := J) hil hW hU (show (wr ((J 235 12) + 1)) = xxF P v0 U from by have k1 := mvF_c (P := P) (act := v0) (h := U 0 4); have k2 := xxF_c (P := P) (act := v0) (S := U); omega) (show (J 235 13) = U 0 1 from by omega) (show (J 235 14) = il from by omega) (show (J 235 15) = U 0 2 from by omega) (show (J 235 16) = U 0 3 from by omega) (show (J 235 17) = hoF v0 U from by have k4 := hoF_c (act := v0) (S := U); omega) (MR_o (ld := ld) (P := P) (act := v0) (M := (uI J 235 12 (wr ((J 235 12) + 1)))) hU (by omega) (uJ_ne (show ¬ 18 = 12 from Nat.ne_of_beq_eq_false rfl)) (fun i => ⟨uI_o (show ¬ (243 = 235 ∧ i = 12) from fun e => absurd e.1 (Nat.ne_of_beq_eq_false rfl)), uI_o (show ¬ (244 = 235 ∧ i = 12) from fun e => absurd e.1 (Nat.ne_of_beq_eq_false rfl))⟩)).1 (MR_o (ld := ld) (P := P) (act := v0) (M := (uI J 235 12 (wr ((J 235 12) + 1)))) hU (by omega) (uJ_ne (show ¬ 18 = 12 from Nat.ne_of_beq_eq_false rfl)) (fun i => ⟨uI_o (show ¬ (243 = 235 ∧ i = 12) from fun e => absurd e.1 (Nat.ne_of_beq_eq_false rfl)), uI_o (show ¬ (244 = 235 ∧ i = 12) from fun e => absurd e.1 (Nat.ne_of_beq_eq_false rfl))⟩)).2 (fun j => uI_o (show ¬ (242 = 235 ∧ j = 12) from fun e => absurd e.1 (Nat.ne_of_beq_eq_false rfl))) (hW42 235 12 (by first | decide | omega)) (hW42 235 14 (by first | decide | omega)) (hW42 235 17 (by first | decide | omega)) (hW42 235 18 (by first | decide | omega)) (fun i => ⟨hW42 243 i (by omega), hW42 244 i (by omega)⟩) qr44, WS_o hW, (show U 0 3 + 1 ≤ B + (wr (k + 1)) from by omega), hTT⟩)) (show (tm - (wr (k + 1))).toNat < mz from by omega)
            ·
              exact ⟨rfl, hQ _ hJ (fun ka ja hk => (hV ka ja (by omega))) ((by
                              have hn : ¬ ((il = 1 ∨ U 0 2 = 0) ∧ wtF ld v0 v1 U) := fun z => by
                                have y := z.2.1 (by omega)
                                by_cases b : U 0 1 = 1
                                · rw [if_pos b] at y; have q := hl33.2 (by omega); omega
                                · rw [if_neg b, ← m12] at y; have q := hl33.1 (by omega); omega
                              exact ((prtF_e (Or.inr hn)).symm.trans hTT) ▸ hU))⟩
          ·
            refine ⟨fun (c52 : ((v0 : Int) = 2)) => ?_, fun (c52 : (¬ ((v0 : Int) = 2))) => ?_⟩
            ·
              refine ⟨_, rfl, (by decide), ?_⟩
              have r53 : 0 ≤ (J 235 17) ∧ (J 235 17) ≤ 19400000 := (by omega)
              refine ⟨_, rfl, (by decide), ?_⟩
              refine ⟨_, rfl, (by decide), ?_⟩
              have r54 : 0 ≤ (J 235 12) ∧ (J 235 12) ≤ 19400000 := (by omega)
              refine ⟨_, rfl, (by decide), ?_⟩
              have r55 : 0 ≤ (I 235 11) ∧ (I 235 11) ≤ 13 := Rg.f11 hR
              have u56 : (J 235 11) = (I 235 11) := hV _ _ (by first | decide | omega)
              have a57 : -2147483648 ≤ (J 235 11) ∧ (J 235 11) < 2147483648 := hA.1 _ _
              have r58 : 0 ≤ (J 235 11) ∧ (J 235 11) ≤ 13 := Rg.f11 hJ
              refine ⟨⟨_, rfl, (by decide)⟩, ?_⟩
              refine r_of (p := (J 235 11)) (f := 0) hF (j := (Int.toNat (304 + 66 * (J 235 11)))) (by omega) (by omega) (by omega) (fun w59 hw60 => ?_)
              have r61 : 0 ≤ (I 236 (Int.toNat (304 + 66 * (J 235 11)))) ∧ (I 236 (Int.toNat (304 + 66 * (J 235 11)))) ≤ 5 := Pn_p0 (p := (Int.toNat (J 235 11))) (by omega) (by omega) (hR.n (Int.toNat (304 + 66 * (J 235 11))) (by omega))
              have u62 : (J 236 (Int.toNat (304 + 66 * (J 235 11)))) = (I 236 (Int.toNat (304 + 66 * (J 235 11)))) := hV _ _ (by first | decide | omega)
              have a63 : -2147483648 ≤ (J 236 (Int.toNat (304 + 66 * (J 235 11)))) ∧ (J 236 (Int.toNat (304 + 66 * (J 235 11)))) < 2147483648 := hA.1 _ _
              have r64 : 0 ≤ (J 236 (Int.toNat (304 + 66 * (J 235 11)))) ∧ (J 236 (Int.toNat (304 + 66 * (J 235 11)))) ≤ 5 := Pn_p0 (p := (Int.toNat (J 235 11))) (by omega) (by omega) (hJ.n (Int.toNat (304 + 66 * (J 235 11))) (by omega))
              have hw60 : w59 = (J 236 (Int.toNat (304 + 66 * (J 235 11)))) := hw60
              refine ⟨fun (c66 : (¬ (w59 : Int) = 3)) => ?_, fun (c66 : ((w59 : Int) = 3)) => ?_⟩
              ·
                refine ⟨_, rfl, (by decide), ?_⟩
                have n68 : (wr ((J 235 12) + 0)) = (J 235 12) + 0 := wr_id (show -2147483648 ≤ ((J 235 12) + 0 : Int) ∧ ((J 235 12) + 0 : Int) < 2147483648 from by omega)
                have p69 : (0 : Int) ≤ (wr ((J 235 12) + 0)) ∧ ((wr ((J 235 12) + 0)) : Int) ≤ 20000000 := by first | omega | (simp only [wr, wl] at *; omega)
                refine ⟨⟨_, rfl, (by decide)⟩, ?_⟩
                have r70 : 0 ≤ (J 235 16) ∧ (J 235 16) ≤ 19400000 := (by omega)
                refine r_tick9  hF (Rg.u (Rg.u hJ (Pr_f rfl)) (Pr_x12 p69)) (RR9_f hq ((uJ_ne (show ¬ 11 = 12 from Nat.ne_of_beq_eq_false rfl)).trans ((uJ_ne (show ¬ 11 = 17 from Nat.ne_of_beq_eq_false rfl)).trans (hV 235 11 (by first | decide | omega)))) (fun j => (uI_o (show ¬ (236 = 235 ∧ j = 12) from fun e => absurd e.1 (Nat.ne_of_beq_eq_false rfl))).trans ((uI_o (show ¬ (236 = 235 ∧ j = 17) from fun e => absurd e.1 (Nat.ne_of_beq_eq_false rfl))).trans (hV 236 j (by omega))))) (show 0 ≤ (wr ((J 235 12) + 0)) from by first | with_reducible assumption | omega | (simp only [wr, wl] at *; omega)) (show 0 ≤ (J 235 16) ∧ (J 235 16) ≤ 19999999 from by first | omega | (simp only [wr, wl] at *; omega)) (fun I72 hR73 hA74 hW75 q76 qr77 => ?_)
                have q76 : (I72 235 16) = (J 235 16) + 1 := q76
                have n78 : (wr (k + 1)) = k + 1 := wr_id (show -2147483648 ≤ (k + 1 : Int) ∧ (k + 1 : Int) < 2147483648 from by omega)
                have r79 : 0 ≤ (J 235 13) ∧ (J 235 13) ≤ 1 := (by omega)
                have a81 : -2147483648 ≤ (J 235 15) ∧ (J 235 15) < 2147483648 := hA.1 _ _
                have n83 : (wr ((J 235 17) + 1)) = (J 235 17) + 1 := wr_id (show -2147483648 ≤ ((J 235 17) + 1 : Int) ∧ ((J 235 17) + 1 : Int) < 2147483648 from by omega)
                have r84 : 0 ≤ (J 235 18) ∧ (J 235 18) ≤ 24 := (by omega)
                exact ih tm (wr (k + 1)) I72 hR73 (fun ka ja hk => ((hW75 ka ja (by omega))).trans (((uI_o (show ¬ (ka = 235 ∧ ja = 12) from by first | (intro e; obtain ⟨rfl, rfl⟩ := e; exact hk (by decide)) | omega))).trans (((uI_o (show ¬ (ka = 235 ∧ ja = 17) from by first | (intro e; obtain ⟨rfl, rfl⟩ := e; exact hk (by decide)) | omega))).trans ((hV ka ja (by omega)))))) (show (tm : Int) ≤ 300000 from by first | with_reducible assumption | omega | (simp only [wr, wl] at *; omega)) (show (0 : Int) ≤ (wr (k + 1)) from by first | with_reducible assumption | omega | (simp only [wr, wl] at *; omega)) (show ((wr (k + 1)) : Int) ≤ 300000 from by first | with_reducible assumption | omega | (simp only [wr, wl] at *; omega)) ((by
                              have hs : (il = 1 ∨ U 0 2 = 0) ∧ wtF ld v0 v1 U := ⟨by omega, ⟨fun e => absurd e (by omega), fun e => (by omega)⟩⟩
                              rw [show Int.toNat (tm - k) = Int.toNat (tm - (wr (k + 1))) + 1 from by omega, prtF_s hs] at hTT
                              exact ⟨onc ld P il v0 U, MR_t (M := (uI (uI J 235 17 (wr ((J 235 17) + 1))) 235 12 (wr ((J 235 12) + 0)))) (N := I72) (J := J) hil hW hU (show (wr ((J 235 12) + 0)) = xxF P v0 U from by have k1 := mvF_c (P := P) (act := v0) (h := U 0 4); have k2 := xxF_c (P := P) (act := v0) (S := U); omega) (show (J 235 13) = U 0 1 from by omega) (show (J 235 14) = il from by omega) (show (J 235 15) = U 0 2 from by omega) (show (J 235 16) = U 0 3 from by omega) (show (wr ((J 235 17) + 1)) = hoF v0 U from by have k4 := hoF_c (act := v0) (S := U); omega) (MR_o (ld := ld) (P := P) (act := v0) (M := (uI (uI J 235 17 (wr ((J 235 17) + 1))) 235 12 (wr ((J 235 12) + 0)))) hU (by omega) ((uJ_ne (show ¬ 18 = 12 from Nat.ne_of_beq_eq_false rfl)).trans (uJ_ne (show ¬ 18 = 17 from Nat.ne_of_beq_eq_false rfl))) (fun i => ⟨(uI_o (show ¬ (243 = 235 ∧ i = 12) from fun e => absurd e.1 (Nat.ne_of_beq_eq_false rfl))).trans (uI_o (show ¬ (243 = 235 ∧ i = 17) from fun e => absurd e.1 (Nat.ne_of_beq_eq_false rfl))), (uI_o (show ¬ (244 = 235 ∧ i = 12) from fun e => absurd e.1 (Nat.ne_of_beq_eq_false rfl))).trans (uI_o (show ¬ (244 = 235 ∧ i = 17) from fun e => absurd e.1 (Nat.ne_of_beq_eq_false rfl)))⟩)).1 (MR_o (ld := ld) (P := P) (act := v0) (M := (uI (uI J 235 17 (wr ((J 235 17) + 1))) 235 12 (wr ((J 235 12) + 0)))) hU (by omega) ((uJ_ne (show ¬ 18 = 12 from Nat.ne_of_beq_eq_false rfl)).trans (uJ_ne (show ¬ 18 = 17 from Nat.ne_of_beq_eq_false rfl))) (fun i => ⟨(uI_o (show ¬ (243 = 235 ∧ i = 12) from fun e => absurd e.1 (Nat.ne_of_beq_eq_false rfl))).trans (uI_o (show ¬ (243 = 235 ∧ i = 17) from fun e => absurd e.1 (Nat.ne_of_beq_eq_false rfl))), (uI_o (show ¬ (244 = 235 ∧ i = 12) from fun e => absurd e.1 (Nat.ne_of_beq_eq_false rfl))).trans (uI_o (show ¬ (244 = 235 ∧ i = 17) from fun e => absurd e.1 (Nat.ne_of_beq_eq_false rfl)))⟩)).2 (fun j => (uI_o (show ¬ (242 = 235 ∧ j = 12) from fun e => absurd e.1 (Nat.ne_of_beq_eq_false rfl))).trans (uI_o (show ¬ (242 = 235 ∧ j = 17) from fun e => absurd e.1 (Nat.ne_of_beq_eq_false rfl)))) (hW75 235 12 (by first | decide | omega)) (hW75 235 14 (by first | decide | omega)) (hW75 235 17 (by first | decide | omega)) (hW75 235 18 (by first | decide | omega)) (fun i => ⟨hW75 243 i (by omega), hW75 244 i (by omega)⟩) qr77, WS_o hW, (show U 0 3 + 1 ≤ B + (wr (k + 1)) from by omega), hTT⟩)) (show (tm - (wr (k + 1))).toNat < mz from by omega)
              ·
                refine ⟨_, rfl, (by decide), ?_⟩
                refine ⟨(by decide), ?_⟩
                have n87 : (wr ((J 235 17) + 1)) = (J 235 17) + 1 := wr_id (show -2147483648 ≤ ((J 235 17) + 1 : Int) ∧ ((J 235 17) + 1 : Int) < 2147483648 from by omega)
                have n88 : (Int.tmod (wr ((J 235 17) + 1)) 5) = ((wr ((J 235 17) + 1)) : Int) % 5 := Int.tmod_eq_emod_of_nonneg (by omega)
                refine ⟨fun (c89 : (¬ ((Int.tmod (wr ((J 235 17) + 1)) 5) : Int) = 0)) => ?_, fun (c89 : (((Int.tmod (wr ((J 235 17) + 1)) 5) : Int) = 0)) => ?_⟩
                ·
                  refine ⟨_, rfl, (by decide), ?_⟩
                  have n91 : (wr ((J 235 12) + 0)) = (J 235 12) + 0 := wr_id (show -2147483648 ≤ ((J 235 12) + 0 : Int) ∧ ((J 235 12) + 0 : Int) < 2147483648 from by omega)
                  have p92 : (0 : Int) ≤ (wr ((J 235 12) + 0)) ∧ ((wr ((J 235 12) + 0)) : Int) ≤ 20000000 := by first | omega | (simp only [wr, wl] at *; omega)
                  refine ⟨⟨_, rfl, (by decide)⟩, ?_⟩
                  have r93 : 0 ≤ (J 235 16) ∧ (J 235 16) ≤ 19400000 := (by omega)
                  refine r_tick9  hF (Rg.u (Rg.u hJ (Pr_f rfl)) (Pr_x12 p92)) (RR9_f hq ((uJ_ne (show ¬ 11 = 12 from Nat.ne_of_beq_eq_false rfl)).trans ((uJ_ne (show ¬ 11 = 17 from Nat.ne_of_beq_eq_false rfl)).trans (hV 235 11 (by first | decide | omega)))) (fun j => (uI_o (show ¬ (236 = 235 ∧ j = 12) from fun e => absurd e.1 (Nat.ne_of_beq_eq_false rfl))).trans ((uI_o (show ¬ (236 = 235 ∧ j = 17) from fun e => absurd e.1 (Nat.ne_of_beq_eq_false rfl))).trans (hV 236 j (by omega))))) (show 0 ≤ (wr ((J 235 12) + 0)) from by first | with_reducible assumption | omega | (simp only [wr, wl] at *; omega)) (show 0 ≤ (J 235 16) ∧ (J 235 16) ≤ 19999999 from by first | omega | (simp only [wr, wl] at *; omega)) (fun I95 hR96 hA97 hW98 q99 qr100 => ?_)
                  have q99 : (I95 235 16) = (J 235 16) + 1 := q99
                  have n101 : (wr (k + 1)) = k + 1 := wr_id (show -2147483648 ≤ (k + 1 : Int) ∧ (k + 1 : Int) < 2147483648 from by omega)
                  have r102 : 0 ≤ (J 235 13) ∧ (J 235 13) ≤ 1 := (by omega)
                  have a104 : -2147483648 ≤ (J 235 15) ∧ (J 235 15) < 2147483648 := hA.1 _ _
                  have r105 : 0 ≤ (J 235 18) ∧ (J 235 18) ≤ 24 := (by omega)
                  exact ih tm (wr (k + 1)) I95 hR96 (fun ka ja hk => ((hW98 ka ja (by omega))).trans (((uI_o (show ¬ (ka = 235 ∧ ja = 12) from by first | (intro e; obtain ⟨rfl, rfl⟩ := e; exact hk (by decide)) | omega))).trans (((uI_o (show ¬ (ka = 235 ∧ ja = 17) from by first | (intro e; obtain ⟨rfl, rfl⟩ := e; exact hk (by decide)) | omega))).trans ((hV ka ja (by omega)))))) (show (tm : Int) ≤ 300000 from by first | with_reducible assumption | omega | (simp only [wr, wl] at *; omega)) (show (0 : Int) ≤ (wr (k + 1)) from by first | with_reducible assumption | omega | (simp only [wr, wl] at *; omega)) (show ((wr (k + 1)) : Int) ≤ 300000 from by first | with_reducible assumption | omega | (simp only [wr, wl] at *; omega)) ((by
                              have hs : (il = 1 ∨ U 0 2 = 0) ∧ wtF ld v0 v1 U := ⟨by omega, ⟨fun e => absurd e (by omega), fun e => (by omega)⟩⟩
                              rw [show Int.toNat (tm - k) = Int.toNat (tm - (wr (k + 1))) + 1 from by omega, prtF_s hs] at hTT
                              exact ⟨onc ld P il v0 U, MR_t (M := (uI (uI J 235 17 (wr ((J 235 17) + 1))) 235 12 (wr ((J 235 12) + 0)))) (N := I95) (J := J) hil hW hU (show (wr ((J 235 12) + 0)) = xxF P v0 U from by have k1 := mvF_c (P := P) (act := v0) (h := U 0 4); have k2 := xxF_c (P := P) (act := v0) (S := U); omega) (show (J 235 13) = U 0 1 from by omega) (show (J 235 14) = il from by omega) (show (J 235 15) = U 0 2 from by omega) (show (J 235 16) = U 0 3 from by omega) (show (wr ((J 235 17) + 1)) = hoF v0 U from by have k4 := hoF_c (act := v0) (S := U); omega) (MR_o (ld := ld) (P := P) (act := v0) (M := (uI (uI J 235 17 (wr ((J 235 17) + 1))) 235 12 (wr ((J 235 12) + 0)))) hU (by omega) ((uJ_ne (show ¬ 18 = 12 from Nat.ne_of_beq_eq_false rfl)).trans (uJ_ne (show ¬ 18 = 17 from Nat.ne_of_beq_eq_false rfl))) (fun i => ⟨(uI_o (show ¬ (243 = 235 ∧ i = 12) from fun e => absurd e.1 (Nat.ne_of_beq_eq_false rfl))).trans (uI_o (show ¬ (243 = 235 ∧ i = 17) from fun e => absurd e.1 (Nat.ne_of_beq_eq_false rfl))), (uI_o (show ¬ (244 = 235 ∧ i = 12) from fun e => absurd e.1 (Nat.ne_of_beq_eq_false rfl))).trans (uI_o (show ¬ (244 = 235 ∧ i = 17) from fun e => absurd e.1 (Nat.ne_of_beq_eq_false rfl)))⟩)).1 (MR_o (ld := ld) (P := P) (act := v0) (M := (uI (uI J 235 17 (wr ((J 235 17) + 1))) 235 12 (wr ((J 235 12) + 0)))) hU (by omega) ((uJ_ne (show ¬ 18 = 12 from Nat.ne_of_beq_eq_false rfl)).trans (uJ_ne (show ¬ 18 = 17 from Nat.ne_of_beq_eq_false rfl))) (fun i => ⟨(uI_o (show ¬ (243 = 235 ∧ i = 12) from fun e => absurd e.1 (Nat.ne_of_beq_eq_false rfl))).trans (uI_o (show ¬ (243 = 235 ∧ i = 17) from fun e => absurd e.1 (Nat.ne_of_beq_eq_false rfl))), (uI_o (show ¬ (244 = 235 ∧ i = 12) from fun e => absurd e.1 (Nat.ne_of_beq_eq_false rfl))).trans (uI_o (show ¬ (244 = 235 ∧ i = 17) from fun e => absurd e.1 (Nat.ne_of_beq_eq_false rfl)))⟩)).2 (fun j => (uI_o (show ¬ (242 = 235 ∧ j = 12) from fun e => absurd e.1 (Nat.ne_of_beq_eq_false rfl))).trans (uI_o (show ¬ (242 = 235 ∧ j = 17) from fun e => absurd e.1 (Nat.ne_of_beq_eq_false rfl)))) (hW98 235 12 (by first | decide | omega)) (hW98 235 14 (by first | decide | omega)) (hW98 235 17 (by first | decide | omega)) (hW98 235 18 (by first | decide | omega)) (fun i => ⟨hW98 243 i (by omega), hW98 244 i (by omega)⟩) qr100, WS_o hW, (show U 0 3 + 1 ≤ B + (wr (k + 1)) from by omega), hTT⟩)) (show (tm - (wr (k + 1))).toNat < mz from by omega)
                ·
                  refine ⟨_, rfl, (by decide), ?_⟩
                  have n108 : (wr ((J 235 12) + 1)) = (J 235 12) + 1 := wr_id (show -2147483648 ≤ ((J 235 12) + 1 : Int) ∧ ((J 235 12) + 1 : Int) < 2147483648 from by omega)
                  have p109 : (0 : Int) ≤ (wr ((J 235 12) + 1)) ∧ ((wr ((J 235 12) + 1)) : Int) ≤ 20000000 := by first | omega | (simp only [wr, wl] at *; omega)
                  refine ⟨⟨_, rfl, (by decide)⟩, ?_⟩
                  have r110 : 0 ≤ (J 235 16) ∧ (J 235 16) ≤ 19400000 := (by omega)
                  refine r_tick9  hF (Rg.u (Rg.u hJ (Pr_f rfl)) (Pr_x12 p109)) (RR9_f hq ((uJ_ne (show ¬ 11 = 12 from Nat.ne_of_beq_eq_false rfl)).trans ((uJ_ne (show ¬ 11 = 17 from Nat.ne_of_beq_eq_false rfl)).trans (hV 235 11 (by first | decide | omega)))) (fun j => (uI_o (show ¬ (236 = 235 ∧ j = 12) from fun e => absurd e.1 (Nat.ne_of_beq_eq_false rfl))).trans ((uI_o (show ¬ (236 = 235 ∧ j = 17) from fun e => absurd e.1 (Nat.ne_of_beq_eq_false rfl))).trans (hV 236 j (by omega))))) (show 0 ≤ (wr ((J 235 12) + 1)) from by first | with_reducible assumption | omega | (simp only [wr, wl] at *; omega)) (show 0 ≤ (J 235 16) ∧ (J 235 16) ≤ 19999999 from by first | omega | (simp only [wr, wl] at *; omega)) (fun I112 hR113 hA114 hW115 q116 qr117 => ?_)
                  have q116 : (I112 235 16) = (J 235 16) + 1 := q116
                  have n118 : (wr (k + 1)) = k + 1 := wr_id (show -2147483648 ≤ (k + 1 : Int) ∧ (k + 1 : Int) < 2147483648 from by omega)
                  have r119 : 0 ≤ (J 235 13) ∧ (J 235 13) ≤ 1 := (by omega)
                  have a121 : -2147483648 ≤ (J 235 15) ∧ (J 235 15) < 2147483648 := hA.1 _ _
                  have r122 : 0 ≤ (J 235 18) ∧ (J 235 18) ≤ 24 := (by omega)
                  exact ih tm (wr (k + 1)) I112 hR113 (fun ka ja hk => ((hW115 ka ja (by omega))).trans (((uI_o (show ¬ (ka = 235 ∧ ja = 12) from by first | (intro e; obtain ⟨rfl, rfl⟩ := e; exact hk (by decide)) | omega))).trans (((uI_o (show ¬ (ka = 235 ∧ ja = 17) from by first | (intro e; obtain ⟨rfl, rfl⟩ := e; exact hk (by decide)) | omega))).trans ((hV ka ja (by omega)))))) (show (tm : Int) ≤ 300000 from by first | with_reducible assumption | omega | (simp only [wr, wl] at *; omega)) (show (0 : Int) ≤ (wr (k + 1)) from by first | with_reducible assumption | omega | (simp only [wr, wl] at *; omega)) (show ((wr (k + 1)) : Int) ≤ 300000 from by first | with_reducible assumption | omega | (simp only [wr, wl] at *; omega)) ((by
                              have hs : (il = 1 ∨ U 0 2 = 0) ∧ wtF ld v0 v1 U := ⟨by omega, ⟨fun e => absurd e (by omega), fun e => (by omega)⟩⟩
                              rw [show Int.toNat (tm - k) = Int.toNat (tm - (wr (k + 1))) + 1 from by omega, prtF_s hs] at hTT
                              exact ⟨onc ld P il v0 U, MR_t (M := (uI (uI J 235 17 (wr ((J 235 17) + 1))) 235 12 (wr ((J 235 12) + 1)))) (N := I112) (J := J) hil hW hU (show (wr ((J 235 12) + 1)) = xxF P v0 U from by have k1 := mvF_c (P := P) (act := v0) (h := U 0 4); have k2 := xxF_c (P := P) (act := v0) (S := U); omega) (show (J 235 13) = U 0 1 from by omega) (show (J 235 14) = il from by omega) (show (J 235 15) = U 0 2 from by omega) (show (J 235 16) = U 0 3 from by omega) (show (wr ((J 235 17) + 1)) = hoF v0 U from by have k4 := hoF_c (act := v0) (S := U); omega) (MR_o (ld := ld) (P := P) (act := v0) (M := (uI (uI J 235 17 (wr ((J 235 17) + 1))) 235 12 (wr ((J 235 12) + 1)))) hU (by omega) ((uJ_ne (show ¬ 18 = 12 from Nat.ne_of_beq_eq_false rfl)).trans (uJ_ne (show ¬ 18 = 17 from Nat.ne_of_beq_eq_false rfl))) (fun i => ⟨(uI_o (show ¬ (243 = 235 ∧ i = 12) from fun e => absurd e.1 (Nat.ne_of_beq_eq_false rfl))).trans (uI_o (show ¬ (243 = 235 ∧ i = 17) from fun e => absurd e.1 (Nat.ne_of_beq_eq_false rfl))), (uI_o (show ¬ (244 = 235 ∧ i = 12) from fun e => absurd e.1 (Nat.ne_of_beq_eq_false rfl))).trans (uI_o (show ¬ (244 = 235 ∧ i = 17) from fun e => absurd e.1 (Nat.ne_of_beq_eq_false rfl)))⟩)).1 (MR_o (ld := ld) (P := P) (act := v0) (M := (uI (uI J 235 17 (wr ((J 235 17) + 1))) 235 12 (wr ((J 235 12) + 1)))) hU (by omega) ((uJ_ne (show ¬ 18 = 12 from Nat.ne_of_beq_eq_false rfl)).trans (uJ_ne (show ¬ 18 = 17 from Nat.ne_of_beq_eq_false rfl))) (fun i => ⟨(uI_o (show ¬ (243 = 235 ∧ i = 12) from fun e => absurd e.1 (Nat.ne_of_beq_eq_false rfl))).trans (uI_o (show ¬ (243 = 235 ∧ i = 17) from fun e => absurd e.1 (Nat.ne_of_beq_eq_false rfl))), (uI_o (show ¬ (244 = 235 ∧ i = 12) from fun e => absurd e.1 (Nat.ne_of_beq_eq_false rfl))).trans (uI_o (show ¬ (244 = 235 ∧ i = 17) from fun e => absurd e.1 (Nat.ne_of_beq_eq_false rfl)))⟩)).2 (fun j => (uI_o (show ¬ (242 = 235 ∧ j = 12) from fun e => absurd e.1 (Nat.ne_of_beq_eq_false rfl))).trans (uI_o (show ¬ (242 = 235 ∧ j = 17) from fun e => absurd e.1 (Nat.ne_of_beq_eq_false rfl)))) (hW115 235 12 (by first | decide | omega)) (hW115 235 14 (by first | decide | omega)) (hW115 235 17 (by first | decide | omega)) (hW115 235 18 (by first | decide | omega)) (fun i => ⟨hW115 243 i (by omega), hW115 244 i (by omega)⟩) qr117, WS_o hW, (show U 0 3 + 1 ≤ B + (wr (k + 1)) from by omega), hTT⟩)) (show (tm - (wr (k + 1))).toNat < mz from by omega)
            ·
              refine ⟨fun (c124 : ((v0 : Int) = 3)) => ?_, fun (c124 : (¬ ((v0 : Int) = 3))) => ?_⟩
              ·
                refine ⟨_, rfl, (by decide), ?_⟩
                have r125 : 0 ≤ (J 235 12) ∧ (J 235 12) ≤ 19400000 := (by omega)
                have n127 : (wr ((J 235 12) - 1)) = (J 235 12) - 1 := wr_id (show -2147483648 ≤ ((J 235 12) - 1 : Int) ∧ ((J 235 12) - 1 : Int) < 2147483648 from by omega)
                refine j_max (fun w128 h129 h130 h131 => ?_)
                refine ⟨_, rfl, (by decide), ?_⟩
                have p132 : (0 : Int) ≤ w128 ∧ (w128 : Int) ≤ 20000000 := by first | omega | (simp only [wr, wl] at *; omega)
                refine ⟨⟨_, rfl, (by decide)⟩, ?_⟩
                have r133 : 0 ≤ (J 235 16) ∧ (J 235 16) ≤ 19400000 := (by omega)
                refine r_tick9  hF (Rg.u hJ (Pr_x12 p132)) (RR9_f hq ((uJ_ne (show ¬ 11 = 12 from Nat.ne_of_beq_eq_false rfl)).trans (hV 235 11 (by first | decide | omega))) (fun j => (uI_o (show ¬ (236 = 235 ∧ j = 12) from fun e => absurd e.1 (Nat.ne_of_beq_eq_false rfl))).trans (hV 236 j (by omega)))) (show 0 ≤ w128 from by first | with_reducible assumption | omega | (simp only [wr, wl] at *; omega)) (show 0 ≤ (J 235 16) ∧ (J 235 16) ≤ 19999999 from by first | omega | (simp only [wr, wl] at *; omega)) (fun I135 hR136 hA137 hW138 q139 qr140 => ?_)
                have q139 : (I135 235 16) = (J 235 16) + 1 := q139
                have n141 : (wr (k + 1)) = k + 1 := wr_id (show -2147483648 ≤ (k + 1 : Int) ∧ (k + 1 : Int) < 2147483648 from by omega)
                have r142 : 0 ≤ (J 235 13) ∧ (J 235 13) ≤ 1 := (by omega)
                have a144 : -2147483648 ≤ (J 235 15) ∧ (J 235 15) < 2147483648 := hA.1 _ _
                have r145 : 0 ≤ (J 235 17) ∧ (J 235 17) ≤ 19400000 := (by omega)
                have r147 : 0 ≤ (J 235 18) ∧ (J 235 18) ≤ 24 := (by omega)
                exact ih tm (wr (k + 1)) I135 hR136 (fun ka ja hk => ((hW138 ka ja (by omega))).trans (((uI_o (show ¬ (ka = 235 ∧ ja = 12) from by first | (intro e; obtain ⟨rfl, rfl⟩ := e; exact hk (by decide)) | omega))).trans ((hV ka ja (by omega))))) (show (tm : Int) ≤ 300000 from by first | with_reducible assumption | omega | (simp only [wr, wl] at *; omega)) (show (0 : Int) ≤ (wr (k + 1)) from by first | with_reducible assumption | omega | (simp only [wr, wl] at *; omega)) (show ((wr (k + 1)) : Int) ≤ 300000 from by first | with_reducible assumption | omega | (simp only [wr, wl] at *; omega)) ((by
                              have hs : (il = 1 ∨ U 0 2 = 0) ∧ wtF ld v0 v1 U := ⟨by omega, ⟨fun e => absurd e (by omega), fun e => (by omega)⟩⟩
                              rw [show Int.toNat (tm - k) = Int.toNat (tm - (wr (k + 1))) + 1 from by omega, prtF_s hs] at hTT
                              exact ⟨onc ld P il v0 U, MR_t (M := (uI J 235 12 w128)) (N := I135) (J := J) hil hW hU (show w128 = xxF P v0 U from by have k1 := mvF_c (P := P) (act := v0) (h := U 0 4); have k2 := xxF_c (P := P) (act := v0) (S := U); omega) (show (J 235 13) = U 0 1 from by omega) (show (J 235 14) = il from by omega) (show (J 235 15) = U 0 2 from by omega) (show (J 235 16) = U 0 3 from by omega) (show (J 235 17) = hoF v0 U from by have k4 := hoF_c (act := v0) (S := U); omega) (MR_o (ld := ld) (P := P) (act := v0) (M := (uI J 235 12 w128)) hU (by omega) (uJ_ne (show ¬ 18 = 12 from Nat.ne_of_beq_eq_false rfl)) (fun i => ⟨uI_o (show ¬ (243 = 235 ∧ i = 12) from fun e => absurd e.1 (Nat.ne_of_beq_eq_false rfl)), uI_o (show ¬ (244 = 235 ∧ i = 12) from fun e => absurd e.1 (Nat.ne_of_beq_eq_false rfl))⟩)).1 (MR_o (ld := ld) (P := P) (act := v0) (M := (uI J 235 12 w128)) hU (by omega) (uJ_ne (show ¬ 18 = 12 from Nat.ne_of_beq_eq_false rfl)) (fun i => ⟨uI_o (show ¬ (243 = 235 ∧ i = 12) from fun e => absurd e.1 (Nat.ne_of_beq_eq_false rfl)), uI_o (show ¬ (244 = 235 ∧ i = 12) from fun e => absurd e.1 (Nat.ne_of_beq_eq_false rfl))⟩)).2 (fun j => uI_o (show ¬ (242 = 235 ∧ j = 12) from fun e => absurd e.1 (Nat.ne_of_beq_eq_false rfl))) (hW138 235 12 (by first | decide | omega)) (hW138 235 14 (by first | decide | omega)) (hW138 235 17 (by first | decide | omega)) (hW138 235 18 (by first | decide | omega)) (fun i => ⟨hW138 243 i (by omega), hW138 244 i (by omega)⟩) qr140, WS_o hW, (show U 0 3 + 1 ≤ B + (wr (k + 1)) from by omega), hTT⟩)) (show (tm - (wr (k + 1))).toNat < mz from by omega)
              ·
                refine ⟨fun (c149 : ((v0 : Int) = 4)) => ?_, fun (c149 : (¬ ((v0 : Int) = 4))) => ?_⟩
                ·
                  refine ⟨⟨_, rfl, (by decide)⟩, ?_⟩
                  have r150 : 0 ≤ (J 235 12) ∧ (J 235 12) ≤ 19400000 := (by omega)
                  have r152 : 0 ≤ (J 235 16) ∧ (J 235 16) ≤ 19400000 := (by omega)
                  refine r_take9  hF hJ (RR9_f hq (hV 235 11 (by first | decide | omega)) (fun j => hV 236 j (by omega))) (show 0 ≤ (J 235 12) from by first | with_reducible assumption | omega | (simp only [wr, wl] at *; omega)) (show 0 ≤ (J 235 16) ∧ (J 235 16) ≤ 19999999 from by first | omega | (simp only [wr, wl] at *; omega)) (fun I154 hR155 hA156 hW157 qr158 => ?_)
                  refine ⟨⟨_, rfl, (by decide)⟩, ?_⟩
                  have u159 : (I154 235 12) = (J 235 12) := hW157 _ _ (by first | decide | omega)
                  have a160 : -2147483648 ≤ (I154 235 12) ∧ (I154 235 12) < 2147483648 := hA156.1 _ _
                  have r161 : 0 ≤ (I154 235 12) ∧ (I154 235 12) ≤ 20000000 := Rg.f12 hR155
                  have u162 : (I154 235 16) = (J 235 16) := hW157 _ _ (by first | decide | omega)
                  have a163 : -2147483648 ≤ (I154 235 16) ∧ (I154 235 16) < 2147483648 := hA156.1 _ _
                  have r164 : 0 ≤ (I154 235 16) ∧ (I154 235 16) ≤ 20000000 := Rg.f16 hR155
                  refine r_tick9  hF hR155 (RR9_f hq ((hW157 235 11 (by first | decide | omega)).trans (hV 235 11 (by first | decide | omega))) (fun j => (hW157 236 j (by omega)).trans (hV 236 j (by omega)))) (show 0 ≤ (I154 235 12) from by first | with_reducible assumption | omega | (simp only [wr, wl] at *; omega)) (show 0 ≤ (I154 235 16) ∧ (I154 235 16) ≤ 19999999 from by first | omega | (simp only [wr, wl] at *; omega)) (fun I165 hR166 hA167 hW168 q169 qr170 => ?_)
                  have q169 : (I165 235 16) = (I154 235 16) + 1 := q169
                  have n171 : (wr (k + 1)) = k + 1 := wr_id (show -2147483648 ≤ (k + 1 : Int) ∧ (k + 1 : Int) < 2147483648 from by omega)
                  have r172 : 0 ≤ (J 235 13) ∧ (J 235 13) ≤ 1 := (by omega)
                  have u173 : (I154 235 13) = (J 235 13) := hW157 _ _ (by first | decide | omega)
                  have a175 : -2147483648 ≤ (I154 235 13) ∧ (I154 235 13) < 2147483648 := hA156.1 _ _
                  have u176 : (I154 235 14) = (J 235 14) := hW157 _ _ (by first | decide | omega)
                  have a177 : -2147483648 ≤ (I154 235 14) ∧ (I154 235 14) < 2147483648 := hA156.1 _ _
                  have u178 : (I154 235 15) = (J 235 15) := hW157 _ _ (by first | decide | omega)
                  have a179 : -2147483648 ≤ (J 235 15) ∧ (J 235 15) < 2147483648 := hA.1 _ _
                  have a180 : -2147483648 ≤ (I154 235 15) ∧ (I154 235 15) < 2147483648 := hA156.1 _ _
                  have r181 : 0 ≤ (J 235 17) ∧ (J 235 17) ≤ 19400000 := (by omega)
                  have u182 : (I154 235 17) = (J 235 17) := hW157 _ _ (by first | decide | omega)
                  have a184 : -2147483648 ≤ (I154 235 17) ∧ (I154 235 17) < 2147483648 := hA156.1 _ _
                  exact ih tm (wr (k + 1)) I165 hR166 (fun ka ja hk => ((hW168 ka ja (by omega))).trans (((hW157 ka ja (by omega))).trans ((hV ka ja (by omega))))) (show (tm : Int) ≤ 300000 from by first | with_reducible assumption | omega | (simp only [wr, wl] at *; omega)) (show (0 : Int) ≤ (wr (k + 1)) from by first | with_reducible assumption | omega | (simp only [wr, wl] at *; omega)) (show ((wr (k + 1)) : Int) ≤ 300000 from by first | with_reducible assumption | omega | (simp only [wr, wl] at *; omega)) ((by
                              have hs : (il = 1 ∨ U 0 2 = 0) ∧ wtF ld v0 v1 U := ⟨by omega, ⟨fun e => absurd e (by omega), fun e => (by omega)⟩⟩
                              rw [show Int.toNat (tm - k) = Int.toNat (tm - (wr (k + 1))) + 1 from by omega, prtF_s hs] at hTT
                              exact ⟨onc ld P il v0 U, MR_t (M := I154) (N := I165) (J := J) hil hW hU (show (I154 235 12) = xxF P v0 U from by have k1 := mvF_c (P := P) (act := v0) (h := U 0 4); have k2 := xxF_c (P := P) (act := v0) (S := U); omega) (show (I154 235 13) = U 0 1 from by omega) (show (I154 235 14) = il from by omega) (show (I154 235 15) = U 0 2 from by omega) (show (I154 235 16) = U 0 3 from by omega) (show (I154 235 17) = hoF v0 U from by have k4 := hoF_c (act := v0) (S := U); omega) (show I154 235 18 = nnF v0 U from by rw [show v0 = 4 from by omega]; exact (MR_r hU hW (RR9_l hq) (by have := hq.2.2.2.2.2.2; have := Rg.n8 hR; omega) (show TKR ld P I154 J from qr158)).1) (fun i hi => by rw [show v0 = 4 from by omega] at hi ⊢; exact (MR_r hU hW (RR9_l hq) (by have := hq.2.2.2.2.2.2; have := Rg.n8 hR; omega) (show TKR ld P I154 J from qr158)).2 i hi) (fun j => hW157 242 (j) (by omega)) (hW168 235 12 (by first | decide | omega)) (hW168 235 14 (by first | decide | omega)) (hW168 235 17 (by first | decide | omega)) (hW168 235 18 (by first | decide | omega)) (fun i => ⟨hW168 243 i (by omega), hW168 244 i (by omega)⟩) qr170, WS_o hW, (show U 0 3 + 1 ≤ B + (wr (k + 1)) from by omega), hTT⟩)) (show (tm - (wr (k + 1))).toNat < mz from by omega)
                ·
                  refine ⟨_, rfl, (by decide), ?_⟩
                  have r185 : 0 ≤ (J 235 12) ∧ (J 235 12) ≤ 19400000 := (by omega)
                  refine ⟨fun (c187 : (((J 235 12) : Int) < v1)) => ?_, fun (c187 : (¬ (((J 235 12) : Int) < v1))) => ?_⟩
                  ·
                    refine ⟨_, rfl, (by decide), ?_⟩
                    refine ⟨_, rfl, (by decide), ?_⟩
                    have n188 : (wr ((J 235 12) + 1)) = (J 235 12) + 1 := wr_id (show -2147483648 ≤ ((J 235 12) + 1 : Int) ∧ ((J 235 12) + 1 : Int) < 2147483648 from by omega)
                    have p189 : (0 : Int) ≤ (wr ((J 235 12) + 1)) ∧ ((wr ((J 235 12) + 1)) : Int) ≤ 20000000 := by first | omega | (simp only [wr, wl] at *; omega)
                    refine ⟨⟨_, rfl, (by decide)⟩, ?_⟩
                    have r190 : 0 ≤ (J 235 16) ∧ (J 235 16) ≤ 19400000 := (by omega)
                    refine r_tick9  hF (Rg.u hJ (Pr_x12 p189)) (RR9_f hq ((uJ_ne (show ¬ 11 = 12 from Nat.ne_of_beq_eq_false rfl)).trans (hV 235 11 (by first | decide | omega))) (fun j => (uI_o (show ¬ (236 = 235 ∧ j = 12) from fun e => absurd e.1 (Nat.ne_of_beq_eq_false rfl))).trans (hV 236 j (by omega)))) (show 0 ≤ (wr ((J 235 12) + 1)) from by first | with_reducible assumption | omega | (simp only [wr, wl] at *; omega)) (show 0 ≤ (J 235 16) ∧ (J 235 16) ≤ 19999999 from by first | omega | (simp only [wr, wl] at *; omega)) (fun I192 hR193 hA194 hW195 q196 qr197 => ?_)
                    have q196 : (I192 235 16) = (J 235 16) + 1 := q196
                    have n198 : (wr (k + 1)) = k + 1 := wr_id (show -2147483648 ≤ (k + 1 : Int) ∧ (k + 1 : Int) < 2147483648 from by omega)
                    have r199 : 0 ≤ (J 235 13) ∧ (J 235 13) ≤ 1 := (by omega)
                    have a201 : -2147483648 ≤ (J 235 15) ∧ (J 235 15) < 2147483648 := hA.1 _ _
                    have r202 : 0 ≤ (J 235 17) ∧ (J 235 17) ≤ 19400000 := (by omega)
                    have r204 : 0 ≤ (J 235 18) ∧ (J 235 18) ≤ 24 := (by omega)
                    exact ih tm (wr (k + 1)) I192 hR193 (fun ka ja hk => ((hW195 ka ja (by omega))).trans (((uI_o (show ¬ (ka = 235 ∧ ja = 12) from by first | (intro e; obtain ⟨rfl, rfl⟩ := e; exact hk (by decide)) | omega))).trans ((hV ka ja (by omega))))) (show (tm : Int) ≤ 300000 from by first | with_reducible assumption | omega | (simp only [wr, wl] at *; omega)) (show (0 : Int) ≤ (wr (k + 1)) from by first | with_reducible assumption | omega | (simp only [wr, wl] at *; omega)) (show ((wr (k + 1)) : Int) ≤ 300000 from by first | with_reducible assumption | omega | (simp only [wr, wl] at *; omega)) ((by
                              have hs : (il = 1 ∨ U 0 2 = 0) ∧ wtF ld v0 v1 U := ⟨by omega, ⟨fun e => absurd e (by omega), fun e => (by omega)⟩⟩
                              rw [show Int.toNat (tm - k) = Int.toNat (tm - (wr (k + 1))) + 1 from by omega, prtF_s hs] at hTT
                              exact ⟨onc ld P il v0 U, MR_t (M := (uI J 235 12 (wr ((J 235 12) + 1)))) (N := I192) (J := J) hil hW hU (show (wr ((J 235 12) + 1)) = xxF P v0 U from by have k1 := mvF_c (P := P) (act := v0) (h := U 0 4); have k2 := xxF_c (P := P) (act := v0) (S := U); omega) (show (J 235 13) = U 0 1 from by omega) (show (J 235 14) = il from by omega) (show (J 235 15) = U 0 2 from by omega) (show (J 235 16) = U 0 3 from by omega) (show (J 235 17) = hoF v0 U from by have k4 := hoF_c (act := v0) (S := U); omega) (MR_o (ld := ld) (P := P) (act := v0) (M := (uI J 235 12 (wr ((J 235 12) + 1)))) hU (by omega) (uJ_ne (show ¬ 18 = 12 from Nat.ne_of_beq_eq_false rfl)) (fun i => ⟨uI_o (show ¬ (243 = 235 ∧ i = 12) from fun e => absurd e.1 (Nat.ne_of_beq_eq_false rfl)), uI_o (show ¬ (244 = 235 ∧ i = 12) from fun e => absurd e.1 (Nat.ne_of_beq_eq_false rfl))⟩)).1 (MR_o (ld := ld) (P := P) (act := v0) (M := (uI J 235 12 (wr ((J 235 12) + 1)))) hU (by omega) (uJ_ne (show ¬ 18 = 12 from Nat.ne_of_beq_eq_false rfl)) (fun i => ⟨uI_o (show ¬ (243 = 235 ∧ i = 12) from fun e => absurd e.1 (Nat.ne_of_beq_eq_false rfl)), uI_o (show ¬ (244 = 235 ∧ i = 12) from fun e => absurd e.1 (Nat.ne_of_beq_eq_false rfl))⟩)).2 (fun j => uI_o (show ¬ (242 = 235 ∧ j = 12) from fun e => absurd e.1 (Nat.ne_of_beq_eq_false rfl))) (hW195 235 12 (by first | decide | omega)) (hW195 235 14 (by first | decide | omega)) (hW195 235 17 (by first | decide | omega)) (hW195 235 18 (by first | decide | omega)) (fun i => ⟨hW195 243 i (by omega), hW195 244 i (by omega)⟩) qr197, WS_o hW, (show U 0 3 + 1 ≤ B + (wr (k + 1)) from by omega), hTT⟩)) (show (tm - (wr (k + 1))).toNat < mz from by omega)
                  ·
                    exact ⟨rfl, hQ _ hJ (fun ka ja hk => (hV ka ja (by omega))) ((by
                              first | (exact ((prtF_e (Or.inl (by omega))).symm.trans hTT) ▸ hU) | (exact ((prtF_e (Or.inr (fun z => absurd z.1 (by omega)))).symm.trans hTT) ▸ hU) | (exact ((prtF_e (Or.inr (fun z => absurd (z.2.2 (by omega)) (by omega)))).symm.trans hTT) ▸ hU)))⟩
      ·
        refine ⟨_, rfl, (by decide), ?_⟩
        have a206 : -2147483648 ≤ (J 235 15) ∧ (J 235 15) < 2147483648 := hA.1 _ _
        refine ⟨fun (c207 : (¬ ((J 235 15) : Int) = 0)) => ?_, fun (c207 : (((J 235 15) : Int) = 0)) => ?_⟩
        ·
          refine ⟨rfl, (by decide), ?_⟩
          refine ⟨fun _ => ?_, fun c => absurd (show ((0 : Int) = 0) from by decide) c⟩
          exact ⟨rfl, hQ _ hJ (fun ka ja hk => (hV ka ja (by omega))) ((by
                              first | (exact ((prtF_e (Or.inl (by omega))).symm.trans hTT) ▸ hU) | (exact ((prtF_e (Or.inr (fun z => absurd z.1 (by omega)))).symm.trans hTT) ▸ hU) | (exact ((prtF_e (Or.inr (fun z => absurd (z.2.2 (by omega)) (by omega)))).symm.trans hTT) ▸ hU)))⟩
        ·
          refine ⟨rfl, (by decide), ?_⟩
          refine ⟨fun c => absurd c (show (¬ ((1 : Int) = 0)) from by decide), fun _ => ?_⟩
          refine ⟨fun (c208 : ((v0 : Int) = 0)) => ?_, fun (c208 : (¬ ((v0 : Int) = 0))) => ?_⟩
          ·
            refine ⟨_, rfl, (by decide), ?_⟩
            have r209 : 0 ≤ (J 235 12) ∧ (J 235 12) ≤ 19400000 := (by omega)
            refine ⟨_, rfl, (by decide), ?_⟩
            have n211 : (wr ((J 235 12) + 1)) = (J 235 12) + 1 := wr_id (show -2147483648 ≤ ((J 235 12) + 1 : Int) ∧ ((J 235 12) + 1 : Int) < 2147483648 from by omega)
            have p212 : (0 : Int) ≤ (wr ((J 235 12) + 1)) ∧ ((wr ((J 235 12) + 1)) : Int) ≤ 20000000 := by first | omega | (simp only [wr, wl] at *; omega)
            refine ⟨⟨_, rfl, (by decide)⟩, ?_⟩
            have r213 : 0 ≤ (J 235 16) ∧ (J 235 16) ≤ 19400000 := (by omega)
            refine r_tick9  hF (Rg.u hJ (Pr_x12 p212)) (RR9_f hq ((uJ_ne (show ¬ 11 = 12 from Nat.ne_of_beq_eq_false rfl)).trans (hV 235 11 (by first | decide | omega))) (fun j => (uI_o (show ¬ (236 = 235 ∧ j = 12) from fun e => absurd e.1 (Nat.ne_of_beq_eq_false rfl))).trans (hV 236 j (by omega)))) (show 0 ≤ (wr ((J 235 12) + 1)) from by first | with_reducible assumption | omega | (simp only [wr, wl] at *; omega)) (show 0 ≤ (J 235 16) ∧ (J 235 16) ≤ 19999999 from by first | omega | (simp only [wr, wl] at *; omega)) (fun I215 hR216 hA217 hW218 q219 qr220 => ?_)
            have q219 : (I215 235 16) = (J 235 16) + 1 := q219
            have n221 : (wr (k + 1)) = k + 1 := wr_id (show -2147483648 ≤ (k + 1 : Int) ∧ (k + 1 : Int) < 2147483648 from by omega)
            have r222 : 0 ≤ (J 235 13) ∧ (J 235 13) ≤ 1 := (by omega)
            have r224 : 0 ≤ (J 235 17) ∧ (J 235 17) ≤ 19400000 := (by omega)
            have r226 : 0 ≤ (J 235 18) ∧ (J 235 18) ≤ 24 := (by omega)
            exact ih tm (wr (k + 1)) I215 hR216 (fun ka ja hk => ((hW218 ka ja (by omega))).trans (((uI_o (show ¬ (ka = 235 ∧ ja = 12) from by first | (intro e; obtain ⟨rfl, rfl⟩ := e; exact hk (by decide)) | omega))).trans ((hV ka ja (by omega))))) (show (tm : Int) ≤ 300000 from by first | with_reducible assumption | omega | (simp only [wr, wl] at *; omega)) (show (0 : Int) ≤ (wr (k + 1)) from by first | with_reducible assumption | omega | (simp only [wr, wl] at *; omega)) (show ((wr (k + 1)) : Int) ≤ 300000 from by first | with_reducible assumption | omega | (simp only [wr, wl] at *; omega)) ((by
                              have hs : (il = 1 ∨ U 0 2 = 0) ∧ wtF ld v0 v1 U := ⟨by omega, ⟨fun e => absurd e (by omega), fun e => (by omega)⟩⟩
                              rw [show Int.toNat (tm - k) = Int.toNat (tm - (wr (k + 1))) + 1 from by omega, prtF_s hs] at hTT
                              exact ⟨onc ld P il v0 U, MR_t (M := (uI J 235 12 (wr ((J 235 12) + 1)))) (N := I215) (J := J) hil hW hU (show (wr ((J 235 12) + 1)) = xxF P v0 U from by have k1 := mvF_c (P := P) (act := v0) (h := U 0 4); have k2 := xxF_c (P := P) (act := v0) (S := U); omega) (show (J 235 13) = U 0 1 from by omega) (show (J 235 14) = il from by omega) (show (J 235 15) = U 0 2 from by omega) (show (J 235 16) = U 0 3 from by omega) (show (J 235 17) = hoF v0 U from by have k4 := hoF_c (act := v0) (S := U); omega) (MR_o (ld := ld) (P := P) (act := v0) (M := (uI J 235 12 (wr ((J 235 12) + 1)))) hU (by omega) (uJ_ne (show ¬ 18 = 12 from Nat.ne_of_beq_eq_false rfl)) (fun i => ⟨uI_o (show ¬ (243 = 235 ∧ i = 12) from fun e => absurd e.1 (Nat.ne_of_beq_eq_false rfl)), uI_o (show ¬ (244 = 235 ∧ i = 12) from fun e => absurd e.1 (Nat.ne_of_beq_eq_false rfl))⟩)).1 (MR_o (ld := ld) (P := P) (act := v0) (M := (uI J 235 12 (wr ((J 235 12) + 1)))) hU (by omega) (uJ_ne (show ¬ 18 = 12 from Nat.ne_of_beq_eq_false rfl)) (fun i => ⟨uI_o (show ¬ (243 = 235 ∧ i = 12) from fun e => absurd e.1 (Nat.ne_of_beq_eq_false rfl)), uI_o (show ¬ (244 = 235 ∧ i = 12) from fun e => absurd e.1 (Nat.ne_of_beq_eq_false rfl))⟩)).2 (fun j => uI_o (show ¬ (242 = 235 ∧ j = 12) from fun e => absurd e.1 (Nat.ne_of_beq_eq_false rfl))) (hW218 235 12 (by first | decide | omega)) (hW218 235 14 (by first | decide | omega)) (hW218 235 17 (by first | decide | omega)) (hW218 235 18 (by first | decide | omega)) (fun i => ⟨hW218 243 i (by omega), hW218 244 i (by omega)⟩) qr220, WS_o hW, (show U 0 3 + 1 ≤ B + (wr (k + 1)) from by omega), hTT⟩)) (show (tm - (wr (k + 1))).toNat < mz from by omega)
          ·
            refine ⟨fun (c228 : ((v0 : Int) = 1)) => ?_, fun (c228 : (¬ ((v0 : Int) = 1))) => ?_⟩
            ·
              refine ⟨⟨_, rfl, (by decide)⟩, ?_⟩
              have r229 : 0 ≤ (J 235 12) ∧ (J 235 12) ≤ 19400000 := (by omega)
              refine r_ld9  hF hJ (RR9_f hq (hV 235 11 (by first | decide | omega)) (fun j => hV 236 j (by omega))) (show 0 ≤ (J 235 12) from by first | with_reducible assumption | omega | (simp only [wr, wl] at *; omega)) (fun vr231 hr232 qr233 => ?_)
              have hr232 : -2147483648 ≤ vr231 ∧ vr231 < 2147483648 := hr232
              have r234 : 0 ≤ (J 235 13) ∧ (J 235 13) ≤ 1 := (by omega)
              have hl235 : ((J 235 13) = 0 → vr231 = ld (J 235 12)) ∧ (¬ (J 235 13) = 0 → vr231 = 0) := qr233
              refine ⟨fun (c236 : ((vr231 : Int) < v1)) => ?_, fun (c236 : (¬ ((vr231 : Int) < v1))) => ?_⟩
              ·
                refine ⟨_, rfl, (by decide), ?_⟩
                refine ⟨_, rfl, (by decide), ?_⟩
                have n237 : (wr ((J 235 12) + 1)) = (J 235 12) + 1 := wr_id (show -2147483648 ≤ ((J 235 12) + 1 : Int) ∧ ((J 235 12) + 1 : Int) < 2147483648 from by omega)
                have p238 : (0 : Int) ≤ (wr ((J 235 12) + 1)) ∧ ((wr ((J 235 12) + 1)) : Int) ≤ 20000000 := by first | omega | (simp only [wr, wl] at *; omega)
                refine ⟨⟨_, rfl, (by decide)⟩, ?_⟩
                have r239 : 0 ≤ (J 235 16) ∧ (J 235 16) ≤ 19400000 := (by omega)
                refine r_tick9  hF (Rg.u hJ (Pr_x12 p238)) (RR9_f hq ((uJ_ne (show ¬ 11 = 12 from Nat.ne_of_beq_eq_false rfl)).trans (hV 235 11 (by first | decide | omega))) (fun j => (uI_o (show ¬ (236 = 235 ∧ j = 12) from fun e => absurd e.1 (Nat.ne_of_beq_eq_false rfl))).trans (hV 236 j (by omega)))) (show 0 ≤ (wr ((J 235 12) + 1)) from by first | with_reducible assumption | omega | (simp only [wr, wl] at *; omega)) (show 0 ≤ (J 235 16) ∧ (J 235 16) ≤ 19999999 from by first | omega | (simp only [wr, wl] at *; omega)) (fun I241 hR242 hA243 hW244 q245 qr246 => ?_)
                have q245 : (I241 235 16) = (J 235 16) + 1 := q245
                have n247 : (wr (k + 1)) = k + 1 := wr_id (show -2147483648 ≤ (k + 1 : Int) ∧ (k + 1 : Int) < 2147483648 from by omega)
                have r249 : 0 ≤ (J 235 17) ∧ (J 235 17) ≤ 19400000 := (by omega)
                have r251 : 0 ≤ (J 235 18) ∧ (J 235 18) ≤ 24 := (by omega)
                exact ih tm (wr (k + 1)) I241 hR242 (fun ka ja hk => ((hW244 ka ja (by omega))).trans (((uI_o (show ¬ (ka = 235 ∧ ja = 12) from by first | (intro e; obtain ⟨rfl, rfl⟩ := e; exact hk (by decide)) | omega))).trans ((hV ka ja (by omega))))) (show (tm : Int) ≤ 300000 from by first | with_reducible assumption | omega | (simp only [wr, wl] at *; omega)) (show (0 : Int) ≤ (wr (k + 1)) from by first | with_reducible assumption | omega | (simp only [wr, wl] at *; omega)) (show ((wr (k + 1)) : Int) ≤ 300000 from by first | with_reducible assumption | omega | (simp only [wr, wl] at *; omega)) ((by
                              have hs : (il = 1 ∨ U 0 2 = 0) ∧ wtF ld v0 v1 U := ⟨by omega, ⟨fun _ => (by
                              by_cases b : U 0 1 = 1
                              · rw [if_pos b]; have y := hl235.2 (by omega); omega
                              · rw [if_neg b, ← m12]; have y := hl235.1 (by omega); omega), fun e => absurd e (by omega)⟩⟩
                              rw [show Int.toNat (tm - k) = Int.toNat (tm - (wr (k + 1))) + 1 from by omega, prtF_s hs] at hTT
                              exact ⟨onc ld P il v0 U, MR_t (M := (uI J 235 12 (wr ((J 235 12) + 1)))) (N := I241) (J := J) hil hW hU (show (wr ((J 235 12) + 1)) = xxF P v0 U from by have k1 := mvF_c (P := P) (act := v0) (h := U 0 4); have k2 := xxF_c (P := P) (act := v0) (S := U); omega) (show (J 235 13) = U 0 1 from by omega) (show (J 235 14) = il from by omega) (show (J 235 15) = U 0 2 from by omega) (show (J 235 16) = U 0 3 from by omega) (show (J 235 17) = hoF v0 U from by have k4 := hoF_c (act := v0) (S := U); omega) (MR_o (ld := ld) (P := P) (act := v0) (M := (uI J 235 12 (wr ((J 235 12) + 1)))) hU (by omega) (uJ_ne (show ¬ 18 = 12 from Nat.ne_of_beq_eq_false rfl)) (fun i => ⟨uI_o (show ¬ (243 = 235 ∧ i = 12) from fun e => absurd e.1 (Nat.ne_of_beq_eq_false rfl)), uI_o (show ¬ (244 = 235 ∧ i = 12) from fun e => absurd e.1 (Nat.ne_of_beq_eq_false rfl))⟩)).1 (MR_o (ld := ld) (P := P) (act := v0) (M := (uI J 235 12 (wr ((J 235 12) + 1)))) hU (by omega) (uJ_ne (show ¬ 18 = 12 from Nat.ne_of_beq_eq_false rfl)) (fun i => ⟨uI_o (show ¬ (243 = 235 ∧ i = 12) from fun e => absurd e.1 (Nat.ne_of_beq_eq_false rfl)), uI_o (show ¬ (244 = 235 ∧ i = 12) from fun e => absurd e.1 (Nat.ne_of_beq_eq_false rfl))⟩)).2 (fun j => uI_o (show ¬ (242 = 235 ∧ j = 12) from fun e => absurd e.1 (Nat.ne_of_beq_eq_false rfl))) (hW244 235 12 (by first | decide | omega)) (hW244 235 14 (by first | decide | omega)) (hW244 235 17 (by first | decide | omega)) (hW244 235 18 (by first | decide | omega)) (fun i => ⟨hW244 243 i (by omega), hW244 244 i (by omega)⟩) qr246, WS_o hW, (show U 0 3 + 1 ≤ B + (wr (k + 1)) from by omega), hTT⟩)) (show (tm - (wr (k + 1))).toNat < mz from by omega)
              ·
                exact ⟨rfl, hQ _ hJ (fun ka ja hk => (hV ka ja (by omega))) ((by
                              have hn : ¬ ((il = 1 ∨ U 0 2 = 0) ∧ wtF ld v0 v1 U) := fun z => by
                                have y := z.2.1 (by omega)
                                by_cases b : U 0 1 = 1
                                · rw [if_pos b] at y; have q := hl235.2 (by omega); omega
                                · rw [if_neg b, ← m12] at y; have q := hl235.1 (by omega); omega
                              exact ((prtF_e (Or.inr hn)).symm.trans hTT) ▸ hU))⟩
            ·
              refine ⟨fun (c253 : ((v0 : Int) = 2)) => ?_, fun (c253 : (¬ ((v0 : Int) = 2))) => ?_⟩
              ·
                refine ⟨_, rfl, (by decide), ?_⟩
                have r254 : 0 ≤ (J 235 17) ∧ (J 235 17) ≤ 19400000 := (by omega)
                refine ⟨_, rfl, (by decide), ?_⟩
                refine ⟨_, rfl, (by decide), ?_⟩
                have r255 : 0 ≤ (J 235 12) ∧ (J 235 12) ≤ 19400000 := (by omega)
                refine ⟨_, rfl, (by decide), ?_⟩
                have r256 : 0 ≤ (I 235 11) ∧ (I 235 11) ≤ 13 := Rg.f11 hR
                have u257 : (J 235 11) = (I 235 11) := hV _ _ (by first | decide | omega)
                have a258 : -2147483648 ≤ (J 235 11) ∧ (J 235 11) < 2147483648 := hA.1 _ _
                have r259 : 0 ≤ (J 235 11) ∧ (J 235 11) ≤ 13 := Rg.f11 hJ
                refine ⟨⟨_, rfl, (by decide)⟩, ?_⟩
                refine r_of (p := (J 235 11)) (f := 0) hF (j := (Int.toNat (304 + 66 * (J 235 11)))) (by omega) (by omega) (by omega) (fun w260 hw261 => ?_)
                have r262 : 0 ≤ (I 236 (Int.toNat (304 + 66 * (J 235 11)))) ∧ (I 236 (Int.toNat (304 + 66 * (J 235 11)))) ≤ 5 := Pn_p0 (p := (Int.toNat (J 235 11))) (by omega) (by omega) (hR.n (Int.toNat (304 + 66 * (J 235 11))) (by omega))
                have u263 : (J 236 (Int.toNat (304 + 66 * (J 235 11)))) = (I 236 (Int.toNat (304 + 66 * (J 235 11)))) := hV _ _ (by first | decide | omega)
                have a264 : -2147483648 ≤ (J 236 (Int.toNat (304 + 66 * (J 235 11)))) ∧ (J 236 (Int.toNat (304 + 66 * (J 235 11)))) < 2147483648 := hA.1 _ _
                have r265 : 0 ≤ (J 236 (Int.toNat (304 + 66 * (J 235 11)))) ∧ (J 236 (Int.toNat (304 + 66 * (J 235 11)))) ≤ 5 := Pn_p0 (p := (Int.toNat (J 235 11))) (by omega) (by omega) (hJ.n (Int.toNat (304 + 66 * (J 235 11))) (by omega))
                have hw261 : w260 = (J 236 (Int.toNat (304 + 66 * (J 235 11)))) := hw261
                refine ⟨fun (c267 : (¬ (w260 : Int) = 3)) => ?_, fun (c267 : ((w260 : Int) = 3)) => ?_⟩
                ·
                  refine ⟨_, rfl, (by decide), ?_⟩
                  have n269 : (wr ((J 235 12) + 0)) = (J 235 12) + 0 := wr_id (show -2147483648 ≤ ((J 235 12) + 0 : Int) ∧ ((J 235 12) + 0 : Int) < 2147483648 from by omega)
                  have p270 : (0 : Int) ≤ (wr ((J 235 12) + 0)) ∧ ((wr ((J 235 12) + 0)) : Int) ≤ 20000000 := by first | omega | (simp only [wr, wl] at *; omega)
                  refine ⟨⟨_, rfl, (by decide)⟩, ?_⟩
                  have r271 : 0 ≤ (J 235 16) ∧ (J 235 16) ≤ 19400000 := (by omega)
                  refine r_tick9  hF (Rg.u (Rg.u hJ (Pr_f rfl)) (Pr_x12 p270)) (RR9_f hq ((uJ_ne (show ¬ 11 = 12 from Nat.ne_of_beq_eq_false rfl)).trans ((uJ_ne (show ¬ 11 = 17 from Nat.ne_of_beq_eq_false rfl)).trans (hV 235 11 (by first | decide | omega)))) (fun j => (uI_o (show ¬ (236 = 235 ∧ j = 12) from fun e => absurd e.1 (Nat.ne_of_beq_eq_false rfl))).trans ((uI_o (show ¬ (236 = 235 ∧ j = 17) from fun e => absurd e.1 (Nat.ne_of_beq_eq_false rfl))).trans (hV 236 j (by omega))))) (show 0 ≤ (wr ((J 235 12) + 0)) from by first | with_reducible assumption | omega | (simp only [wr, wl] at *; omega)) (show 0 ≤ (J 235 16) ∧ (J 235 16) ≤ 19999999 from by first | omega | (simp only [wr, wl] at *; omega)) (fun I273 hR274 hA275 hW276 q277 qr278 => ?_)
                  have q277 : (I273 235 16) = (J 235 16) + 1 := q277
                  have n279 : (wr (k + 1)) = k + 1 := wr_id (show -2147483648 ≤ (k + 1 : Int) ∧ (k + 1 : Int) < 2147483648 from by omega)
                  have r280 : 0 ≤ (J 235 13) ∧ (J 235 13) ≤ 1 := (by omega)
                  have n283 : (wr ((J 235 17) + 1)) = (J 235 17) + 1 := wr_id (show -2147483648 ≤ ((J 235 17) + 1 : Int) ∧ ((J 235 17) + 1 : Int) < 2147483648 from by omega)
                  have r284 : 0 ≤ (J 235 18) ∧ (J 235 18) ≤ 24 := (by omega)
                  exact ih tm (wr (k + 1)) I273 hR274 (fun ka ja hk => ((hW276 ka ja (by omega))).trans (((uI_o (show ¬ (ka = 235 ∧ ja = 12) from by first | (intro e; obtain ⟨rfl, rfl⟩ := e; exact hk (by decide)) | omega))).trans (((uI_o (show ¬ (ka = 235 ∧ ja = 17) from by first | (intro e; obtain ⟨rfl, rfl⟩ := e; exact hk (by decide)) | omega))).trans ((hV ka ja (by omega)))))) (show (tm : Int) ≤ 300000 from by first | with_reducible assumption | omega | (simp only [wr, wl] at *; omega)) (show (0 : Int) ≤ (wr (k + 1)) from by first | with_reducible assumption | omega | (simp only [wr, wl] at *; omega)) (show ((wr (k + 1)) : Int) ≤ 300000 from by first | with_reducible assumption | omega | (simp only [wr, wl] at *; omega)) ((by
                              have hs : (il = 1 ∨ U 0 2 = 0) ∧ wtF ld v0 v1 U := ⟨by omega, ⟨fun e => absurd e (by omega), fun e => (by omega)⟩⟩
                              rw [show Int.toNat (tm - k) = Int.toNat (tm - (wr (k + 1))) + 1 from by omega, prtF_s hs] at hTT
                              exact ⟨onc ld P il v0 U, MR_t (M := (uI (uI J 235 17 (wr ((J 235 17) + 1))) 235 12 (wr ((J 235 12) + 0)))) (N := I273) (J := J) hil hW hU (show (wr ((J 235 12) + 0)) = xxF P v0 U from by have k1 := mvF_c (P := P) (act := v0) (h := U 0 4); have k2 := xxF_c (P := P) (act := v0) (S := U); omega) (show (J 235 13) = U 0 1 from by omega) (show (J 235 14) = il from by omega) (show (J 235 15) = U 0 2 from by omega) (show (J 235 16) = U 0 3 from by omega) (show (wr ((J 235 17) + 1)) = hoF v0 U from by have k4 := hoF_c (act := v0) (S := U); omega) (MR_o (ld := ld) (P := P) (act := v0) (M := (uI (uI J 235 17 (wr ((J 235 17) + 1))) 235 12 (wr ((J 235 12) + 0)))) hU (by omega) ((uJ_ne (show ¬ 18 = 12 from Nat.ne_of_beq_eq_false rfl)).trans (uJ_ne (show ¬ 18 = 17 from Nat.ne_of_beq_eq_false rfl))) (fun i => ⟨(uI_o (show ¬ (243 = 235 ∧ i = 12) from fun e => absurd e.1 (Nat.ne_of_beq_eq_false rfl))).trans (uI_o (show ¬ (243 = 235 ∧ i = 17) from fun e => absurd e.1 (Nat.ne_of_beq_eq_false rfl))), (uI_o (show ¬ (244 = 235 ∧ i = 12) from fun e => absurd e.1 (Nat.ne_of_beq_eq_false rfl))).trans (uI_o (show ¬ (244 = 235 ∧ i = 17) from fun e => absurd e.1 (Nat.ne_of_beq_eq_false rfl)))⟩)).1 (MR_o (ld := ld) (P := P) (act := v0) (M := (uI (uI J 235 17 (wr ((J 235 17) + 1))) 235 12 (wr ((J 235 12) + 0)))) hU (by omega) ((uJ_ne (show ¬ 18 = 12 from Nat.ne_of_beq_eq_false rfl)).trans (uJ_ne (show ¬ 18 = 17 from Nat.ne_of_beq_eq_false rfl))) (fun i => ⟨(uI_o (show ¬ (243 = 235 ∧ i = 12) from fun e => absurd e.1 (Nat.ne_of_beq_eq_false rfl))).trans (uI_o (show ¬ (243 = 235 ∧ i = 17) from fun e => absurd e.1 (Nat.ne_of_beq_eq_false rfl))), (uI_o (show ¬ (244 = 235 ∧ i = 12) from fun e => absurd e.1 (Nat.ne_of_beq_eq_false rfl))).trans (uI_o (show ¬ (244 = 235 ∧ i = 17) from fun e => absurd e.1 (Nat.ne_of_beq_eq_false rfl)))⟩)).2 (fun j => (uI_o (show ¬ (242 = 235 ∧ j = 12) from fun e => absurd e.1 (Nat.ne_of_beq_eq_false rfl))).trans (uI_o (show ¬ (242 = 235 ∧ j = 17) from fun e => absurd e.1 (Nat.ne_of_beq_eq_false rfl)))) (hW276 235 12 (by first | decide | omega)) (hW276 235 14 (by first | decide | omega)) (hW276 235 17 (by first | decide | omega)) (hW276 235 18 (by first | decide | omega)) (fun i => ⟨hW276 243 i (by omega), hW276 244 i (by omega)⟩) qr278, WS_o hW, (show U 0 3 + 1 ≤ B + (wr (k + 1)) from by omega), hTT⟩)) (show (tm - (wr (k + 1))).toNat < mz from by omega)
                ·
                  refine ⟨_, rfl, (by decide), ?_⟩
                  refine ⟨(by decide), ?_⟩
                  have n287 : (wr ((J 235 17) + 1)) = (J 235 17) + 1 := wr_id (show -2147483648 ≤ ((J 235 17) + 1 : Int) ∧ ((J 235 17) + 1 : Int) < 2147483648 from by omega)
                  have n288 : (Int.tmod (wr ((J 235 17) + 1)) 5) = ((wr ((J 235 17) + 1)) : Int) % 5 := Int.tmod_eq_emod_of_nonneg (by omega)
                  refine ⟨fun (c289 : (¬ ((Int.tmod (wr ((J 235 17) + 1)) 5) : Int) = 0)) => ?_, fun (c289 : (((Int.tmod (wr ((J 235 17) + 1)) 5) : Int) = 0)) => ?_⟩
                  ·
                    refine ⟨_, rfl, (by decide), ?_⟩
                    have n291 : (wr ((J 235 12) + 0)) = (J 235 12) + 0 := wr_id (show -2147483648 ≤ ((J 235 12) + 0 : Int) ∧ ((J 235 12) + 0 : Int) < 2147483648 from by omega)
                    have p292 : (0 : Int) ≤ (wr ((J 235 12) + 0)) ∧ ((wr ((J 235 12) + 0)) : Int) ≤ 20000000 := by first | omega | (simp only [wr, wl] at *; omega)
                    refine ⟨⟨_, rfl, (by decide)⟩, ?_⟩
                    have r293 : 0 ≤ (J 235 16) ∧ (J 235 16) ≤ 19400000 := (by omega)
                    refine r_tick9  hF (Rg.u (Rg.u hJ (Pr_f rfl)) (Pr_x12 p292)) (RR9_f hq ((uJ_ne (show ¬ 11 = 12 from Nat.ne_of_beq_eq_false rfl)).trans ((uJ_ne (show ¬ 11 = 17 from Nat.ne_of_beq_eq_false rfl)).trans (hV 235 11 (by first | decide | omega)))) (fun j => (uI_o (show ¬ (236 = 235 ∧ j = 12) from fun e => absurd e.1 (Nat.ne_of_beq_eq_false rfl))).trans ((uI_o (show ¬ (236 = 235 ∧ j = 17) from fun e => absurd e.1 (Nat.ne_of_beq_eq_false rfl))).trans (hV 236 j (by omega))))) (show 0 ≤ (wr ((J 235 12) + 0)) from by first | with_reducible assumption | omega | (simp only [wr, wl] at *; omega)) (show 0 ≤ (J 235 16) ∧ (J 235 16) ≤ 19999999 from by first | omega | (simp only [wr, wl] at *; omega)) (fun I295 hR296 hA297 hW298 q299 qr300 => ?_)
                    have q299 : (I295 235 16) = (J 235 16) + 1 := q299
                    have n301 : (wr (k + 1)) = k + 1 := wr_id (show -2147483648 ≤ (k + 1 : Int) ∧ (k + 1 : Int) < 2147483648 from by omega)
                    have r302 : 0 ≤ (J 235 13) ∧ (J 235 13) ≤ 1 := (by omega)
                    have r304 : 0 ≤ (J 235 18) ∧ (J 235 18) ≤ 24 := (by omega)
                    exact ih tm (wr (k + 1)) I295 hR296 (fun ka ja hk => ((hW298 ka ja (by omega))).trans (((uI_o (show ¬ (ka = 235 ∧ ja = 12) from by first | (intro e; obtain ⟨rfl, rfl⟩ := e; exact hk (by decide)) | omega))).trans (((uI_o (show ¬ (ka = 235 ∧ ja = 17) from by first | (intro e; obtain ⟨rfl, rfl⟩ := e; exact hk (by decide)) | omega))).trans ((hV ka ja (by omega)))))) (show (tm : Int) ≤ 300000 from by first | with_reducible assumption | omega | (simp only [wr, wl] at *; omega)) (show (0 : Int) ≤ (wr (k + 1)) from by first | with_reducible assumption | omega | (simp only [wr, wl] at *; omega)) (show ((wr (k + 1)) : Int) ≤ 300000 from by first | with_reducible assumption | omega | (simp only [wr, wl] at *; omega)) ((by
                              have hs : (il = 1 ∨ U 0 2 = 0) ∧ wtF ld v0 v1 U := ⟨by omega, ⟨fun e => absurd e (by omega), fun e => (by omega)⟩⟩
                              rw [show Int.toNat (tm - k) = Int.toNat (tm - (wr (k + 1))) + 1 from by omega, prtF_s hs] at hTT
                              exact ⟨onc ld P il v0 U, MR_t (M := (uI (uI J 235 17 (wr ((J 235 17) + 1))) 235 12 (wr ((J 235 12) + 0)))) (N := I295) (J := J) hil hW hU (show (wr ((J 235 12) + 0)) = xxF P v0 U from by have k1 := mvF_c (P := P) (act := v0) (h := U 0 4); have k2 := xxF_c (P := P) (act := v0) (S := U); omega) (show (J 235 13) = U 0 1 from by omega) (show (J 235 14) = il from by omega) (show (J 235 15) = U 0 2 from by omega) (show (J 235 16) = U 0 3 from by omega) (show (wr ((J 235 17) + 1)) = hoF v0 U from by have k4 := hoF_c (act := v0) (S := U); omega) (MR_o (ld := ld) (P := P) (act := v0) (M := (uI (uI J 235 17 (wr ((J 235 17) + 1))) 235 12 (wr ((J 235 12) + 0)))) hU (by omega) ((uJ_ne (show ¬ 18 = 12 from Nat.ne_of_beq_eq_false rfl)).trans (uJ_ne (show ¬ 18 = 17 from Nat.ne_of_beq_eq_false rfl))) (fun i => ⟨(uI_o (show ¬ (243 = 235 ∧ i = 12) from fun e => absurd e.1 (Nat.ne_of_beq_eq_false rfl))).trans (uI_o (show ¬ (243 = 235 ∧ i = 17) from fun e => absurd e.1 (Nat.ne_of_beq_eq_false rfl))), (uI_o (show ¬ (244 = 235 ∧ i = 12) from fun e => absurd e.1 (Nat.ne_of_beq_eq_false rfl))).trans (uI_o (show ¬ (244 = 235 ∧ i = 17) from fun e => absurd e.1 (Nat.ne_of_beq_eq_false rfl)))⟩)).1 (MR_o (ld := ld) (P := P) (act := v0) (M := (uI (uI J 235 17 (wr ((J 235 17) + 1))) 235 12 (wr ((J 235 12) + 0)))) hU (by omega) ((uJ_ne (show ¬ 18 = 12 from Nat.ne_of_beq_eq_false rfl)).trans (uJ_ne (show ¬ 18 = 17 from Nat.ne_of_beq_eq_false rfl))) (fun i => ⟨(uI_o (show ¬ (243 = 235 ∧ i = 12) from fun e => absurd e.1 (Nat.ne_of_beq_eq_false rfl))).trans (uI_o (show ¬ (243 = 235 ∧ i = 17) from fun e => absurd e.1 (Nat.ne_of_beq_eq_false rfl))), (uI_o (show ¬ (244 = 235 ∧ i = 12) from fun e => absurd e.1 (Nat.ne_of_beq_eq_false rfl))).trans (uI_o (show ¬ (244 = 235 ∧ i = 17) from fun e => absurd e.1 (Nat.ne_of_beq_eq_false rfl)))⟩)).2 (fun j => (uI_o (show ¬ (242 = 235 ∧ j = 12) from fun e => absurd e.1 (Nat.ne_of_beq_eq_false rfl))).trans (uI_o (show ¬ (242 = 235 ∧ j = 17) from fun e => absurd e.1 (Nat.ne_of_beq_eq_false rfl)))) (hW298 235 12 (by first | decide | omega)) (hW298 235 14 (by first | decide | omega)) (hW298 235 17 (by first | decide | omega)) (hW298 235 18 (by first | decide | omega)) (fun i => ⟨hW298 243 i (by omega), hW298 244 i (by omega)⟩) qr300, WS_o hW, (show U 0 3 + 1 ≤ B + (wr (k + 1)) from by omega), hTT⟩)) (show (tm - (wr (k + 1))).toNat < mz from by omega)
                  ·
                    refine ⟨_, rfl, (by decide), ?_⟩
                    have n307 : (wr ((J 235 12) + 1)) = (J 235 12) + 1 := wr_id (show -2147483648 ≤ ((J 235 12) + 1 : Int) ∧ ((J 235 12) + 1 : Int) < 2147483648 from by omega)
                    have p308 : (0 : Int) ≤ (wr ((J 235 12) + 1)) ∧ ((wr ((J 235 12) + 1)) : Int) ≤ 20000000 := by first | omega | (simp only [wr, wl] at *; omega)
                    refine ⟨⟨_, rfl, (by decide)⟩, ?_⟩
                    have r309 : 0 ≤ (J 235 16) ∧ (J 235 16) ≤ 19400000 := (by omega)
                    refine r_tick9  hF (Rg.u (Rg.u hJ (Pr_f rfl)) (Pr_x12 p308)) (RR9_f hq ((uJ_ne (show ¬ 11 = 12 from Nat.ne_of_beq_eq_false rfl)).trans ((uJ_ne (show ¬ 11 = 17 from Nat.ne_of_beq_eq_false rfl)).trans (hV 235 11 (by first | decide | omega)))) (fun j => (uI_o (show ¬ (236 = 235 ∧ j = 12) from fun e => absurd e.1 (Nat.ne_of_beq_eq_false rfl))).trans ((uI_o (show ¬ (236 = 235 ∧ j = 17) from fun e => absurd e.1 (Nat.ne_of_beq_eq_false rfl))).trans (hV 236 j (by omega))))) (show 0 ≤ (wr ((J 235 12) + 1)) from by first | with_reducible assumption | omega | (simp only [wr, wl] at *; omega)) (show 0 ≤ (J 235 16) ∧ (J 235 16) ≤ 19999999 from by first | omega | (simp only [wr, wl] at *; omega)) (fun I311 hR312 hA313 hW314 q315 qr316 => ?_)
                    have q315 : (I311 235 16) = (J 235 16) + 1 := q315
                    have n317 : (wr (k + 1)) = k + 1 := wr_id (show -2147483648 ≤ (k + 1 : Int) ∧ (k + 1 : Int) < 2147483648 from by omega)
                    have r318 : 0 ≤ (J 235 13) ∧ (J 235 13) ≤ 1 := (by omega)
                    have r320 : 0 ≤ (J 235 18) ∧ (J 235 18) ≤ 24 := (by omega)
                    exact ih tm (wr (k + 1)) I311 hR312 (fun ka ja hk => ((hW314 ka ja (by omega))).trans (((uI_o (show ¬ (ka = 235 ∧ ja = 12) from by first | (intro e; obtain ⟨rfl, rfl⟩ := e; exact hk (by decide)) | omega))).trans (((uI_o (show ¬ (ka = 235 ∧ ja = 17) from by first | (intro e; obtain ⟨rfl, rfl⟩ := e; exact hk (by decide)) | omega))).trans ((hV ka ja (by omega)))))) (show (tm : Int) ≤ 300000 from by first | with_reducible assumption | omega | (simp only [wr, wl] at *; omega)) (show (0 : Int) ≤ (wr (k + 1)) from by first | with_reducible assumption | omega | (simp only [wr, wl] at *; omega)) (show ((wr (k + 1)) : Int) ≤ 300000 from by first | with_reducible assumption | omega | (simp only [wr, wl] at *; omega)) ((by
                              have hs : (il = 1 ∨ U 0 2 = 0) ∧ wtF ld v0 v1 U := ⟨by omega, ⟨fun e => absurd e (by omega), fun e => (by omega)⟩⟩
                              rw [show Int.toNat (tm - k) = Int.toNat (tm - (wr (k + 1))) + 1 from by omega, prtF_s hs] at hTT
                              exact ⟨onc ld P il v0 U, MR_t (M := (uI (uI J 235 17 (wr ((J 235 17) + 1))) 235 12 (wr ((J 235 12) + 1)))) (N := I311) (J := J) hil hW hU (show (wr ((J 235 12) + 1)) = xxF P v0 U from by have k1 := mvF_c (P := P) (act := v0) (h := U 0 4); have k2 := xxF_c (P := P) (act := v0) (S := U); omega) (show (J 235 13) = U 0 1 from by omega) (show (J 235 14) = il from by omega) (show (J 235 15) = U 0 2 from by omega) (show (J 235 16) = U 0 3 from by omega) (show (wr ((J 235 17) + 1)) = hoF v0 U from by have k4 := hoF_c (act := v0) (S := U); omega) (MR_o (ld := ld) (P := P) (act := v0) (M := (uI (uI J 235 17 (wr ((J 235 17) + 1))) 235 12 (wr ((J 235 12) + 1)))) hU (by omega) ((uJ_ne (show ¬ 18 = 12 from Nat.ne_of_beq_eq_false rfl)).trans (uJ_ne (show ¬ 18 = 17 from Nat.ne_of_beq_eq_false rfl))) (fun i => ⟨(uI_o (show ¬ (243 = 235 ∧ i = 12) from fun e => absurd e.1 (Nat.ne_of_beq_eq_false rfl))).trans (uI_o (show ¬ (243 = 235 ∧ i = 17) from fun e => absurd e.1 (Nat.ne_of_beq_eq_false rfl))), (uI_o (show ¬ (244 = 235 ∧ i = 12) from fun e => absurd e.1 (Nat.ne_of_beq_eq_false rfl))).trans (uI_o (show ¬ (244 = 235 ∧ i = 17) from fun e => absurd e.1 (Nat.ne_of_beq_eq_false rfl)))⟩)).1 (MR_o (ld := ld) (P := P) (act := v0) (M := (uI (uI J 235 17 (wr ((J 235 17) + 1))) 235 12 (wr ((J 235 12) + 1)))) hU (by omega) ((uJ_ne (show ¬ 18 = 12 from Nat.ne_of_beq_eq_false rfl)).trans (uJ_ne (show ¬ 18 = 17 from Nat.ne_of_beq_eq_false rfl))) (fun i => ⟨(uI_o (show ¬ (243 = 235 ∧ i = 12) from fun e => absurd e.1 (Nat.ne_of_beq_eq_false rfl))).trans (uI_o (show ¬ (243 = 235 ∧ i = 17) from fun e => absurd e.1 (Nat.ne_of_beq_eq_false rfl))), (uI_o (show ¬ (244 = 235 ∧ i = 12) from fun e => absurd e.1 (Nat.ne_of_beq_eq_false rfl))).trans (uI_o (show ¬ (244 = 235 ∧ i = 17) from fun e => absurd e.1 (Nat.ne_of_beq_eq_false rfl)))⟩)).2 (fun j => (uI_o (show ¬ (242 = 235 ∧ j = 12) from fun e => absurd e.1 (Nat.ne_of_beq_eq_false rfl))).trans (uI_o (show ¬ (242 = 235 ∧ j = 17) from fun e => absurd e.1 (Nat.ne_of_beq_eq_false rfl)))) (hW314 235 12 (by first | decide | omega)) (hW314 235 14 (by first | decide | omega)) (hW314 235 17 (by first | decide | omega)) (hW314 235 18 (by first | decide | omega)) (fun i => ⟨hW314 243 i (by omega), hW314 244 i (by omega)⟩) qr316, WS_o hW, (show U 0 3 + 1 ≤ B + (wr (k + 1)) from by omega), hTT⟩)) (show (tm - (wr (k + 1))).toNat < mz from by omega)
              ·
                refine ⟨fun (c322 : ((v0 : Int) = 3)) => ?_, fun (c322 : (¬ ((v0 : Int) = 3))) => ?_⟩
                ·
                  refine ⟨_, rfl, (by decide), ?_⟩
                  have r323 : 0 ≤ (J 235 12) ∧ (J 235 12) ≤ 19400000 := (by omega)
                  have n325 : (wr ((J 235 12) - 1)) = (J 235 12) - 1 := wr_id (show -2147483648 ≤ ((J 235 12) - 1 : Int) ∧ ((J 235 12) - 1 : Int) < 2147483648 from by omega)
                  refine j_max (fun w326 h327 h328 h329 => ?_)
                  refine ⟨_, rfl, (by decide), ?_⟩
                  have p330 : (0 : Int) ≤ w326 ∧ (w326 : Int) ≤ 20000000 := by first | omega | (simp only [wr, wl] at *; omega)
                  refine ⟨⟨_, rfl, (by decide)⟩, ?_⟩
                  have r331 : 0 ≤ (J 235 16) ∧ (J 235 16) ≤ 19400000 := (by omega)
                  refine r_tick9  hF (Rg.u hJ (Pr_x12 p330)) (RR9_f hq ((uJ_ne (show ¬ 11 = 12 from Nat.ne_of_beq_eq_false rfl)).trans (hV 235 11 (by first | decide | omega))) (fun j => (uI_o (show ¬ (236 = 235 ∧ j = 12) from fun e => absurd e.1 (Nat.ne_of_beq_eq_false rfl))).trans (hV 236 j (by omega)))) (show 0 ≤ w326 from by first | with_reducible assumption | omega | (simp only [wr, wl] at *; omega)) (show 0 ≤ (J 235 16) ∧ (J 235 16) ≤ 19999999 from by first | omega | (simp only [wr, wl] at *; omega)) (fun I333 hR334 hA335 hW336 q337 qr338 => ?_)
                  have q337 : (I333 235 16) = (J 235 16) + 1 := q337
                  have n339 : (wr (k + 1)) = k + 1 := wr_id (show -2147483648 ≤ (k + 1 : Int) ∧ (k + 1 : Int) < 2147483648 from by omega)
                  have r340 : 0 ≤ (J 235 13) ∧ (J 235 13) ≤ 1 := (by omega)
                  have r342 : 0 ≤ (J 235 17) ∧ (J 235 17) ≤ 19400000 := (by omega)
                  have r344 : 0 ≤ (J 235 18) ∧ (J 235 18) ≤ 24 := (by omega)
                  exact ih tm (wr (k + 1)) I333 hR334 (fun ka ja hk => ((hW336 ka ja (by omega))).trans (((uI_o (show ¬ (ka = 235 ∧ ja = 12) from by first | (intro e; obtain ⟨rfl, rfl⟩ := e; exact hk (by decide)) | omega))).trans ((hV ka ja (by omega))))) (show (tm : Int) ≤ 300000 from by first | with_reducible assumption | omega | (simp only [wr, wl] at *; omega)) (show (0 : Int) ≤ (wr (k + 1)) from by first | with_reducible assumption | omega | (simp only [wr, wl] at *; omega)) (show ((wr (k + 1)) : Int) ≤ 300000 from by first | with_reducible assumption | omega | (simp only [wr, wl] at *; omega)) ((by
                              have hs : (il = 1 ∨ U 0 2 = 0) ∧ wtF ld v0 v1 U := ⟨by omega, ⟨fun e => absurd e (by omega), fun e => (by omega)⟩⟩
                              rw [show Int.toNat (tm - k) = Int.toNat (tm - (wr (k + 1))) + 1 from by omega, prtF_s hs] at hTT
                              exact ⟨onc ld P il v0 U, MR_t (M := (uI J 235 12 w326)) (N := I333) (J := J) hil hW hU (show w326 = xxF P v0 U from by have k1 := mvF_c (P := P) (act := v0) (h := U 0 4); have k2 := xxF_c (P := P) (act := v0) (S := U); omega) (show (J 235 13) = U 0 1 from by omega) (show (J 235 14) = il from by omega) (show (J 235 15) = U 0 2 from by omega) (show (J 235 16) = U 0 3 from by omega) (show (J 235 17) = hoF v0 U from by have k4 := hoF_c (act := v0) (S := U); omega) (MR_o (ld := ld) (P := P) (act := v0) (M := (uI J 235 12 w326)) hU (by omega) (uJ_ne (show ¬ 18 = 12 from Nat.ne_of_beq_eq_false rfl)) (fun i => ⟨uI_o (show ¬ (243 = 235 ∧ i = 12) from fun e => absurd e.1 (Nat.ne_of_beq_eq_false rfl)), uI_o (show ¬ (244 = 235 ∧ i = 12) from fun e => absurd e.1 (Nat.ne_of_beq_eq_false rfl))⟩)).1 (MR_o (ld := ld) (P := P) (act := v0) (M := (uI J 235 12 w326)) hU (by omega) (uJ_ne (show ¬ 18 = 12 from Nat.ne_of_beq_eq_false rfl)) (fun i => ⟨uI_o (show ¬ (243 = 235 ∧ i = 12) from fun e => absurd e.1 (Nat.ne_of_beq_eq_false rfl)), uI_o (show ¬ (244 = 235 ∧ i = 12) from fun e => absurd e.1 (Nat.ne_of_beq_eq_false rfl))⟩)).2 (fun j => uI_o (show ¬ (242 = 235 ∧ j = 12) from fun e => absurd e.1 (Nat.ne_of_beq_eq_false rfl))) (hW336 235 12 (by first | decide | omega)) (hW336 235 14 (by first | decide | omega)) (hW336 235 17 (by first | decide | omega)) (hW336 235 18 (by first | decide | omega)) (fun i => ⟨hW336 243 i (by omega), hW336 244 i (by omega)⟩) qr338, WS_o hW, (show U 0 3 + 1 ≤ B + (wr (k + 1)) from by omega), hTT⟩)) (show (tm - (wr (k + 1))).toNat < mz from by omega)
                ·
                  refine ⟨fun (c346 : ((v0 : Int) = 4)) => ?_, fun (c346 : (¬ ((v0 : Int) = 4))) => ?_⟩
                  ·
                    refine ⟨⟨_, rfl, (by decide)⟩, ?_⟩
                    have r347 : 0 ≤ (J 235 12) ∧ (J 235 12) ≤ 19400000 := (by omega)
                    have r349 : 0 ≤ (J 235 16) ∧ (J 235 16) ≤ 19400000 := (by omega)
                    refine r_take9  hF hJ (RR9_f hq (hV 235 11 (by first | decide | omega)) (fun j => hV 236 j (by omega))) (show 0 ≤ (J 235 12) from by first | with_reducible assumption | omega | (simp only [wr, wl] at *; omega)) (show 0 ≤ (J 235 16) ∧ (J 235 16) ≤ 19999999 from by first | omega | (simp only [wr, wl] at *; omega)) (fun I351 hR352 hA353 hW354 qr355 => ?_)
                    refine ⟨⟨_, rfl, (by decide)⟩, ?_⟩
                    have u356 : (I351 235 12) = (J 235 12) := hW354 _ _ (by first | decide | omega)
                    have a357 : -2147483648 ≤ (I351 235 12) ∧ (I351 235 12) < 2147483648 := hA353.1 _ _
                    have r358 : 0 ≤ (I351 235 12) ∧ (I351 235 12) ≤ 20000000 := Rg.f12 hR352
                    have u359 : (I351 235 16) = (J 235 16) := hW354 _ _ (by first | decide | omega)
                    have a360 : -2147483648 ≤ (I351 235 16) ∧ (I351 235 16) < 2147483648 := hA353.1 _ _
                    have r361 : 0 ≤ (I351 235 16) ∧ (I351 235 16) ≤ 20000000 := Rg.f16 hR352
                    refine r_tick9  hF hR352 (RR9_f hq ((hW354 235 11 (by first | decide | omega)).trans (hV 235 11 (by first | decide | omega))) (fun j => (hW354 236 j (by omega)).trans (hV 236 j (by omega)))) (show 0 ≤ (I351 235 12) from by first | with_reducible assumption | omega | (simp only [wr, wl] at *; omega)) (show 0 ≤ (I351 235 16) ∧ (I351 235 16) ≤ 19999999 from by first | omega | (simp only [wr, wl] at *; omega)) (fun I362 hR363 hA364 hW365 q366 qr367 => ?_)
                    have q366 : (I362 235 16) = (I351 235 16) + 1 := q366
                    have n368 : (wr (k + 1)) = k + 1 := wr_id (show -2147483648 ≤ (k + 1 : Int) ∧ (k + 1 : Int) < 2147483648 from by omega)
                    have r369 : 0 ≤ (J 235 13) ∧ (J 235 13) ≤ 1 := (by omega)
                    have u370 : (I351 235 13) = (J 235 13) := hW354 _ _ (by first | decide | omega)
                    have a372 : -2147483648 ≤ (I351 235 13) ∧ (I351 235 13) < 2147483648 := hA353.1 _ _
                    have u373 : (I351 235 14) = (J 235 14) := hW354 _ _ (by first | decide | omega)
                    have a374 : -2147483648 ≤ (I351 235 14) ∧ (I351 235 14) < 2147483648 := hA353.1 _ _
                    have u375 : (I351 235 15) = (J 235 15) := hW354 _ _ (by first | decide | omega)
                    have a376 : -2147483648 ≤ (I351 235 15) ∧ (I351 235 15) < 2147483648 := hA353.1 _ _
                    have r377 : 0 ≤ (J 235 17) ∧ (J 235 17) ≤ 19400000 := (by omega)
                    have u378 : (I351 235 17) = (J 235 17) := hW354 _ _ (by first | decide | omega)
                    have a380 : -2147483648 ≤ (I351 235 17) ∧ (I351 235 17) < 2147483648 := hA353.1 _ _
                    exact ih tm (wr (k + 1)) I362 hR363 (fun ka ja hk => ((hW365 ka ja (by omega))).trans (((hW354 ka ja (by omega))).trans ((hV ka ja (by omega))))) (show (tm : Int) ≤ 300000 from by first | with_reducible assumption | omega | (simp only [wr, wl] at *; omega)) (show (0 : Int) ≤ (wr (k + 1)) from by first | with_reducible assumption | omega | (simp only [wr, wl] at *; omega)) (show ((wr (k + 1)) : Int) ≤ 300000 from by first | with_reducible assumption | omega | (simp only [wr, wl] at *; omega)) ((by
                              have hs : (il = 1 ∨ U 0 2 = 0) ∧ wtF ld v0 v1 U := ⟨by omega, ⟨fun e => absurd e (by omega), fun e => (by omega)⟩⟩
                              rw [show Int.toNat (tm - k) = Int.toNat (tm - (wr (k + 1))) + 1 from by omega, prtF_s hs] at hTT
                              exact ⟨onc ld P il v0 U, MR_t (M := I351) (N := I362) (J := J) hil hW hU (show (I351 235 12) = xxF P v0 U from by have k1 := mvF_c (P := P) (act := v0) (h := U 0 4); have k2 := xxF_c (P := P) (act := v0) (S := U); omega) (show (I351 235 13) = U 0 1 from by omega) (show (I351 235 14) = il from by omega) (show (I351 235 15) = U 0 2 from by omega) (show (I351 235 16) = U 0 3 from by omega) (show (I351 235 17) = hoF v0 U from by have k4 := hoF_c (act := v0) (S := U); omega) (show I351 235 18 = nnF v0 U from by rw [show v0 = 4 from by omega]; exact (MR_r hU hW (RR9_l hq) (by have := hq.2.2.2.2.2.2; have := Rg.n8 hR; omega) (show TKR ld P I351 J from qr355)).1) (fun i hi => by rw [show v0 = 4 from by omega] at hi ⊢; exact (MR_r hU hW (RR9_l hq) (by have := hq.2.2.2.2.2.2; have := Rg.n8 hR; omega) (show TKR ld P I351 J from qr355)).2 i hi) (fun j => hW354 242 (j) (by omega)) (hW365 235 12 (by first | decide | omega)) (hW365 235 14 (by first | decide | omega)) (hW365 235 17 (by first | decide | omega)) (hW365 235 18 (by first | decide | omega)) (fun i => ⟨hW365 243 i (by omega), hW365 244 i (by omega)⟩) qr367, WS_o hW, (show U 0 3 + 1 ≤ B + (wr (k + 1)) from by omega), hTT⟩)) (show (tm - (wr (k + 1))).toNat < mz from by omega)
                  ·
                    refine ⟨_, rfl, (by decide), ?_⟩
                    have r381 : 0 ≤ (J 235 12) ∧ (J 235 12) ≤ 19400000 := (by omega)
                    refine ⟨fun (c383 : (((J 235 12) : Int) < v1)) => ?_, fun (c383 : (¬ (((J 235 12) : Int) < v1))) => ?_⟩
                    ·
                      refine ⟨_, rfl, (by decide), ?_⟩
                      refine ⟨_, rfl, (by decide), ?_⟩
                      have n384 : (wr ((J 235 12) + 1)) = (J 235 12) + 1 := wr_id (show -2147483648 ≤ ((J 235 12) + 1 : Int) ∧ ((J 235 12) + 1 : Int) < 2147483648 from by omega)
                      have p385 : (0 : Int) ≤ (wr ((J 235 12) + 1)) ∧ ((wr ((J 235 12) + 1)) : Int) ≤ 20000000 := by first | omega | (simp only [wr, wl] at *; omega)
                      refine ⟨⟨_, rfl, (by decide)⟩, ?_⟩
                      have r386 : 0 ≤ (J 235 16) ∧ (J 235 16) ≤ 19400000 := (by omega)
                      refine r_tick9  hF (Rg.u hJ (Pr_x12 p385)) (RR9_f hq ((uJ_ne (show ¬ 11 = 12 from Nat.ne_of_beq_eq_false rfl)).trans (hV 235 11 (by first | decide | omega))) (fun j => (uI_o (show ¬ (236 = 235 ∧ j = 12) from fun e => absurd e.1 (Nat.ne_of_beq_eq_false rfl))).trans (hV 236 j (by omega)))) (show 0 ≤ (wr ((J 235 12) + 1)) from by first | with_reducible assumption | omega | (simp only [wr, wl] at *; omega)) (show 0 ≤ (J 235 16) ∧ (J 235 16) ≤ 19999999 from by first | omega | (simp only [wr, wl] at *; omega)) (fun I388 hR389 hA390 hW391 q392 qr393 => ?_)
                      have q392 : (I388 235 16) = (J 235 16) + 1 := q392
                      have n394 : (wr (k + 1)) = k + 1 := wr_id (show -2147483648 ≤ (k + 1 : Int) ∧ (k + 1 : Int) < 2147483648 from by omega)
                      have r395 : 0 ≤ (J 235 13) ∧ (J 235 13) ≤ 1 := (by omega)
                      have r397 : 0 ≤ (J 235 17) ∧ (J 235 17) ≤ 19400000 := (by omega)
                      have r399 : 0 ≤ (J 235 18) ∧ (J 235 18) ≤ 24 := (by omega)
                      exact ih tm (wr (k + 1)) I388 hR389 (fun ka ja hk => ((hW391 ka ja (by omega))).trans (((uI_o (show ¬ (ka = 235 ∧ ja = 12) from by first | (intro e; obtain ⟨rfl, rfl⟩ := e; exact hk (by decide)) | omega))).trans ((hV ka ja (by omega))))) (show (tm : Int) ≤ 300000 from by first | with_reducible assumption | omega | (simp only [wr, wl] at *; omega)) (show (0 : Int) ≤ (wr (k + 1)) from by first | with_reducible assumption | omega | (simp only [wr, wl] at *; omega)) (show ((wr (k + 1)) : Int) ≤ 300000 from by first | with_reducible assumption | omega | (simp only [wr, wl] at *; omega)) ((by
                              have hs : (il = 1 ∨ U 0 2 = 0) ∧ wtF ld v0 v1 U := ⟨by omega, ⟨fun e => absurd e (by omega), fun e => (by omega)⟩⟩
                              rw [show Int.toNat (tm - k) = Int.toNat (tm - (wr (k + 1))) + 1 from by omega, prtF_s hs] at hTT
                              exact ⟨onc ld P il v0 U, MR_t (M := (uI J 235 12 (wr ((J 235 12) + 1)))) (N := I388) (J := J) hil hW hU (show (wr ((J 235 12) + 1)) = xxF P v0 U from by have k1 := mvF_c (P := P) (act := v0) (h := U 0 4); have k2 := xxF_c (P := P) (act := v0) (S := U); omega) (show (J 235 13) = U 0 1 from by omega) (show (J 235 14) = il from by omega) (show (J 235 15) = U 0 2 from by omega) (show (J 235 16) = U 0 3 from by omega) (show (J 235 17) = hoF v0 U from by have k4 := hoF_c (act := v0) (S := U); omega) (MR_o (ld := ld) (P := P) (act := v0) (M := (uI J 235 12 (wr ((J 235 12) + 1)))) hU (by omega) (uJ_ne (show ¬ 18 = 12 from Nat.ne_of_beq_eq_false rfl)) (fun i => ⟨uI_o (show ¬ (243 = 235 ∧ i = 12) from fun e => absurd e.1 (Nat.ne_of_beq_eq_false rfl)), uI_o (show ¬ (244 = 235 ∧ i = 12) from fun e => absurd e.1 (Nat.ne_of_beq_eq_false rfl))⟩)).1 (MR_o (ld := ld) (P := P) (act := v0) (M := (uI J 235 12 (wr ((J 235 12) + 1)))) hU (by omega) (uJ_ne (show ¬ 18 = 12 from Nat.ne_of_beq_eq_false rfl)) (fun i => ⟨uI_o (show ¬ (243 = 235 ∧ i = 12) from fun e => absurd e.1 (Nat.ne_of_beq_eq_false rfl)), uI_o (show ¬ (244 = 235 ∧ i = 12) from fun e => absurd e.1 (Nat.ne_of_beq_eq_false rfl))⟩)).2 (fun j => uI_o (show ¬ (242 = 235 ∧ j = 12) from fun e => absurd e.1 (Nat.ne_of_beq_eq_false rfl))) (hW391 235 12 (by first | decide | omega)) (hW391 235 14 (by first | decide | omega)) (hW391 235 17 (by first | decide | omega)) (hW391 235 18 (by first | decide | omega)) (fun i => ⟨hW391 243 i (by omega), hW391 244 i (by omega)⟩) qr393, WS_o hW, (show U 0 3 + 1 ≤ B + (wr (k + 1)) from by omega), hTT⟩)) (show (tm - (wr (k + 1))).toNat < mz from by omega)
                    ·
                      exact ⟨rfl, hQ _ hJ (fun ka ja hk => (hV ka ja (by omega))) ((by
                              first | (exact ((prtF_e (Or.inl (by omega))).symm.trans hTT) ▸ hU) | (exact ((prtF_e (Or.inr (fun z => absurd z.1 (by omega)))).symm.trans hTT) ▸ hU) | (exact ((prtF_e (Or.inr (fun z => absurd (z.2.2 (by omega)) (by omega)))).symm.trans hTT) ▸ hU)))⟩
theorem r_does9 (hF : FS F) (hR : Rg I) {v0 v1 : Int} {ld : Int → Int} {P : Nat → Int} {pp : Nat} (hq : RR9 ld P pp I) {il : Int} {S : pI} (hil : il = 0 ∨ il = 1) (hv0 : 0 ≤ v0 ∧ v0 ≤ 5) (B : Int) (hB : 0 ≤ B ∧ B ≤ 19000000) (hn : v1 ≤ 300000) (hS : MR il S I) (hSW : WS S) (hb : S 0 3 ≤ B) (hQ : ∀ (I' : pI), Rg I' → AR I' → (∀ k j, ¬ ((k = 235 ∧ 12 ≤ j ∧ j ≤ 18) ∨ (242 ≤ k ∧ k ≤ 244)) → I' k j = I k j) → (MR il (doP ld P il v0 v1 S) I') → Q none F I') : CallN G (d + 5) kX12_does [vr 235, vi v0, vi v1] NP F I Q := by
  refine CallN_in (fun hok hA => CallN_out ?_)
  have iv0 : -2147483648 ≤ v0 ∧ v0 < 2147483648 := hok (vi v0) (by simp)
  have iv1 : -2147483648 ≤ v1 ∧ v1 < 2147483648 := hok (vi v1) (by simp)
  refine Call_wp (lv := [some (vr 235), some (vi v0), some (vi v1), none, none]) (by decide) ckX12_does [30] rfl rfl ?_
  refine ⟨fun (c1 : (¬ (v0 : Int) = 4)) => ?_, fun (c1 : ((v0 : Int) = 4)) => ?_⟩
  ·
    refine ⟨fun (c2 : ((v0 : Int) = 1)) => ?_, fun (c2 : (¬ ((v0 : Int) = 1))) => ?_⟩
    ·
      refine r_does9_l hF hR hq hil (by omega) B hB (fun I' g1 g2 g3 hv hA' => hQ _ g1 hA' g2 g3) _ 300 0 I hR (fun _ _ _ => rfl) (show ((300 : Int) : Int) ≤ 300000 from by first | with_reducible assumption | omega | (simp only [wr, wl] at *; omega)) (show (0 : Int) ≤ (0 : Int) from Int.le_refl _) (show ((0 : Int) : Int) ≤ 300000 from by first | with_reducible assumption | omega | (simp only [wr, wl] at *; omega)) ((by
                              refine ⟨S, hS, hSW, by omega, ?_⟩
                              show prtF ld P il v0 v1 (Int.toNat (300 - 0)) S = doP ld P il v0 v1 S
                              unfold doP
                              congr 1
                              unfold tmF
                              first | (rw [if_pos (by omega)]; omega) | (rw [if_neg (by omega), if_pos (by omega)]; omega) | (rw [if_neg (by omega), if_neg (by omega)]; omega))) (Nat.lt_succ_self _)
    ·
      refine ⟨fun (c3 : (¬ (v0 : Int) = 5)) => ?_, fun (c3 : ((v0 : Int) = 5)) => ?_⟩
      ·
        refine r_does9_l hF hR hq hil (by omega) B hB (fun I' g1 g2 g3 hv hA' => hQ _ g1 hA' g2 g3) _ v1 0 I hR (fun _ _ _ => rfl) (show (v1 : Int) ≤ 300000 from by first | with_reducible assumption | omega | (simp only [wr, wl] at *; omega)) (show (0 : Int) ≤ (0 : Int) from Int.le_refl _) (show ((0 : Int) : Int) ≤ 300000 from by first | with_reducible assumption | omega | (simp only [wr, wl] at *; omega)) ((by
                              refine ⟨S, hS, hSW, by omega, ?_⟩
                              show prtF ld P il v0 v1 (Int.toNat (v1 - 0)) S = doP ld P il v0 v1 S
                              unfold doP
                              congr 1
                              unfold tmF
                              first | (rw [if_pos (by omega)]; omega) | (rw [if_neg (by omega), if_pos (by omega)]; omega) | (rw [if_neg (by omega), if_neg (by omega)]; omega))) (Nat.lt_succ_self _)
      ·
        refine r_does9_l hF hR hq hil (by omega) B hB (fun I' g1 g2 g3 hv hA' => hQ _ g1 hA' g2 g3) _ 300 0 I hR (fun _ _ _ => rfl) (show ((300 : Int) : Int) ≤ 300000 from by first | with_reducible assumption | omega | (simp only [wr, wl] at *; omega)) (show (0 : Int) ≤ (0 : Int) from Int.le_refl _) (show ((0 : Int) : Int) ≤ 300000 from by first | with_reducible assumption | omega | (simp only [wr, wl] at *; omega)) ((by
                              refine ⟨S, hS, hSW, by omega, ?_⟩
                              show prtF ld P il v0 v1 (Int.toNat (300 - 0)) S = doP ld P il v0 v1 S
                              unfold doP
                              congr 1
                              unfold tmF
                              first | (rw [if_pos (by omega)]; omega) | (rw [if_neg (by omega), if_pos (by omega)]; omega) | (rw [if_neg (by omega), if_neg (by omega)]; omega))) (Nat.lt_succ_self _)
  ·
    refine r_does9_l hF hR hq hil (by omega) B hB (fun I' g1 g2 g3 hv hA' => hQ _ g1 hA' g2 g3) _ 1 0 I hR (fun _ _ _ => rfl) (show ((1 : Int) : Int) ≤ 300000 from by first | with_reducible assumption | omega | (simp only [wr, wl] at *; omega)) (show (0 : Int) ≤ (0 : Int) from Int.le_refl _) (show ((0 : Int) : Int) ≤ 300000 from by first | with_reducible assumption | omega | (simp only [wr, wl] at *; omega)) ((by
                              refine ⟨S, hS, hSW, by omega, ?_⟩
                              show prtF ld P il v0 v1 (Int.toNat (1 - 0)) S = doP ld P il v0 v1 S
                              unfold doP
                              congr 1
                              unfold tmF
                              first | (rw [if_pos (by omega)]; omega) | (rw [if_neg (by omega), if_pos (by omega)]; omega) | (rw [if_neg (by omega), if_neg (by omega)]; omega))) (Nat.lt_succ_self _)
theorem r_go9_l2 (hF : FS F) (hR : Rg I) {v0 v1 : Int} {ld : Int → Int} {P : Nat → Int} {pp : Nat} (h8 : RR8 ld P pp I) (hpr : PR8 (Int.toNat v0) I) (hg : 0 ≤ v0 ∧ v0 ≤ 3) {TT : pI} {EE : Int} (hQ : ∀ (r : Int) (I' : pI), Rg I' → (∀ k j, ¬ ((k = 235 ∧ 11 ≤ j ∧ j ≤ 18) ∨ (242 ≤ k ∧ k ≤ 244)) → I' k j = I k j) → (MR 1 TT I' ∧ r = EE) → Q (some (vi r)) F I') : ∀ (mz : Nat) (k e : Int) (J : pI), Rg J → (∀ k j, ¬ ((k = 235 ∧ 11 ≤ j ∧ j ≤ 18) ∨ (242 ≤ k ∧ k ≤ 244)) → J k j = I k j) → ((0 : Int) ≤ k) → ((k : Int) ≤ 17) → (k ≤ (I 236 (40 + 36 * Int.toNat v0))) → (e = EE) → (RR9 ld P pp J) → (∃ U : pI, MR 1 U J ∧ WS U ∧ U 0 3 ≤ 5100000 + 300000 * k ∧ lsR ld P (fun k => I 236 (42 + 36 * Int.toNat v0 + 2 * k)) (fun k => I 236 (43 + 36 * Int.toNat v0 + 2 * k)) (Int.toNat ((I 236 (40 + 36 * Int.toNat v0)) - k)) (Int.toNat k) U = TT) → (17 - k).toNat < mz → GoN G (d + 6) kX12_goThrough NP NP 142 [some (vr 235), some (vi v0), some (vi v1), some (vi (wr (40 + (wr (36 * v0))))), some (vi k), some (vi e)] [] F J Q := by
  intro mz
  induction mz with
  | zero => intro k e J hJ hV _ _ _ _ _ _ h; exact absurd h (Nat.not_lt_zero _)
  | succ mz ih =>
    intro k e J hJ hV cc100 cc101 cc102 cc103 cc104 cc105 hm
    refine GoN_in (fun hok hA => ?_)
    have iiv0 : -2147483648 ≤ v0 ∧ v0 < 2147483648 := hok 1 _ rfl
    have iiv1 : -2147483648 ≤ v1 ∧ v1 < 2147483648 := hok 2 _ rfl
    have iik : -2147483648 ≤ k ∧ k < 2147483648 := hok 4 _ rfl
    have iie : -2147483648 ≤ e ∧ e < 2147483648 := hok 5 _ rfl
    obtain ⟨U, hU, hW, hB2, hTT⟩ := cc105
    have hU2 := hU
    obtain ⟨⟨m12, m13, m14, m15, m16, m17, m18⟩, ma, mr⟩ := hU2
    have hq := cc104
    have hpp := hpr.1
    refine Go_wp (by decide) ckX12_goThrough [142] ?_
    refine ⟨_, rfl, (by decide), ?_⟩
    refine fun w0 hw0 => ?_; obtain rfl : w0 = some 236 := hw0.symm.trans (FS.g hF rfl)
    have n1 : (wr (36 * v0)) = 36 * v0 := wr_id (show -2147483648 ≤ (36 * v0 : Int) ∧ (36 * v0 : Int) < 2147483648 from by omega)
    have n2 : (wr (40 + (wr (36 * v0)))) = 40 + (wr (36 * v0)) := wr_id (show -2147483648 ≤ (40 + (wr (36 * v0)) : Int) ∧ (40 + (wr (36 * v0)) : Int) < 2147483648 from by omega)
    have n3 : (wr ((wr (40 + (wr (36 * v0)))) + 0)) = (wr (40 + (wr (36 * v0)))) + 0 := wr_id (show -2147483648 ≤ ((wr (40 + (wr (36 * v0)))) + 0 : Int) ∧ ((wr (40 + (wr (36 * v0)))) + 0 : Int) < 2147483648 from by omega)
    refine ⟨_, rfl, (by decide), (show (0 : Int) ≤ (wr ((wr (40 + (wr (36 * v0)))) + 0)) from by first | with_reducible assumption | omega | (simp only [wr, wl] at *; omega)), (show (wr ((wr (40 + (wr (36 * v0)))) + 0)) < (1340 : Int) from by first | with_reducible assumption | omega | (simp only [wr, wl] at *; omega)), ?_⟩
    have z4 : (I 236 (Int.toNat (wr ((wr (40 + (wr (36 * v0)))) + 0)))) = (I 236 (40 + 36 * Int.toNat v0)) := congrArg (I 236) (by omega)
    have r5 : 0 ≤ (I 236 (Int.toNat (wr ((wr (40 + (wr (36 * v0)))) + 0)))) ∧ (I 236 (Int.toNat (wr ((wr (40 + (wr (36 * v0)))) + 0)))) ≤ 17 := Pn_g0 (p := (Int.toNat v0)) (by omega) (by omega) (hR.n (Int.toNat (wr ((wr (40 + (wr (36 * v0)))) + 0))) (by omega))
    have u6 : (J 236 (Int.toNat (wr ((wr (40 + (wr (36 * v0)))) + 0)))) = (I 236 (Int.toNat (wr ((wr (40 + (wr (36 * v0)))) + 0)))) := hV _ _ (by first | decide | omega)
    have a7 : -2147483648 ≤ (J 236 (Int.toNat (wr ((wr (40 + (wr (36 * v0)))) + 0)))) ∧ (J 236 (Int.toNat (wr ((wr (40 + (wr (36 * v0)))) + 0)))) < 2147483648 := hA.1 _ _
    have r8 : 0 ≤ (J 236 (Int.toNat (wr ((wr (40 + (wr (36 * v0)))) + 0)))) ∧ (J 236 (Int.toNat (wr ((wr (40 + (wr (36 * v0)))) + 0)))) ≤ 17 := Pn_g0 (p := (Int.toNat v0)) (by omega) (by omega) (hJ.n (Int.toNat (wr ((wr (40 + (wr (36 * v0)))) + 0))) (by omega))
    refine ⟨fun (c9 : (((J 236 (Int.toNat (wr ((wr (40 + (wr (36 * v0)))) + 0)))) : Int) ≤ k)) => ?_, fun (c9 : (¬ (((J 236 (Int.toNat (wr ((wr (40 + (wr (36 * v0)))) + 0)))) : Int) ≤ k))) => ?_⟩
    ·
      exact ⟨rfl, hQ _ _ hJ (fun ka ja hk => (hV ka ja (by omega))) ((by
                              have e : U = TT := by
                                rw [show Int.toNat ((I 236 (40 + 36 * Int.toNat v0)) - k) = 0 from by omega] at hTT; exact hTT
                              rw [← e]
                              exact ⟨hU, cc103⟩))⟩
    ·
      refine ⟨_, rfl, (by decide), ?_⟩
      refine fun w0 hw0 => ?_; obtain rfl : w0 = some 236 := hw0.symm.trans (FS.g hF rfl)
      have n10 : (wr ((wr (40 + (wr (36 * v0)))) + 2)) = (wr (40 + (wr (36 * v0)))) + 2 := wr_id (show -2147483648 ≤ ((wr (40 + (wr (36 * v0)))) + 2 : Int) ∧ ((wr (40 + (wr (36 * v0)))) + 2 : Int) < 2147483648 from by omega)
      have n11 : (wr (2 * k)) = 2 * k := wr_id (show -2147483648 ≤ (2 * k : Int) ∧ (2 * k : Int) < 2147483648 from by omega)
      have n12 : (wr ((wr ((wr (40 + (wr (36 * v0)))) + 2)) + (wr (2 * k)))) = (wr ((wr (40 + (wr (36 * v0)))) + 2)) + (wr (2 * k)) := wr_id (show -2147483648 ≤ ((wr ((wr (40 + (wr (36 * v0)))) + 2)) + (wr (2 * k)) : Int) ∧ ((wr ((wr (40 + (wr (36 * v0)))) + 2)) + (wr (2 * k)) : Int) < 2147483648 from by omega)
      refine ⟨_, rfl, (by decide), (show (0 : Int) ≤ (wr ((wr ((wr (40 + (wr (36 * v0)))) + 2)) + (wr (2 * k)))) from by first | with_reducible assumption | omega | (simp only [wr, wl] at *; omega)), (show (wr ((wr ((wr (40 + (wr (36 * v0)))) + 2)) + (wr (2 * k)))) < (1340 : Int) from by first | with_reducible assumption | omega | (simp only [wr, wl] at *; omega)), ?_⟩
      have z13 : (I 236 (Int.toNat (wr ((wr ((wr (40 + (wr (36 * v0)))) + 2)) + (wr (2 * k)))))) = (I 236 (42 + 36 * Int.toNat v0 + 2 * Int.toNat k)) := congrArg (I 236) (by omega)
      have z14 := hpr.2 (Int.toNat k) (by omega)
      have u15 : (J 236 (Int.toNat (wr ((wr ((wr (40 + (wr (36 * v0)))) + 2)) + (wr (2 * k)))))) = (I 236 (Int.toNat (wr ((wr ((wr (40 + (wr (36 * v0)))) + 2)) + (wr (2 * k)))))) := hV _ _ (by first | decide | omega)
      have a16 : -2147483648 ≤ (J 236 (Int.toNat (wr ((wr ((wr (40 + (wr (36 * v0)))) + 2)) + (wr (2 * k)))))) ∧ (J 236 (Int.toNat (wr ((wr ((wr (40 + (wr (36 * v0)))) + 2)) + (wr (2 * k)))))) < 2147483648 := hA.1 _ _
      refine ⟨_, rfl, (by decide), ?_⟩
      refine fun w0 hw0 => ?_; obtain rfl : w0 = some 236 := hw0.symm.trans (FS.g hF rfl)
      have n17 : (wr ((wr ((wr ((wr (40 + (wr (36 * v0)))) + 2)) + (wr (2 * k)))) + 1)) = (wr ((wr ((wr (40 + (wr (36 * v0)))) + 2)) + (wr (2 * k)))) + 1 := wr_id (show -2147483648 ≤ ((wr ((wr ((wr (40 + (wr (36 * v0)))) + 2)) + (wr (2 * k)))) + 1 : Int) ∧ ((wr ((wr ((wr (40 + (wr (36 * v0)))) + 2)) + (wr (2 * k)))) + 1 : Int) < 2147483648 from by omega)
      refine ⟨_, rfl, (by decide), (show (0 : Int) ≤ (wr ((wr ((wr ((wr (40 + (wr (36 * v0)))) + 2)) + (wr (2 * k)))) + 1)) from by first | with_reducible assumption | omega | (simp only [wr, wl] at *; omega)), (show (wr ((wr ((wr ((wr (40 + (wr (36 * v0)))) + 2)) + (wr (2 * k)))) + 1)) < (1340 : Int) from by first | with_reducible assumption | omega | (simp only [wr, wl] at *; omega)), ?_⟩
      have z18 : (I 236 (Int.toNat (wr ((wr ((wr ((wr (40 + (wr (36 * v0)))) + 2)) + (wr (2 * k)))) + 1)))) = (I 236 (43 + 36 * Int.toNat v0 + 2 * Int.toNat k)) := congrArg (I 236) (by omega)
      have r19 : (I 236 (Int.toNat (wr ((wr ((wr ((wr (40 + (wr (36 * v0)))) + 2)) + (wr (2 * k)))) + 1)))) ≤ 300000 := Pn_ga2 (p := Int.toNat ((wr ((wr ((wr ((wr (40 + (wr (36 * v0)))) + 2)) + (wr (2 * k)))) + 1)) - 40)) (by omega) (by omega) (hR.n (Int.toNat (wr ((wr ((wr ((wr (40 + (wr (36 * v0)))) + 2)) + (wr (2 * k)))) + 1))) (by omega))
      have u20 : (J 236 (Int.toNat (wr ((wr ((wr ((wr (40 + (wr (36 * v0)))) + 2)) + (wr (2 * k)))) + 1)))) = (I 236 (Int.toNat (wr ((wr ((wr ((wr (40 + (wr (36 * v0)))) + 2)) + (wr (2 * k)))) + 1)))) := hV _ _ (by first | decide | omega)
      have a21 : -2147483648 ≤ (J 236 (Int.toNat (wr ((wr ((wr ((wr (40 + (wr (36 * v0)))) + 2)) + (wr (2 * k)))) + 1)))) ∧ (J 236 (Int.toNat (wr ((wr ((wr ((wr (40 + (wr (36 * v0)))) + 2)) + (wr (2 * k)))) + 1)))) < 2147483648 := hA.1 _ _
      have r22 : (J 236 (Int.toNat (wr ((wr ((wr ((wr (40 + (wr (36 * v0)))) + 2)) + (wr (2 * k)))) + 1)))) ≤ 300000 := Pn_ga2 (p := Int.toNat ((wr ((wr ((wr ((wr (40 + (wr (36 * v0)))) + 2)) + (wr (2 * k)))) + 1)) - 40)) (by omega) (by omega) (hJ.n (Int.toNat (wr ((wr ((wr ((wr (40 + (wr (36 * v0)))) + 2)) + (wr (2 * k)))) + 1))) (by omega))
      refine ⟨⟨_, rfl, (by decide)⟩, ?_⟩
      refine r_does9 (v0 := (J 236 (Int.toNat (wr ((wr ((wr (40 + (wr (36 * v0)))) + 2)) + (wr (2 * k))))))) (v1 := (J 236 (Int.toNat (wr ((wr ((wr ((wr (40 + (wr (36 * v0)))) + 2)) + (wr (2 * k)))) + 1))))) hF hJ hq (Or.inr rfl) (by omega) (5100000 + 300000 * k) (by omega) (by omega) hU hW (by omega) (fun I23 hR24 hA25 hW26 qr27 => ?_)
      have n28 : (wr (k + 1)) = k + 1 := wr_id (show -2147483648 ≤ (k + 1 : Int) ∧ (k + 1 : Int) < 2147483648 from by omega)
      exact ih (wr (k + 1)) e I23 hR24 (fun ka ja hk => ((hW26 ka ja (by omega))).trans ((hV ka ja (by omega)))) (show (0 : Int) ≤ (wr (k + 1)) from by first | with_reducible assumption | omega | (simp only [wr, wl] at *; omega)) (show ((wr (k + 1)) : Int) ≤ 17 from by first | with_reducible assumption | omega | (simp only [wr, wl] at *; omega)) (show (wr (k + 1)) ≤ (I 236 (40 + 36 * Int.toNat v0)) from by first | with_reducible assumption | omega | (simp only [wr, wl] at *; omega)) (show e = EE from by first | omega | (simp only [wr, wl] at *; omega)) (RR9_f hq (hW26 235 (11) (by omega)) (fun j => hW26 236 (j) (by omega))) ((by
                              rw [show Int.toNat ((I 236 (40 + 36 * Int.toNat v0)) - k) = Int.toNat ((I 236 (40 + 36 * Int.toNat v0)) - (wr (k + 1))) + 1 from by omega] at hTT
                              have hz : lsR ld P (fun k => I 236 (42 + 36 * Int.toNat v0 + 2 * k)) (fun k => I 236 (43 + 36 * Int.toNat v0 + 2 * k)) (Int.toNat ((I 236 (40 + 36 * Int.toNat v0)) - (wr (k + 1)))) (Int.toNat k + 1) (doP ld P 1 ((fun k => I 236 (42 + 36 * Int.toNat v0 + 2 * k)) (Int.toNat k)) ((fun k => I 236 (43 + 36 * Int.toNat v0 + 2 * k)) (Int.toNat k)) U) = TT := hTT
                              have hr := qr27
                              rw [show (J 236 (Int.toNat (wr ((wr ((wr (40 + (wr (36 * v0)))) + 2)) + (wr (2 * k)))))) = I 236 (42 + 36 * Int.toNat v0 + 2 * Int.toNat k) from by omega, show (J 236 (Int.toNat (wr ((wr ((wr ((wr (40 + (wr (36 * v0)))) + 2)) + (wr (2 * k)))) + 1)))) = I 236 (43 + 36 * Int.toNat v0 + 2 * Int.toNat k) from by omega] at hr
                              rw [show Int.toNat k + 1 = Int.toNat (wr (k + 1)) from by omega] at hz
                              have hp := WS_d (ld := ld) (P := P) (il := 1) (act := I 236 (42 + 36 * Int.toNat v0 + 2 * Int.toNat k)) (amt := I 236 (43 + 36 * Int.toNat v0 + 2 * Int.toNat k)) hW (by omega)
                              exact ⟨_, hr, hp.1, (by omega), hz⟩)) (show (17 - (wr (k + 1))).toNat < mz from by omega)
theorem r_go9_l1 (hF : FS F) (hR : Rg I) {v0 v1 : Int} {ld : Int → Int} {P : Nat → Int} {pp : Nat} (h8 : RR8 ld P pp I) (hpr : PR8 (Int.toNat v0) I) (hg : 0 ≤ v0 ∧ v0 ≤ 3) (hQ : ∀ (r : Int) (I' : pI), Rg I' → (∀ k j, ¬ ((k = 235 ∧ 11 ≤ j ∧ j ≤ 18) ∨ (242 ≤ k ∧ k ≤ 244)) → I' k j = I k j) → (MR 1 (rnF ld P (fun k => I 236 (42 + 36 * Int.toNat v0 + 2 * k)) (fun k => I 236 (43 + 36 * Int.toNat v0 + 2 * k)) (Int.toNat (I 236 (41 + 36 * Int.toNat v0))) (Int.toNat (I 236 (40 + 36 * Int.toNat v0)))) I' ∧ r = enF ld P (fun k => I 236 (42 + 36 * Int.toNat v0 + 2 * k)) (fun k => I 236 (43 + 36 * Int.toNat v0 + 2 * k)) (Int.toNat (I 236 (41 + 36 * Int.toNat v0)))) → Q (some (vi r)) F I') : ∀ (mz : Nat) (k : Int) (J : pI), Rg J → (∀ k j, ¬ ((k = 235 ∧ 11 ≤ j ∧ j ≤ 18) ∨ (242 ≤ k ∧ k ≤ 244)) → J k j = I k j) → ((0 : Int) ≤ k) → ((k : Int) ≤ 17) → (k ≤ (I 236 (41 + 36 * Int.toNat v0))) → (RR9 ld P pp J) → (∃ U : pI, MR 0 U J ∧ WS U ∧ U 0 3 ≤ 300000 * k ∧ fsR ld P (fun k => I 236 (42 + 36 * Int.toNat v0 + 2 * k)) (fun k => I 236 (43 + 36 * Int.toNat v0 + 2 * k)) (Int.toNat ((I 236 (41 + 36 * Int.toNat v0)) - k)) (Int.toNat k) U = fsR ld P (fun k => I 236 (42 + 36 * Int.toNat v0 + 2 * k)) (fun k => I 236 (43 + 36 * Int.toNat v0 + 2 * k)) (Int.toNat (I 236 (41 + 36 * Int.toNat v0))) 0 S0) → (17 - k).toNat < mz → GoN G (d + 6) kX12_goThrough NP NP 51 [some (vr 235), some (vi v0), some (vi v1), some (vi (wr (40 + (wr (36 * v0))))), some (vi k), none] [] F J Q := by
  intro mz
  induction mz with
  | zero => intro k J hJ hV _ _ _ _ _ h; exact absurd h (Nat.not_lt_zero _)
  | succ mz ih =>
    intro k J hJ hV cc100 cc101 cc102 cc103 cc104 hm
    refine GoN_in (fun hok hA => ?_)
    have iiv0 : -2147483648 ≤ v0 ∧ v0 < 2147483648 := hok 1 _ rfl
    have iiv1 : -2147483648 ≤ v1 ∧ v1 < 2147483648 := hok 2 _ rfl
    have iik : -2147483648 ≤ k ∧ k < 2147483648 := hok 4 _ rfl
    obtain ⟨U, hU, hW, hB2, hTT⟩ := cc104
    have hU2 := hU
    obtain ⟨⟨m12, m13, m14, m15, m16, m17, m18⟩, ma, mr⟩ := hU2
    have hq := cc103
    have hpp := hpr.1
    refine Go_wp (by decide) ckX12_goThrough [51, 142] ?_
    refine ⟨_, rfl, (by decide), ?_⟩
    refine fun w0 hw0 => ?_; obtain rfl : w0 = some 236 := hw0.symm.trans (FS.g hF rfl)
    have n1 : (wr (36 * v0)) = 36 * v0 := wr_id (show -2147483648 ≤ (36 * v0 : Int) ∧ (36 * v0 : Int) < 2147483648 from by omega)
    have n2 : (wr (40 + (wr (36 * v0)))) = 40 + (wr (36 * v0)) := wr_id (show -2147483648 ≤ (40 + (wr (36 * v0)) : Int) ∧ (40 + (wr (36 * v0)) : Int) < 2147483648 from by omega)
    have n3 : (wr ((wr (40 + (wr (36 * v0)))) + 1)) = (wr (40 + (wr (36 * v0)))) + 1 := wr_id (show -2147483648 ≤ ((wr (40 + (wr (36 * v0)))) + 1 : Int) ∧ ((wr (40 + (wr (36 * v0)))) + 1 : Int) < 2147483648 from by omega)
    refine ⟨_, rfl, (by decide), (show (0 : Int) ≤ (wr ((wr (40 + (wr (36 * v0)))) + 1)) from by first | with_reducible assumption | omega | (simp only [wr, wl] at *; omega)), (show (wr ((wr (40 + (wr (36 * v0)))) + 1)) < (1340 : Int) from by first | with_reducible assumption | omega | (simp only [wr, wl] at *; omega)), ?_⟩
    have z4 : (I 236 (Int.toNat (wr ((wr (40 + (wr (36 * v0)))) + 1)))) = (I 236 (41 + 36 * Int.toNat v0)) := congrArg (I 236) (by omega)
    have r5 : 0 ≤ (I 236 (Int.toNat (wr ((wr (40 + (wr (36 * v0)))) + 1)))) ∧ (I 236 (Int.toNat (wr ((wr (40 + (wr (36 * v0)))) + 1)))) ≤ 17 := Pn_g1 (p := (Int.toNat v0)) (by omega) (by omega) (hR.n (Int.toNat (wr ((wr (40 + (wr (36 * v0)))) + 1))) (by omega))
    have u6 : (J 236 (Int.toNat (wr ((wr (40 + (wr (36 * v0)))) + 1)))) = (I 236 (Int.toNat (wr ((wr (40 + (wr (36 * v0)))) + 1)))) := hV _ _ (by first | decide | omega)
    have a7 : -2147483648 ≤ (J 236 (Int.toNat (wr ((wr (40 + (wr (36 * v0)))) + 1)))) ∧ (J 236 (Int.toNat (wr ((wr (40 + (wr (36 * v0)))) + 1)))) < 2147483648 := hA.1 _ _
    have r8 : 0 ≤ (J 236 (Int.toNat (wr ((wr (40 + (wr (36 * v0)))) + 1)))) ∧ (J 236 (Int.toNat (wr ((wr (40 + (wr (36 * v0)))) + 1)))) ≤ 17 := Pn_g1 (p := (Int.toNat v0)) (by omega) (by omega) (hJ.n (Int.toNat (wr ((wr (40 + (wr (36 * v0)))) + 1))) (by omega))
    refine ⟨fun (c9 : (((J 236 (Int.toNat (wr ((wr (40 + (wr (36 * v0)))) + 1)))) : Int) ≤ k)) => ?_, fun (c9 : (¬ (((J 236 (Int.toNat (wr ((wr (40 + (wr (36 * v0)))) + 1)))) : Int) ≤ k))) => ?_⟩
    ·
      refine ⟨_, rfl, (by decide), ?_⟩
      have a10 : -2147483648 ≤ (J 235 15) ∧ (J 235 15) < 2147483648 := hA.1 _ _
      refine ⟨fun (c11 : (¬ ((J 235 15) : Int) = 0)) => ?_, fun (c11 : (((J 235 15) : Int) = 0)) => ?_⟩
      ·
        refine ⟨_, rfl, (by decide), (by decide), ?_⟩
        refine ⟨_, rfl, (by decide), ?_⟩
        refine fun w0 hw0 => ?_; obtain rfl : w0 = some 236 := hw0.symm.trans (FS.g hF rfl)
        refine ⟨_, rfl, (by decide), (show (0 : Int) ≤ (wr ((wr (40 + (wr (36 * v0)))) + 1)) from by first | with_reducible assumption | omega | (simp only [wr, wl] at *; omega)), (show (wr ((wr (40 + (wr (36 * v0)))) + 1)) < (1340 : Int) from by first | with_reducible assumption | omega | (simp only [wr, wl] at *; omega)), ?_⟩
        have hend : fsR ld P (fun k => I 236 (42 + 36 * Int.toNat v0 + 2 * k)) (fun k => I 236 (43 + 36 * Int.toNat v0 + 2 * k)) (Int.toNat (I 236 (41 + 36 * Int.toNat v0))) 0 S0 = (U, Int.toNat k) := hTT.symm.trans (by first | (exact fsR_e (Or.inl (by omega))) | (exact fsR_e (Or.inr (by omega))))
        have n12 : (wr (k - 1)) = k - 1 := wr_id (show -2147483648 ≤ (k - 1 : Int) ∧ (k - 1 : Int) < 2147483648 from by omega)
        refine r_go9_l2 hF hR h8 hpr (by omega) (TT := rnF ld P (fun k => I 236 (42 + 36 * Int.toNat v0 + 2 * k)) (fun k => I 236 (43 + 36 * Int.toNat v0 + 2 * k)) (Int.toNat (I 236 (41 + 36 * Int.toNat v0))) (Int.toNat (I 236 (40 + 36 * Int.toNat v0)))) (EE := enF ld P (fun k => I 236 (42 + 36 * Int.toNat v0 + 2 * k)) (fun k => I 236 (43 + 36 * Int.toNat v0 + 2 * k)) (Int.toNat (I 236 (41 + 36 * Int.toNat v0)))) hQ _ (J 236 (Int.toNat (wr ((wr (40 + (wr (36 * v0)))) + 1)))) (wr (k - 1)) (uI J 235 14 1) (Rg.u hJ (Pr_f rfl)) (fun ka ja hk => ((uI_o (show ¬ (ka = 235 ∧ ja = 14) from by first | (intro e; obtain ⟨rfl, rfl⟩ := e; exact hk (by decide)) | omega))).trans ((hV ka ja (by omega)))) (show (0 : Int) ≤ (J 236 (Int.toNat (wr ((wr (40 + (wr (36 * v0)))) + 1)))) from by first | with_reducible assumption | omega | (simp only [wr, wl] at *; omega)) (show ((J 236 (Int.toNat (wr ((wr (40 + (wr (36 * v0)))) + 1)))) : Int) ≤ 17 from by first | with_reducible assumption | omega | (simp only [wr, wl] at *; omega)) (show (J 236 (Int.toNat (wr ((wr (40 + (wr (36 * v0)))) + 1)))) ≤ (I 236 (40 + 36 * Int.toNat v0)) from by first | with_reducible assumption | omega | (simp only [wr, wl] at *; omega)) ((by
                              unfold enF
                              rw [hend]
                              show (wr (k - 1)) = if U 0 2 = 0 then ((Int.toNat k : Nat) : Int) else ((Int.toNat k : Nat) : Int) - 1
                              first | (rw [if_pos (by omega)]; omega) | (rw [if_neg (by omega)]; omega))) (RR9_f hq (uJ_ne (show ¬ 11 = 14 from Nat.ne_of_beq_eq_false rfl)) (fun j => uI_o (show ¬ (236 = 235 ∧ j = 14) from fun e => absurd e.1 (Nat.ne_of_beq_eq_false rfl)))) ((by
                              refine ⟨U, ⟨⟨(uJ_ne (show ¬ 12 = 14 from Nat.ne_of_beq_eq_false rfl)).trans m12, (uJ_ne (show ¬ 13 = 14 from Nat.ne_of_beq_eq_false rfl)).trans m13, uJ_eq, (uJ_ne (show ¬ 15 = 14 from Nat.ne_of_beq_eq_false rfl)).trans m15, (uJ_ne (show ¬ 16 = 14 from Nat.ne_of_beq_eq_false rfl)).trans m16, (uJ_ne (show ¬ 17 = 14 from Nat.ne_of_beq_eq_false rfl)).trans m17, (uJ_ne (show ¬ 18 = 14 from Nat.ne_of_beq_eq_false rfl)).trans m18⟩, fun i hi => ?_, fun t h1 h2 h3 => ?_⟩, hW, by omega, ?_⟩
                              · have z := ma i hi
                                exact ⟨(uI_o (show ¬ (243 = 235 ∧ i = 14) from fun e => absurd e.1 (Nat.ne_of_beq_eq_false rfl))).trans z.1, (uI_o (show ¬ (244 = 235 ∧ i = 14) from fun e => absurd e.1 (Nat.ne_of_beq_eq_false rfl))).trans z.2⟩
                              · exact (uI_o (show ¬ (242 = 235 ∧ (t % 8) = 14) from fun e => absurd e.1 (Nat.ne_of_beq_eq_false rfl))).trans (mr t h1 h2 h3)
                              unfold rnF
                              rw [hend]
                              congr 1 <;> omega)) (Nat.lt_succ_self _)
      ·
        refine ⟨_, rfl, (by decide), (by decide), ?_⟩
        refine ⟨_, rfl, (by decide), ?_⟩
        refine fun w0 hw0 => ?_; obtain rfl : w0 = some 236 := hw0.symm.trans (FS.g hF rfl)
        refine ⟨_, rfl, (by decide), (show (0 : Int) ≤ (wr ((wr (40 + (wr (36 * v0)))) + 1)) from by first | with_reducible assumption | omega | (simp only [wr, wl] at *; omega)), (show (wr ((wr (40 + (wr (36 * v0)))) + 1)) < (1340 : Int) from by first | with_reducible assumption | omega | (simp only [wr, wl] at *; omega)), ?_⟩
        have hend : fsR ld P (fun k => I 236 (42 + 36 * Int.toNat v0 + 2 * k)) (fun k => I 236 (43 + 36 * Int.toNat v0 + 2 * k)) (Int.toNat (I 236 (41 + 36 * Int.toNat v0))) 0 S0 = (U, Int.toNat k) := hTT.symm.trans (by first | (exact fsR_e (Or.inl (by omega))) | (exact fsR_e (Or.inr (by omega))))
        refine r_go9_l2 hF hR h8 hpr (by omega) (TT := rnF ld P (fun k => I 236 (42 + 36 * Int.toNat v0 + 2 * k)) (fun k => I 236 (43 + 36 * Int.toNat v0 + 2 * k)) (Int.toNat (I 236 (41 + 36 * Int.toNat v0))) (Int.toNat (I 236 (40 + 36 * Int.toNat v0)))) (EE := enF ld P (fun k => I 236 (42 + 36 * Int.toNat v0 + 2 * k)) (fun k => I 236 (43 + 36 * Int.toNat v0 + 2 * k)) (Int.toNat (I 236 (41 + 36 * Int.toNat v0)))) hQ _ (J 236 (Int.toNat (wr ((wr (40 + (wr (36 * v0)))) + 1)))) k (uI J 235 14 1) (Rg.u hJ (Pr_f rfl)) (fun ka ja hk => ((uI_o (show ¬ (ka = 235 ∧ ja = 14) from by first | (intro e; obtain ⟨rfl, rfl⟩ := e; exact hk (by decide)) | omega))).trans ((hV ka ja (by omega)))) (show (0 : Int) ≤ (J 236 (Int.toNat (wr ((wr (40 + (wr (36 * v0)))) + 1)))) from by first | with_reducible assumption | omega | (simp only [wr, wl] at *; omega)) (show ((J 236 (Int.toNat (wr ((wr (40 + (wr (36 * v0)))) + 1)))) : Int) ≤ 17 from by first | with_reducible assumption | omega | (simp only [wr, wl] at *; omega)) (show (J 236 (Int.toNat (wr ((wr (40 + (wr (36 * v0)))) + 1)))) ≤ (I 236 (40 + 36 * Int.toNat v0)) from by first | with_reducible assumption | omega | (simp only [wr, wl] at *; omega)) ((by
                              unfold enF
                              rw [hend]
                              show k = if U 0 2 = 0 then ((Int.toNat k : Nat) : Int) else ((Int.toNat k : Nat) : Int) - 1
                              first | (rw [if_pos (by omega)]; omega) | (rw [if_neg (by omega)]; omega))) (RR9_f hq (uJ_ne (show ¬ 11 = 14 from Nat.ne_of_beq_eq_false rfl)) (fun j => uI_o (show ¬ (236 = 235 ∧ j = 14) from fun e => absurd e.1 (Nat.ne_of_beq_eq_false rfl)))) ((by
                              refine ⟨U, ⟨⟨(uJ_ne (show ¬ 12 = 14 from Nat.ne_of_beq_eq_false rfl)).trans m12, (uJ_ne (show ¬ 13 = 14 from Nat.ne_of_beq_eq_false rfl)).trans m13, uJ_eq, (uJ_ne (show ¬ 15 = 14 from Nat.ne_of_beq_eq_false rfl)).trans m15, (uJ_ne (show ¬ 16 = 14 from Nat.ne_of_beq_eq_false rfl)).trans m16, (uJ_ne (show ¬ 17 = 14 from Nat.ne_of_beq_eq_false rfl)).trans m17, (uJ_ne (show ¬ 18 = 14 from Nat.ne_of_beq_eq_false rfl)).trans m18⟩, fun i hi => ?_, fun t h1 h2 h3 => ?_⟩, hW, by omega, ?_⟩
                              · have z := ma i hi
                                exact ⟨(uI_o (show ¬ (243 = 235 ∧ i = 14) from fun e => absurd e.1 (Nat.ne_of_beq_eq_false rfl))).trans z.1, (uI_o (show ¬ (244 = 235 ∧ i = 14) from fun e => absurd e.1 (Nat.ne_of_beq_eq_false rfl))).trans z.2⟩
                              · exact (uI_o (show ¬ (242 = 235 ∧ (t % 8) = 14) from fun e => absurd e.1 (Nat.ne_of_beq_eq_false rfl))).trans (mr t h1 h2 h3)
                              unfold rnF
                              rw [hend]
                              congr 1 <;> omega)) (Nat.lt_succ_self _)
    ·
      refine ⟨_, rfl, (by decide), ?_⟩
      have a13 : -2147483648 ≤ (J 235 15) ∧ (J 235 15) < 2147483648 := hA.1 _ _
      refine ⟨fun (c14 : (¬ ((J 235 15) : Int) = 0)) => ?_, fun (c14 : (((J 235 15) : Int) = 0)) => ?_⟩
      ·
        refine ⟨_, rfl, (by decide), ?_⟩
        refine ⟨fun _ => ?_, fun c => absurd c (show (¬ ((J 235 15) : Int) = 0) from by first | omega | (simp only [wr, wl] at *; omega))⟩
        refine ⟨_, rfl, (by decide), (by decide), ?_⟩
        refine ⟨_, rfl, (by decide), ?_⟩
        refine fun w0 hw0 => ?_; obtain rfl : w0 = some 236 := hw0.symm.trans (FS.g hF rfl)
        refine ⟨_, rfl, (by decide), (show (0 : Int) ≤ (wr ((wr (40 + (wr (36 * v0)))) + 1)) from by first | with_reducible assumption | omega | (simp only [wr, wl] at *; omega)), (show (wr ((wr (40 + (wr (36 * v0)))) + 1)) < (1340 : Int) from by first | with_reducible assumption | omega | (simp only [wr, wl] at *; omega)), ?_⟩
        have hend : fsR ld P (fun k => I 236 (42 + 36 * Int.toNat v0 + 2 * k)) (fun k => I 236 (43 + 36 * Int.toNat v0 + 2 * k)) (Int.toNat (I 236 (41 + 36 * Int.toNat v0))) 0 S0 = (U, Int.toNat k) := hTT.symm.trans (by first | (exact fsR_e (Or.inl (by omega))) | (exact fsR_e (Or.inr (by omega))))
        have n15 : (wr (k - 1)) = k - 1 := wr_id (show -2147483648 ≤ (k - 1 : Int) ∧ (k - 1 : Int) < 2147483648 from by omega)
        refine r_go9_l2 hF hR h8 hpr (by omega) (TT := rnF ld P (fun k => I 236 (42 + 36 * Int.toNat v0 + 2 * k)) (fun k => I 236 (43 + 36 * Int.toNat v0 + 2 * k)) (Int.toNat (I 236 (41 + 36 * Int.toNat v0))) (Int.toNat (I 236 (40 + 36 * Int.toNat v0)))) (EE := enF ld P (fun k => I 236 (42 + 36 * Int.toNat v0 + 2 * k)) (fun k => I 236 (43 + 36 * Int.toNat v0 + 2 * k)) (Int.toNat (I 236 (41 + 36 * Int.toNat v0)))) hQ _ (J 236 (Int.toNat (wr ((wr (40 + (wr (36 * v0)))) + 1)))) (wr (k - 1)) (uI J 235 14 1) (Rg.u hJ (Pr_f rfl)) (fun ka ja hk => ((uI_o (show ¬ (ka = 235 ∧ ja = 14) from by first | (intro e; obtain ⟨rfl, rfl⟩ := e; exact hk (by decide)) | omega))).trans ((hV ka ja (by omega)))) (show (0 : Int) ≤ (J 236 (Int.toNat (wr ((wr (40 + (wr (36 * v0)))) + 1)))) from by first | with_reducible assumption | omega | (simp only [wr, wl] at *; omega)) (show ((J 236 (Int.toNat (wr ((wr (40 + (wr (36 * v0)))) + 1)))) : Int) ≤ 17 from by first | with_reducible assumption | omega | (simp only [wr, wl] at *; omega)) (show (J 236 (Int.toNat (wr ((wr (40 + (wr (36 * v0)))) + 1)))) ≤ (I 236 (40 + 36 * Int.toNat v0)) from by first | with_reducible assumption | omega | (simp only [wr, wl] at *; omega)) ((by
                              unfold enF
                              rw [hend]
                              show (wr (k - 1)) = if U 0 2 = 0 then ((Int.toNat k : Nat) : Int) else ((Int.toNat k : Nat) : Int) - 1
                              first | (rw [if_pos (by omega)]; omega) | (rw [if_neg (by omega)]; omega))) (RR9_f hq (uJ_ne (show ¬ 11 = 14 from Nat.ne_of_beq_eq_false rfl)) (fun j => uI_o (show ¬ (236 = 235 ∧ j = 14) from fun e => absurd e.1 (Nat.ne_of_beq_eq_false rfl)))) ((by
                              refine ⟨U, ⟨⟨(uJ_ne (show ¬ 12 = 14 from Nat.ne_of_beq_eq_false rfl)).trans m12, (uJ_ne (show ¬ 13 = 14 from Nat.ne_of_beq_eq_false rfl)).trans m13, uJ_eq, (uJ_ne (show ¬ 15 = 14 from Nat.ne_of_beq_eq_false rfl)).trans m15, (uJ_ne (show ¬ 16 = 14 from Nat.ne_of_beq_eq_false rfl)).trans m16, (uJ_ne (show ¬ 17 = 14 from Nat.ne_of_beq_eq_false rfl)).trans m17, (uJ_ne (show ¬ 18 = 14 from Nat.ne_of_beq_eq_false rfl)).trans m18⟩, fun i hi => ?_, fun t h1 h2 h3 => ?_⟩, hW, by omega, ?_⟩
                              · have z := ma i hi
                                exact ⟨(uI_o (show ¬ (243 = 235 ∧ i = 14) from fun e => absurd e.1 (Nat.ne_of_beq_eq_false rfl))).trans z.1, (uI_o (show ¬ (244 = 235 ∧ i = 14) from fun e => absurd e.1 (Nat.ne_of_beq_eq_false rfl))).trans z.2⟩
                              · exact (uI_o (show ¬ (242 = 235 ∧ (t % 8) = 14) from fun e => absurd e.1 (Nat.ne_of_beq_eq_false rfl))).trans (mr t h1 h2 h3)
                              unfold rnF
                              rw [hend]
                              congr 1 <;> omega)) (Nat.lt_succ_self _)
      ·
        refine ⟨_, rfl, (by decide), ?_⟩
        refine fun w0 hw0 => ?_; obtain rfl : w0 = some 236 := hw0.symm.trans (FS.g hF rfl)
        have n16 : (wr ((wr (40 + (wr (36 * v0)))) + 2)) = (wr (40 + (wr (36 * v0)))) + 2 := wr_id (show -2147483648 ≤ ((wr (40 + (wr (36 * v0)))) + 2 : Int) ∧ ((wr (40 + (wr (36 * v0)))) + 2 : Int) < 2147483648 from by omega)
        have n17 : (wr (2 * k)) = 2 * k := wr_id (show -2147483648 ≤ (2 * k : Int) ∧ (2 * k : Int) < 2147483648 from by omega)
        have n18 : (wr ((wr ((wr (40 + (wr (36 * v0)))) + 2)) + (wr (2 * k)))) = (wr ((wr (40 + (wr (36 * v0)))) + 2)) + (wr (2 * k)) := wr_id (show -2147483648 ≤ ((wr ((wr (40 + (wr (36 * v0)))) + 2)) + (wr (2 * k)) : Int) ∧ ((wr ((wr (40 + (wr (36 * v0)))) + 2)) + (wr (2 * k)) : Int) < 2147483648 from by omega)
        refine ⟨_, rfl, (by decide), (show (0 : Int) ≤ (wr ((wr ((wr (40 + (wr (36 * v0)))) + 2)) + (wr (2 * k)))) from by first | with_reducible assumption | omega | (simp only [wr, wl] at *; omega)), (show (wr ((wr ((wr (40 + (wr (36 * v0)))) + 2)) + (wr (2 * k)))) < (1340 : Int) from by first | with_reducible assumption | omega | (simp only [wr, wl] at *; omega)), ?_⟩
        have z19 : (I 236 (Int.toNat (wr ((wr ((wr (40 + (wr (36 * v0)))) + 2)) + (wr (2 * k)))))) = (I 236 (42 + 36 * Int.toNat v0 + 2 * Int.toNat k)) := congrArg (I 236) (by omega)
        have z20 := hpr.2 (Int.toNat k) (by omega)
        have u21 : (J 236 (Int.toNat (wr ((wr ((wr (40 + (wr (36 * v0)))) + 2)) + (wr (2 * k)))))) = (I 236 (Int.toNat (wr ((wr ((wr (40 + (wr (36 * v0)))) + 2)) + (wr (2 * k)))))) := hV _ _ (by first | decide | omega)
        have a22 : -2147483648 ≤ (J 236 (Int.toNat (wr ((wr ((wr (40 + (wr (36 * v0)))) + 2)) + (wr (2 * k)))))) ∧ (J 236 (Int.toNat (wr ((wr ((wr (40 + (wr (36 * v0)))) + 2)) + (wr (2 * k)))))) < 2147483648 := hA.1 _ _
        refine ⟨_, rfl, (by decide), ?_⟩
        refine fun w0 hw0 => ?_; obtain rfl : w0 = some 236 := hw0.symm.trans (FS.g hF rfl)
        have n23 : (wr ((wr ((wr ((wr (40 + (wr (36 * v0)))) + 2)) + (wr (2 * k)))) + 1)) = (wr ((wr ((wr (40 + (wr (36 * v0)))) + 2)) + (wr (2 * k)))) + 1 := wr_id (show -2147483648 ≤ ((wr ((wr ((wr (40 + (wr (36 * v0)))) + 2)) + (wr (2 * k)))) + 1 : Int) ∧ ((wr ((wr ((wr (40 + (wr (36 * v0)))) + 2)) + (wr (2 * k)))) + 1 : Int) < 2147483648 from by omega)
        refine ⟨_, rfl, (by decide), (show (0 : Int) ≤ (wr ((wr ((wr ((wr (40 + (wr (36 * v0)))) + 2)) + (wr (2 * k)))) + 1)) from by first | with_reducible assumption | omega | (simp only [wr, wl] at *; omega)), (show (wr ((wr ((wr ((wr (40 + (wr (36 * v0)))) + 2)) + (wr (2 * k)))) + 1)) < (1340 : Int) from by first | with_reducible assumption | omega | (simp only [wr, wl] at *; omega)), ?_⟩
        have z24 : (I 236 (Int.toNat (wr ((wr ((wr ((wr (40 + (wr (36 * v0)))) + 2)) + (wr (2 * k)))) + 1)))) = (I 236 (43 + 36 * Int.toNat v0 + 2 * Int.toNat k)) := congrArg (I 236) (by omega)
        have r25 : (I 236 (Int.toNat (wr ((wr ((wr ((wr (40 + (wr (36 * v0)))) + 2)) + (wr (2 * k)))) + 1)))) ≤ 300000 := Pn_ga2 (p := Int.toNat ((wr ((wr ((wr ((wr (40 + (wr (36 * v0)))) + 2)) + (wr (2 * k)))) + 1)) - 40)) (by omega) (by omega) (hR.n (Int.toNat (wr ((wr ((wr ((wr (40 + (wr (36 * v0)))) + 2)) + (wr (2 * k)))) + 1))) (by omega))
        have u26 : (J 236 (Int.toNat (wr ((wr ((wr ((wr (40 + (wr (36 * v0)))) + 2)) + (wr (2 * k)))) + 1)))) = (I 236 (Int.toNat (wr ((wr ((wr ((wr (40 + (wr (36 * v0)))) + 2)) + (wr (2 * k)))) + 1)))) := hV _ _ (by first | decide | omega)
        have a27 : -2147483648 ≤ (J 236 (Int.toNat (wr ((wr ((wr ((wr (40 + (wr (36 * v0)))) + 2)) + (wr (2 * k)))) + 1)))) ∧ (J 236 (Int.toNat (wr ((wr ((wr ((wr (40 + (wr (36 * v0)))) + 2)) + (wr (2 * k)))) + 1)))) < 2147483648 := hA.1 _ _
        have r28 : (J 236 (Int.toNat (wr ((wr ((wr ((wr (40 + (wr (36 * v0)))) + 2)) + (wr (2 * k)))) + 1)))) ≤ 300000 := Pn_ga2 (p := Int.toNat ((wr ((wr ((wr ((wr (40 + (wr (36 * v0)))) + 2)) + (wr (2 * k)))) + 1)) - 40)) (by omega) (by omega) (hJ.n (Int.toNat (wr ((wr ((wr ((wr (40 + (wr (36 * v0)))) + 2)) + (wr (2 * k)))) + 1))) (by omega))
        refine ⟨⟨_, rfl, (by decide)⟩, ?_⟩
        refine r_does9 (v0 := (J 236 (Int.toNat (wr ((wr ((wr (40 + (wr (36 * v0)))) + 2)) + (wr (2 * k))))))) (v1 := (J 236 (Int.toNat (wr ((wr ((wr ((wr (40 + (wr (36 * v0)))) + 2)) + (wr (2 * k)))) + 1))))) hF hJ hq (Or.inl rfl) (by omega) (300000 * k) (by omega) (by omega) hU hW (by omega) (fun I29 hR30 hA31 hW32 qr33 => ?_)
        have n34 : (wr (k + 1)) = k + 1 := wr_id (show -2147483648 ≤ (k + 1 : Int) ∧ (k + 1 : Int) < 2147483648 from by omega)
        exact ih (wr (k + 1)) I29 hR30 (fun ka ja hk => ((hW32 ka ja (by omega))).trans ((hV ka ja (by omega)))) (show (0 : Int) ≤ (wr (k + 1)) from by first | with_reducible assumption | omega | (simp only [wr, wl] at *; omega)) (show ((wr (k + 1)) : Int) ≤ 17 from by first | with_reducible assumption | omega | (simp only [wr, wl] at *; omega)) (show (wr (k + 1)) ≤ (I 236 (41 + 36 * Int.toNat v0)) from by first | with_reducible assumption | omega | (simp only [wr, wl] at *; omega)) (RR9_f hq (hW32 235 (11) (by omega)) (fun j => hW32 236 (j) (by omega))) ((by
                              have hw : U 0 2 = 0 := by omega
                              rw [show Int.toNat ((I 236 (41 + 36 * Int.toNat v0)) - k) = Int.toNat ((I 236 (41 + 36 * Int.toNat v0)) - (wr (k + 1))) + 1 from by omega, fsR_s hw] at hTT
                              have hr := qr33
                              rw [show (J 236 (Int.toNat (wr ((wr ((wr (40 + (wr (36 * v0)))) + 2)) + (wr (2 * k)))))) = I 236 (42 + 36 * Int.toNat v0 + 2 * Int.toNat k) from by omega, show (J 236 (Int.toNat (wr ((wr ((wr ((wr (40 + (wr (36 * v0)))) + 2)) + (wr (2 * k)))) + 1)))) = I 236 (43 + 36 * Int.toNat v0 + 2 * Int.toNat k) from by omega] at hr
                              rw [show Int.toNat k + 1 = Int.toNat (wr (k + 1)) from by omega] at hTT
                              have hp := WS_d (ld := ld) (P := P) (il := 0) (act := I 236 (42 + 36 * Int.toNat v0 + 2 * Int.toNat k)) (amt := I 236 (43 + 36 * Int.toNat v0 + 2 * Int.toNat k)) hW (by omega)
                              exact ⟨_, hr, hp.1, (by omega), hTT⟩)) (show (17 - (wr (k + 1))).toNat < mz from by omega)
theorem r_go9 (hF : FS F) (hR : Rg I) {v0 v1 : Int} {ld : Int → Int} {P : Nat → Int} {pp : Nat} (h8 : RR8 ld P pp I) (hpr : PR8 (Int.toNat v0) I) (hg : 0 ≤ v0 ∧ v0 ≤ 3) (hpv : v1 = pp) (hQ : ∀ (r : Int) (I' : pI), Rg I' → AR I' → iR r → (∀ k j, ¬ ((k = 235 ∧ 11 ≤ j ∧ j ≤ 18) ∨ (242 ≤ k ∧ k ≤ 244)) → I' k j = I k j) → (MR 1 (rnF ld P (fun k => I 236 (42 + 36 * Int.toNat v0 + 2 * k)) (fun k => I 236 (43 + 36 * Int.toNat v0 + 2 * k)) (Int.toNat (I 236 (41 + 36 * Int.toNat v0))) (Int.toNat (I 236 (40 + 36 * Int.toNat v0)))) I' ∧ r = enF ld P (fun k => I 236 (42 + 36 * Int.toNat v0 + 2 * k)) (fun k => I 236 (43 + 36 * Int.toNat v0 + 2 * k)) (Int.toNat (I 236 (41 + 36 * Int.toNat v0)))) → Q (some (vi r)) F I') : CallN G (d + 6) kX12_goThrough [vr 235, vi v0, vi v1] NP F I Q := by
  refine CallN_in (fun hok hA => CallN_out ?_)
  have iv0 : -2147483648 ≤ v0 ∧ v0 < 2147483648 := hok (vi v0) (by simp)
  have iv1 : -2147483648 ≤ v1 ∧ v1 < 2147483648 := hok (vi v1) (by simp)
  have hp13 := h8.1
  have hpp := hpr.1
  refine Call_wp (lv := [some (vr 235), some (vi v0), some (vi v1), none, none, none]) (by decide) ckX12_goThrough [51] rfl rfl ?_
  refine ⟨_, rfl, (by decide), ?_⟩
  have p1 : (0 : Int) ≤ v1 ∧ (v1 : Int) ≤ 13 := by first | omega | (simp only [wr, wl] at *; omega)
  refine ⟨_, rfl, (by decide), ?_⟩
  have p2 : (0 : Int) ≤ 0 ∧ (0 : Int) ≤ 20000000 := by decide
  refine ⟨_, rfl, (by decide), (by decide), ?_⟩
  refine ⟨_, rfl, (by decide), (by decide), ?_⟩
  refine ⟨_, rfl, (by decide), ?_⟩
  refine ⟨_, rfl, (by decide), ?_⟩
  have p3 : (0 : Int) ≤ 0 ∧ (0 : Int) ≤ 20000000 := by decide
  refine ⟨_, rfl, (by decide), ?_⟩
  refine ⟨_, rfl, (by decide), ?_⟩
  have p4 : (0 : Int) ≤ 0 ∧ (0 : Int) ≤ 24 := by decide
  refine r_go9_l1 hF hR h8 hpr (by omega) (fun r I' g1 g2 g3 hv hA' => hQ _ _ g1 hA' (hv _ rfl) g2 g3) _ 0 (uI (uI (uI (uI (uI (uI (uI (uI I 235 11 v1) 235 12 0) 235 13 0) 235 14 0) 235 15 0) 235 16 0) 235 17 0) 235 18 0) (Rg.u (Rg.u (Rg.u (Rg.u (Rg.u (Rg.u (Rg.u (Rg.u hR (Pr_x11 p1)) (Pr_x12 p2)) (Pr_f rfl)) (Pr_f rfl)) (Pr_f rfl)) (Pr_x16 p3)) (Pr_f rfl)) (Pr_x18 p4)) (fun ka ja hk => ((uI_o (show ¬ (ka = 235 ∧ ja = 18) from by first | (intro e; obtain ⟨rfl, rfl⟩ := e; exact hk (by decide)) | omega))).trans (((uI_o (show ¬ (ka = 235 ∧ ja = 17) from by first | (intro e; obtain ⟨rfl, rfl⟩ := e; exact hk (by decide)) | omega))).trans (((uI_o (show ¬ (ka = 235 ∧ ja = 16) from by first | (intro e; obtain ⟨rfl, rfl⟩ := e; exact hk (by decide)) | omega))).trans (((uI_o (show ¬ (ka = 235 ∧ ja = 15) from by first | (intro e; obtain ⟨rfl, rfl⟩ := e; exact hk (by decide)) | omega))).trans (((uI_o (show ¬ (ka = 235 ∧ ja = 14) from by first | (intro e; obtain ⟨rfl, rfl⟩ := e; exact hk (by decide)) | omega))).trans (((uI_o (show ¬ (ka = 235 ∧ ja = 13) from by first | (intro e; obtain ⟨rfl, rfl⟩ := e; exact hk (by decide)) | omega))).trans (((uI_o (show ¬ (ka = 235 ∧ ja = 12) from by first | (intro e; obtain ⟨rfl, rfl⟩ := e; exact hk (by decide)) | omega))).trans ((uI_o (show ¬ (ka = 235 ∧ ja = 11) from by first | (intro e; obtain ⟨rfl, rfl⟩ := e; exact hk (by decide)) | omega)))))))))) (show (0 : Int) ≤ (0 : Int) from Int.le_refl _) (show ((0 : Int) : Int) ≤ 17 from by first | with_reducible assumption | omega | (simp only [wr, wl] at *; omega)) (show (0 : Int) ≤ (I 236 (41 + 36 * Int.toNat v0)) from by first | with_reducible assumption | omega | (simp only [wr, wl] at *; omega)) (RR8_9 h8 (((uJ_ne (show ¬ 11 = 18 from Nat.ne_of_beq_eq_false rfl)).trans ((uJ_ne (show ¬ 11 = 17 from Nat.ne_of_beq_eq_false rfl)).trans ((uJ_ne (show ¬ 11 = 16 from Nat.ne_of_beq_eq_false rfl)).trans ((uJ_ne (show ¬ 11 = 15 from Nat.ne_of_beq_eq_false rfl)).trans ((uJ_ne (show ¬ 11 = 14 from Nat.ne_of_beq_eq_false rfl)).trans ((uJ_ne (show ¬ 11 = 13 from Nat.ne_of_beq_eq_false rfl)).trans ((uJ_ne (show ¬ 11 = 12 from Nat.ne_of_beq_eq_false rfl)).trans (uJ_eq)))))))).trans hpv) (fun j => (uI_o (show ¬ (236 = 235 ∧ j = 18) from fun e => absurd e.1 (Nat.ne_of_beq_eq_false rfl))).trans ((uI_o (show ¬ (236 = 235 ∧ j = 17) from fun e => absurd e.1 (Nat.ne_of_beq_eq_false rfl))).trans ((uI_o (show ¬ (236 = 235 ∧ j = 16) from fun e => absurd e.1 (Nat.ne_of_beq_eq_false rfl))).trans ((uI_o (show ¬ (236 = 235 ∧ j = 15) from fun e => absurd e.1 (Nat.ne_of_beq_eq_false rfl))).trans ((uI_o (show ¬ (236 = 235 ∧ j = 14) from fun e => absurd e.1 (Nat.ne_of_beq_eq_false rfl))).trans ((uI_o (show ¬ (236 = 235 ∧ j = 13) from fun e => absurd e.1 (Nat.ne_of_beq_eq_false rfl))).trans ((uI_o (show ¬ (236 = 235 ∧ j = 12) from fun e => absurd e.1 (Nat.ne_of_beq_eq_false rfl))).trans (uI_o (show ¬ (236 = 235 ∧ j = 11) from fun e => absurd e.1 (Nat.ne_of_beq_eq_false rfl))))))))))) ((by
                              exact ⟨S0, ⟨⟨((uJ_ne (show ¬ 12 = 18 from Nat.ne_of_beq_eq_false rfl)).trans ((uJ_ne (show ¬ 12 = 17 from Nat.ne_of_beq_eq_false rfl)).trans ((uJ_ne (show ¬ 12 = 16 from Nat.ne_of_beq_eq_false rfl)).trans ((uJ_ne (show ¬ 12 = 15 from Nat.ne_of_beq_eq_false rfl)).trans ((uJ_ne (show ¬ 12 = 14 from Nat.ne_of_beq_eq_false rfl)).trans ((uJ_ne (show ¬ 12 = 13 from Nat.ne_of_beq_eq_false rfl)).trans (uJ_eq))))))), ((uJ_ne (show ¬ 13 = 18 from Nat.ne_of_beq_eq_false rfl)).trans ((uJ_ne (show ¬ 13 = 17 from Nat.ne_of_beq_eq_false rfl)).trans ((uJ_ne (show ¬ 13 = 16 from Nat.ne_of_beq_eq_false rfl)).trans ((uJ_ne (show ¬ 13 = 15 from Nat.ne_of_beq_eq_false rfl)).trans ((uJ_ne (show ¬ 13 = 14 from Nat.ne_of_beq_eq_false rfl)).trans (uJ_eq)))))), ((uJ_ne (show ¬ 14 = 18 from Nat.ne_of_beq_eq_false rfl)).trans ((uJ_ne (show ¬ 14 = 17 from Nat.ne_of_beq_eq_false rfl)).trans ((uJ_ne (show ¬ 14 = 16 from Nat.ne_of_beq_eq_false rfl)).trans ((uJ_ne (show ¬ 14 = 15 from Nat.ne_of_beq_eq_false rfl)).trans (uJ_eq))))), ((uJ_ne (show ¬ 15 = 18 from Nat.ne_of_beq_eq_false rfl)).trans ((uJ_ne (show ¬ 15 = 17 from Nat.ne_of_beq_eq_false rfl)).trans ((uJ_ne (show ¬ 15 = 16 from Nat.ne_of_beq_eq_false rfl)).trans (uJ_eq)))), ((uJ_ne (show ¬ 16 = 18 from Nat.ne_of_beq_eq_false rfl)).trans ((uJ_ne (show ¬ 16 = 17 from Nat.ne_of_beq_eq_false rfl)).trans (uJ_eq))), ((uJ_ne (show ¬ 17 = 18 from Nat.ne_of_beq_eq_false rfl)).trans (uJ_eq)), (uJ_eq)⟩, fun i hi => absurd hi (by unfold S0; omega), fun t h1 h2 h3 => absurd h2 (by unfold S0; omega)⟩, WS_0, (by unfold S0; omega), (by rw [Int.sub_zero]; rfl)⟩)) (Nat.lt_succ_self _)
end RM9
