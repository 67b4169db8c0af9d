/-! the reference reads a text, from any state. Own work (scripts laid by wip/pm/gen30.py). -/
section RT
variable {G : pG} {d : Nat} {F : pF} {I : pI} {Q : Option pV → pF → pI → Prop}
theorem r_goOn_l2 (hF : FS F) (hR : Rg I) (h2 : I 235 7 ≤ I 236 2) (hQ : ∀ (I' : pI), Rg I' → (∀ k j, ¬ ((k = 235 ∧ (j = 6 ∨ j = 7))) → I' k j = I k j) → ((I 235 7) ≤ (I' 235 6)) → ((I' 235 6) ≤ (I' 235 7)) → ((I' 235 7) ≤ (I 236 2)) → ((I' 235 6) < (I 236 2) → (I' 235 6) < (I' 235 7)) → Q none F I') : ∀ (mz : Nat) (a b : Int) (J : pI), Rg J → (∀ k j, ¬ ((k = 235 ∧ (j = 6 ∨ j = 7))) → J k j = I k j) → (I 235 7 ≤ (J 235 6)) → ((J 235 6) ≤ (J 235 7)) → ((J 235 7) ≤ I 236 2) → ((J 235 6) < I 236 2 → (J 235 6) < (J 235 7)) → (64 - (J 235 7)).toNat < mz → GoN G (d + 2) kX12_goOn NP NP 97 [some (vr 235), some (vi a), some (vi b)] [] F J Q := by
  intro mz
  induction mz with
  | zero => intro a b J hJ hV _ _ _ _ h; exact absurd h (Nat.not_lt_zero _)
  | succ mz ih =>
    intro a b J hJ hV c100 c101 c102 c103 hm
    refine GoN_in (fun hok hA => ?_)
    have iia : -2147483648 ≤ a ∧ a < 2147483648 := hok 1 _ rfl
    have iib : -2147483648 ≤ b ∧ b < 2147483648 := hok 2 _ rfl
    have g2 := Rg.n2 hR
    have r1 : 0 ≤ (J 235 6) ∧ (J 235 6) ≤ 64 := Rg.f6 hJ
    have a2 : -2147483648 ≤ (J 235 6) ∧ (J 235 6) < 2147483648 := hA.1 _ _
    have r3 : 0 ≤ (J 235 7) ∧ (J 235 7) ≤ 64 := Rg.f7 hJ
    have a4 : -2147483648 ≤ (J 235 7) ∧ (J 235 7) < 2147483648 := hA.1 _ _
    refine Go_wp (by decide) ckX12_goOn [97] ?_
    refine ⟨fun (c5 : ((a : Int) = 0)) => ?_, fun (c5 : (¬ ((a : Int) = 0))) => ?_⟩
    ·
      refine ⟨fun (c6 : ((b : Int) = 0)) => ?_, fun (c6 : (¬ ((b : Int) = 0))) => ?_⟩
      ·
        have r7 : 0 ≤ (I 235 7) ∧ (I 235 7) ≤ 64 := Rg.f7 hR
        have r8 : 0 ≤ (I 236 2) ∧ (I 236 2) ≤ 64 := Rg.n2 hR
        exact ⟨rfl, hQ _ hJ (fun ka ja hk => (hV ka ja (by omega))) (show (I 235 7) ≤ (J 235 6) from by first | omega | (simp only [wr, wl] at *; omega)) (show (J 235 6) ≤ (J 235 7) from by first | omega | (simp only [wr, wl] at *; omega)) (show (J 235 7) ≤ (I 236 2) from by first | omega | (simp only [wr, wl] at *; omega)) (show (J 235 6) < (I 236 2) → (J 235 6) < (J 235 7) from by first | omega | (simp only [wr, wl] at *; omega))⟩
      ·
        refine ⟨_, rfl, (by decide), ?_⟩
        refine ⟨⟨_, rfl, (by decide)⟩, ?_⟩
        refine Call_wp (lv := [some (vr 235), some (vi (J 235 7)), some (vi 48), some (vi 57)]) (by decide) ckX12_isByte [] rfl rfl ?_
        refine ⟨_, rfl, (by decide), ?_⟩
        refine fun w0 hw0 => ?_; obtain rfl : w0 = some 236 := hw0.symm.trans (FS.g hF rfl)
        refine ⟨_, rfl, (by decide), (by decide), (by decide), ?_⟩
        have r9 : 0 ≤ (I 236 2) ∧ (I 236 2) ≤ 64 := Rg.n2 hR
        have u10 : (J 236 2) = (I 236 2) := hV _ _ (by first | omega | decide)
        have a11 : -2147483648 ≤ (J 236 2) ∧ (J 236 2) < 2147483648 := hA.1 _ _
        have r12 : 0 ≤ (J 236 2) ∧ (J 236 2) ≤ 64 := Rg.n2 hJ
        refine ⟨fun (c13 : (((J 236 2) : Int) ≤ (J 235 7))) => ?_, fun (c13 : (¬ (((J 236 2) : Int) ≤ (J 235 7)))) => ?_⟩
        ·
          refine ⟨rfl, (by decide), ?_⟩
          refine ⟨fun _ => ?_, fun c => absurd (show ((0 : Int) = 0) from by decide) c⟩
          have r14 : 0 ≤ (I 235 7) ∧ (I 235 7) ≤ 64 := Rg.f7 hR
          exact ⟨rfl, hQ _ hJ (fun ka ja hk => (hV ka ja (by omega))) (show (I 235 7) ≤ (J 235 6) from by first | omega | (simp only [wr, wl] at *; omega)) (show (J 235 6) ≤ (J 235 7) from by first | omega | (simp only [wr, wl] at *; omega)) (show (J 235 7) ≤ (I 236 2) from by first | omega | (simp only [wr, wl] at *; omega)) (show (J 235 6) < (I 236 2) → (J 235 6) < (J 235 7) from by first | omega | (simp only [wr, wl] at *; omega))⟩
        ·
          refine ⟨_, rfl, (by decide), ?_⟩
          refine fun w0 hw0 => ?_; obtain rfl : w0 = some 236 := hw0.symm.trans (FS.g hF rfl)
          have n15 : (wr (1228 + (J 235 7))) = 1228 + (J 235 7) := wr_id (show -2147483648 ≤ (1228 + (J 235 7) : Int) ∧ (1228 + (J 235 7) : Int) < 2147483648 from by omega)
          refine ⟨_, rfl, (by decide), (show (0 : Int) ≤ (wr (1228 + (J 235 7))) from by first | omega | (simp only [wr, wl] at *; omega)), (show (wr (1228 + (J 235 7))) < (1340 : Int) from by first | omega | (simp only [wr, wl] at *; omega)), ?_⟩
          have r16 : 0 ≤ (I 236 (Int.toNat (wr (1228 + (J 235 7))))) ∧ (I 236 (Int.toNat (wr (1228 + (J 235 7))))) ≤ 255 := Pn_t (by omega) (hR.n (Int.toNat (wr (1228 + (J 235 7)))) (by omega))
          have u17 : (J 236 (Int.toNat (wr (1228 + (J 235 7))))) = (I 236 (Int.toNat (wr (1228 + (J 235 7))))) := hV _ _ (by first | omega | decide)
          have a18 : -2147483648 ≤ (J 236 (Int.toNat (wr (1228 + (J 235 7))))) ∧ (J 236 (Int.toNat (wr (1228 + (J 235 7))))) < 2147483648 := hA.1 _ _
          have r19 : 0 ≤ (J 236 (Int.toNat (wr (1228 + (J 235 7))))) ∧ (J 236 (Int.toNat (wr (1228 + (J 235 7))))) ≤ 255 := Pn_t (by omega) (hJ.n (Int.toNat (wr (1228 + (J 235 7)))) (by omega))
          refine s_X12_within (fun (w20 : ((48 : Int) ≤ (J 236 (Int.toNat (wr (1228 + (J 235 7))))) ∧ ((J 236 (Int.toNat (wr (1228 + (J 235 7))))) : Int) ≤ 57)) => ?_) (fun (w20 : ¬ ((48 : Int) ≤ (J 236 (Int.toNat (wr (1228 + (J 235 7))))) ∧ ((J 236 (Int.toNat (wr (1228 + (J 235 7))))) : Int) ≤ 57)) => ?_)
          ·
            refine ⟨fun c => absurd c (show (¬ ((1 : Int) = 0)) from by decide), fun _ => ?_⟩
            refine ⟨rfl, (by decide), ?_⟩
            refine ⟨fun c => absurd c (show (¬ ((1 : Int) = 0)) from by decide), fun _ => ?_⟩
            refine ⟨_, rfl, (by decide), ?_⟩
            refine ⟨_, rfl, (by decide), ?_⟩
            have n21 : (wr ((J 235 7) + 1)) = (J 235 7) + 1 := wr_id (show -2147483648 ≤ ((J 235 7) + 1 : Int) ∧ ((J 235 7) + 1 : Int) < 2147483648 from by omega)
            have p22 : (0 : Int) ≤ (wr ((J 235 7) + 1)) ∧ ((wr ((J 235 7) + 1)) : Int) ≤ 64 := by first | omega | (simp only [wr, wl] at *; omega)
            exact ih a b (uI J 235 7 (wr ((J 235 7) + 1))) (Rg.u hJ (Pr_x7 p22)) (fun ka ja hk => ((uI_o (show ¬ (ka = 235 ∧ ja = 7) from by omega))).trans ((hV ka ja (by omega)))) (show I 235 7 ≤ (J 235 6) from by first | omega | (simp only [wr, wl] at *; omega)) (show (J 235 6) ≤ (wr ((J 235 7) + 1)) from by first | omega | (simp only [wr, wl] at *; omega)) (show (wr ((J 235 7) + 1)) ≤ I 236 2 from by first | omega | (simp only [wr, wl] at *; omega)) (show (J 235 6) < I 236 2 → (J 235 6) < (wr ((J 235 7) + 1)) from by first | omega | (simp only [wr, wl] at *; omega)) (show (64 - (wr ((J 235 7) + 1))).toNat < mz from by omega)
          ·
            refine ⟨fun _ => ?_, fun c => absurd (show ((0 : Int) = 0) from by decide) c⟩
            refine ⟨rfl, (by decide), ?_⟩
            refine ⟨fun _ => ?_, fun c => absurd (show ((0 : Int) = 0) from by decide) c⟩
            have r23 : 0 ≤ (I 235 7) ∧ (I 235 7) ≤ 64 := Rg.f7 hR
            exact ⟨rfl, hQ _ hJ (fun ka ja hk => (hV ka ja (by omega))) (show (I 235 7) ≤ (J 235 6) from by first | omega | (simp only [wr, wl] at *; omega)) (show (J 235 6) ≤ (J 235 7) from by first | omega | (simp only [wr, wl] at *; omega)) (show (J 235 7) ≤ (I 236 2) from by first | omega | (simp only [wr, wl] at *; omega)) (show (J 235 6) < (I 236 2) → (J 235 6) < (J 235 7) from by first | omega | (simp only [wr, wl] at *; omega))⟩
    ·
      refine ⟨_, rfl, (by decide), ?_⟩
      refine ⟨⟨_, rfl, (by decide)⟩, ?_⟩
      refine Call_wp (lv := [some (vr 235), some (vi (J 235 7)), some (vi 97), some (vi 122)]) (by decide) ckX12_isByte [] rfl rfl ?_
      refine ⟨_, rfl, (by decide), ?_⟩
      refine fun w0 hw0 => ?_; obtain rfl : w0 = some 236 := hw0.symm.trans (FS.g hF rfl)
      refine ⟨_, rfl, (by decide), (by decide), (by decide), ?_⟩
      have r24 : 0 ≤ (I 236 2) ∧ (I 236 2) ≤ 64 := Rg.n2 hR
      have u25 : (J 236 2) = (I 236 2) := hV _ _ (by first | omega | decide)
      have a26 : -2147483648 ≤ (J 236 2) ∧ (J 236 2) < 2147483648 := hA.1 _ _
      have r27 : 0 ≤ (J 236 2) ∧ (J 236 2) ≤ 64 := Rg.n2 hJ
      refine ⟨fun (c28 : (((J 236 2) : Int) ≤ (J 235 7))) => ?_, fun (c28 : (¬ (((J 236 2) : Int) ≤ (J 235 7)))) => ?_⟩
      ·
        refine ⟨rfl, (by decide), ?_⟩
        refine ⟨fun c => absurd (show ((0 : Int) = 0) from by decide) c, fun _ => ?_⟩
        refine ⟨fun (c29 : ((b : Int) = 0)) => ?_, fun (c29 : (¬ ((b : Int) = 0))) => ?_⟩
        ·
          have r30 : 0 ≤ (I 235 7) ∧ (I 235 7) ≤ 64 := Rg.f7 hR
          exact ⟨rfl, hQ _ hJ (fun ka ja hk => (hV ka ja (by omega))) (show (I 235 7) ≤ (J 235 6) from by first | omega | (simp only [wr, wl] at *; omega)) (show (J 235 6) ≤ (J 235 7) from by first | omega | (simp only [wr, wl] at *; omega)) (show (J 235 7) ≤ (I 236 2) from by first | omega | (simp only [wr, wl] at *; omega)) (show (J 235 6) < (I 236 2) → (J 235 6) < (J 235 7) from by first | omega | (simp only [wr, wl] at *; omega))⟩
        ·
          refine ⟨_, rfl, (by decide), ?_⟩
          refine ⟨⟨_, rfl, (by decide)⟩, ?_⟩
          refine Call_wp (lv := [some (vr 235), some (vi (J 235 7)), some (vi 48), some (vi 57)]) (by decide) ckX12_isByte [] rfl rfl ?_
          refine ⟨_, rfl, (by decide), ?_⟩
          refine fun w0 hw0 => ?_; obtain rfl : w0 = some 236 := hw0.symm.trans (FS.g hF rfl)
          refine ⟨_, rfl, (by decide), (by decide), (by decide), ?_⟩
          refine ⟨fun _ => ?_, fun c => absurd (show (((J 236 2) : Int) ≤ (J 235 7)) from by first | omega | (simp only [wr, wl] at *; omega)) c⟩
          refine ⟨rfl, (by decide), ?_⟩
          refine ⟨fun _ => ?_, fun c => absurd (show ((0 : Int) = 0) from by decide) c⟩
          have r31 : 0 ≤ (I 235 7) ∧ (I 235 7) ≤ 64 := Rg.f7 hR
          exact ⟨rfl, hQ _ hJ (fun ka ja hk => (hV ka ja (by omega))) (show (I 235 7) ≤ (J 235 6) from by first | omega | (simp only [wr, wl] at *; omega)) (show (J 235 6) ≤ (J 235 7) from by first | omega | (simp only [wr, wl] at *; omega)) (show (J 235 7) ≤ (I 236 2) from by first | omega | (simp only [wr, wl] at *; omega)) (show (J 235 6) < (I 236 2) → (J 235 6) < (J 235 7) from by first | omega | (simp only [wr, wl] at *; omega))⟩
      ·
        refine ⟨_, rfl, (by decide), ?_⟩
        refine fun w0 hw0 => ?_; obtain rfl : w0 = some 236 := hw0.symm.trans (FS.g hF rfl)
        have n32 : (wr (1228 + (J 235 7))) = 1228 + (J 235 7) := wr_id (show -2147483648 ≤ (1228 + (J 235 7) : Int) ∧ (1228 + (J 235 7) : Int) < 2147483648 from by omega)
        refine ⟨_, rfl, (by decide), (show (0 : Int) ≤ (wr (1228 + (J 235 7))) from by first | omega | (simp only [wr, wl] at *; omega)), (show (wr (1228 + (J 235 7))) < (1340 : Int) from by first | omega | (simp only [wr, wl] at *; omega)), ?_⟩
        have r33 : 0 ≤ (I 236 (Int.toNat (wr (1228 + (J 235 7))))) ∧ (I 236 (Int.toNat (wr (1228 + (J 235 7))))) ≤ 255 := Pn_t (by omega) (hR.n (Int.toNat (wr (1228 + (J 235 7)))) (by omega))
        have u34 : (J 236 (Int.toNat (wr (1228 + (J 235 7))))) = (I 236 (Int.toNat (wr (1228 + (J 235 7))))) := hV _ _ (by first | omega | decide)
        have a35 : -2147483648 ≤ (J 236 (Int.toNat (wr (1228 + (J 235 7))))) ∧ (J 236 (Int.toNat (wr (1228 + (J 235 7))))) < 2147483648 := hA.1 _ _
        have r36 : 0 ≤ (J 236 (Int.toNat (wr (1228 + (J 235 7))))) ∧ (J 236 (Int.toNat (wr (1228 + (J 235 7))))) ≤ 255 := Pn_t (by omega) (hJ.n (Int.toNat (wr (1228 + (J 235 7)))) (by omega))
        refine s_X12_within (fun (w37 : ((97 : Int) ≤ (J 236 (Int.toNat (wr (1228 + (J 235 7))))) ∧ ((J 236 (Int.toNat (wr (1228 + (J 235 7))))) : Int) ≤ 122)) => ?_) (fun (w37 : ¬ ((97 : Int) ≤ (J 236 (Int.toNat (wr (1228 + (J 235 7))))) ∧ ((J 236 (Int.toNat (wr (1228 + (J 235 7))))) : Int) ≤ 122)) => ?_)
        ·
          refine ⟨fun c => absurd c (show (¬ ((1 : Int) = 0)) from by decide), fun _ => ?_⟩
          refine ⟨rfl, (by decide), ?_⟩
          refine ⟨fun _ => ?_, fun c => absurd c (show (¬ (1 : Int) = 0) from by decide)⟩
          refine ⟨_, rfl, (by decide), ?_⟩
          refine ⟨_, rfl, (by decide), ?_⟩
          have n38 : (wr ((J 235 7) + 1)) = (J 235 7) + 1 := wr_id (show -2147483648 ≤ ((J 235 7) + 1 : Int) ∧ ((J 235 7) + 1 : Int) < 2147483648 from by omega)
          have p39 : (0 : Int) ≤ (wr ((J 235 7) + 1)) ∧ ((wr ((J 235 7) + 1)) : Int) ≤ 64 := by first | omega | (simp only [wr, wl] at *; omega)
          exact ih a b (uI J 235 7 (wr ((J 235 7) + 1))) (Rg.u hJ (Pr_x7 p39)) (fun ka ja hk => ((uI_o (show ¬ (ka = 235 ∧ ja = 7) from by omega))).trans ((hV ka ja (by omega)))) (show I 235 7 ≤ (J 235 6) from by first | omega | (simp only [wr, wl] at *; omega)) (show (J 235 6) ≤ (wr ((J 235 7) + 1)) from by first | omega | (simp only [wr, wl] at *; omega)) (show (wr ((J 235 7) + 1)) ≤ I 236 2 from by first | omega | (simp only [wr, wl] at *; omega)) (show (J 235 6) < I 236 2 → (J 235 6) < (wr ((J 235 7) + 1)) from by first | omega | (simp only [wr, wl] at *; omega)) (show (64 - (wr ((J 235 7) + 1))).toNat < mz from by omega)
        ·
          refine ⟨fun _ => ?_, fun c => absurd (show ((0 : Int) = 0) from by decide) c⟩
          refine ⟨rfl, (by decide), ?_⟩
          refine ⟨fun c => absurd (show ((0 : Int) = 0) from by decide) c, fun _ => ?_⟩
          refine ⟨fun (c40 : ((b : Int) = 0)) => ?_, fun (c40 : (¬ ((b : Int) = 0))) => ?_⟩
          ·
            have r41 : 0 ≤ (I 235 7) ∧ (I 235 7) ≤ 64 := Rg.f7 hR
            exact ⟨rfl, hQ _ hJ (fun ka ja hk => (hV ka ja (by omega))) (show (I 235 7) ≤ (J 235 6) from by first | omega | (simp only [wr, wl] at *; omega)) (show (J 235 6) ≤ (J 235 7) from by first | omega | (simp only [wr, wl] at *; omega)) (show (J 235 7) ≤ (I 236 2) from by first | omega | (simp only [wr, wl] at *; omega)) (show (J 235 6) < (I 236 2) → (J 235 6) < (J 235 7) from by first | omega | (simp only [wr, wl] at *; omega))⟩
          ·
            refine ⟨_, rfl, (by decide), ?_⟩
            refine ⟨⟨_, rfl, (by decide)⟩, ?_⟩
            refine Call_wp (lv := [some (vr 235), some (vi (J 235 7)), some (vi 48), some (vi 57)]) (by decide) ckX12_isByte [] rfl rfl ?_
            refine ⟨_, rfl, (by decide), ?_⟩
            refine fun w0 hw0 => ?_; obtain rfl : w0 = some 236 := hw0.symm.trans (FS.g hF rfl)
            refine ⟨_, rfl, (by decide), (by decide), (by decide), ?_⟩
            refine ⟨fun c => absurd c (show (¬ (((J 236 2) : Int) ≤ (J 235 7))) from by first | omega | (simp only [wr, wl] at *; omega)), fun _ => ?_⟩
            refine ⟨_, rfl, (by decide), ?_⟩
            refine fun w0 hw0 => ?_; obtain rfl : w0 = some 236 := hw0.symm.trans (FS.g hF rfl)
            refine ⟨_, rfl, (by decide), (show (0 : Int) ≤ (wr (1228 + (J 235 7))) from by first | omega | (simp only [wr, wl] at *; omega)), (show (wr (1228 + (J 235 7))) < (1340 : Int) from by first | omega | (simp only [wr, wl] at *; omega)), ?_⟩
            refine s_X12_within (fun (w42 : ((48 : Int) ≤ (J 236 (Int.toNat (wr (1228 + (J 235 7))))) ∧ ((J 236 (Int.toNat (wr (1228 + (J 235 7))))) : Int) ≤ 57)) => ?_) (fun (w42 : ¬ ((48 : Int) ≤ (J 236 (Int.toNat (wr (1228 + (J 235 7))))) ∧ ((J 236 (Int.toNat (wr (1228 + (J 235 7))))) : Int) ≤ 57)) => ?_)
            ·
              refine ⟨fun c => absurd c (show (¬ ((1 : Int) = 0)) from by decide), fun _ => ?_⟩
              refine ⟨rfl, (by decide), ?_⟩
              refine ⟨fun c => absurd c (show (¬ ((1 : Int) = 0)) from by decide), fun _ => ?_⟩
              refine ⟨_, rfl, (by decide), ?_⟩
              refine ⟨_, rfl, (by decide), ?_⟩
              have n43 : (wr ((J 235 7) + 1)) = (J 235 7) + 1 := wr_id (show -2147483648 ≤ ((J 235 7) + 1 : Int) ∧ ((J 235 7) + 1 : Int) < 2147483648 from by omega)
              have p44 : (0 : Int) ≤ (wr ((J 235 7) + 1)) ∧ ((wr ((J 235 7) + 1)) : Int) ≤ 64 := by first | omega | (simp only [wr, wl] at *; omega)
              exact ih a b (uI J 235 7 (wr ((J 235 7) + 1))) (Rg.u hJ (Pr_x7 p44)) (fun ka ja hk => ((uI_o (show ¬ (ka = 235 ∧ ja = 7) from by omega))).trans ((hV ka ja (by omega)))) (show I 235 7 ≤ (J 235 6) from by first | omega | (simp only [wr, wl] at *; omega)) (show (J 235 6) ≤ (wr ((J 235 7) + 1)) from by first | omega | (simp only [wr, wl] at *; omega)) (show (wr ((J 235 7) + 1)) ≤ I 236 2 from by first | omega | (simp only [wr, wl] at *; omega)) (show (J 235 6) < I 236 2 → (J 235 6) < (wr ((J 235 7) + 1)) from by first | omega | (simp only [wr, wl] at *; omega)) (show (64 - (wr ((J 235 7) + 1))).toNat < mz from by omega)
            ·
              refine ⟨fun _ => ?_, fun c => absurd (show ((0 : Int) = 0) from by decide) c⟩
              refine ⟨rfl, (by decide), ?_⟩
              refine ⟨fun _ => ?_, fun c => absurd (show ((0 : Int) = 0) from by decide) c⟩
              have r45 : 0 ≤ (I 235 7) ∧ (I 235 7) ≤ 64 := Rg.f7 hR
              exact ⟨rfl, hQ _ hJ (fun ka ja hk => (hV ka ja (by omega))) (show (I 235 7) ≤ (J 235 6) from by first | omega | (simp only [wr, wl] at *; omega)) (show (J 235 6) ≤ (J 235 7) from by first | omega | (simp only [wr, wl] at *; omega)) (show (J 235 7) ≤ (I 236 2) from by first | omega | (simp only [wr, wl] at *; omega)) (show (J 235 6) < (I 236 2) → (J 235 6) < (J 235 7) from by first | omega | (simp only [wr, wl] at *; omega))⟩
theorem r_goOn_l1 (hF : FS F) (hR : Rg I) (h2 : I 235 7 ≤ I 236 2) (hQ : ∀ (I' : pI), Rg I' → (∀ k j, ¬ ((k = 235 ∧ (j = 6 ∨ j = 7))) → I' k j = I k j) → ((I 235 7) ≤ (I' 235 6)) → ((I' 235 6) ≤ (I' 235 7)) → ((I' 235 7) ≤ (I 236 2)) → ((I' 235 6) < (I 236 2) → (I' 235 6) < (I' 235 7)) → Q none F I') : ∀ (mz : Nat) (J : pI), Rg J → (∀ k j, ¬ ((k = 235 ∧ (j = 6 ∨ j = 7))) → J k j = I k j) → (I 235 7 ≤ (J 235 6)) → ((J 235 6) ≤ I 236 2) → (64 - (J 235 6)).toNat < mz → GoN G (d + 2) kX12_goOn NP NP 8 [some (vr 235), none, none] [] F J Q := by
  intro mz
  induction mz with
  | zero => intro  J hJ hV _ _ h; exact absurd h (Nat.not_lt_zero _)
  | succ mz ih =>
    intro  J hJ hV c100 c101 hm
    refine GoN_in (fun hok hA => ?_)
    have g2 := Rg.n2 hR
    have r1 : 0 ≤ (J 235 6) ∧ (J 235 6) ≤ 64 := Rg.f6 hJ
    have a2 : -2147483648 ≤ (J 235 6) ∧ (J 235 6) < 2147483648 := hA.1 _ _
    refine Go_wp (by decide) ckX12_goOn [8, 97] ?_
    refine ⟨_, rfl, (by decide), ?_⟩
    refine ⟨⟨_, rfl, (by decide)⟩, ?_⟩
    refine Call_wp (lv := [some (vr 235), some (vi (J 235 6)), some (vi 32), some (vi 32)]) (by decide) ckX12_isByte [] rfl rfl ?_
    refine ⟨_, rfl, (by decide), ?_⟩
    refine fun w0 hw0 => ?_; obtain rfl : w0 = some 236 := hw0.symm.trans (FS.g hF rfl)
    refine ⟨_, rfl, (by decide), (by decide), (by decide), ?_⟩
    have r3 : 0 ≤ (I 236 2) ∧ (I 236 2) ≤ 64 := Rg.n2 hR
    have u4 : (J 236 2) = (I 236 2) := hV _ _ (by first | omega | decide)
    have a5 : -2147483648 ≤ (J 236 2) ∧ (J 236 2) < 2147483648 := hA.1 _ _
    have r6 : 0 ≤ (J 236 2) ∧ (J 236 2) ≤ 64 := Rg.n2 hJ
    refine ⟨fun (c7 : (((J 236 2) : Int) ≤ (J 235 6))) => ?_, fun (c7 : (¬ (((J 236 2) : Int) ≤ (J 235 6)))) => ?_⟩
    ·
      refine ⟨rfl, (by decide), ?_⟩
      refine ⟨fun _ => ?_, fun c => absurd (show ((0 : Int) = 0) from by decide) c⟩
      refine ⟨_, rfl, (by decide), ?_⟩
      refine ⟨_, rfl, (by decide), ?_⟩
      have p8 : (0 : Int) ≤ (J 235 6) ∧ ((J 235 6) : Int) ≤ 64 := by first | omega | (simp only [wr, wl] at *; omega)
      refine ⟨_, rfl, (by decide), ?_⟩
      refine ⟨⟨_, rfl, (by decide)⟩, ?_⟩
      refine Call_wp (lv := [some (vr 235), some (vi (J 235 6)), some (vi 97), some (vi 122)]) (by decide) ckX12_isByte [] rfl rfl ?_
      refine ⟨_, rfl, (by decide), ?_⟩
      refine fun w0 hw0 => ?_; obtain rfl : w0 = some 236 := hw0.symm.trans (FS.g hF rfl)
      refine ⟨_, rfl, (by decide), (by decide), (by decide), ?_⟩
      refine ⟨fun _ => ?_, fun c => absurd (show (((J 236 2) : Int) ≤ (J 235 6)) from by first | omega | (simp only [wr, wl] at *; omega)) c⟩
      refine ⟨rfl, (by decide), ?_⟩
      refine ⟨_, rfl, (by decide), ?_⟩
      refine ⟨⟨_, rfl, (by decide)⟩, ?_⟩
      refine Call_wp (lv := [some (vr 235), some (vi (J 235 6)), some (vi 48), some (vi 57)]) (by decide) ckX12_isByte [] rfl rfl ?_
      refine ⟨_, rfl, (by decide), ?_⟩
      refine fun w0 hw0 => ?_; obtain rfl : w0 = some 236 := hw0.symm.trans (FS.g hF rfl)
      refine ⟨_, rfl, (by decide), (by decide), (by decide), ?_⟩
      refine ⟨fun _ => ?_, fun c => absurd (show (((J 236 2) : Int) ≤ (J 235 6)) from by first | omega | (simp only [wr, wl] at *; omega)) c⟩
      refine ⟨rfl, (by decide), ?_⟩
      refine ⟨_, rfl, (by decide), ?_⟩
      refine ⟨_, rfl, (by decide), ?_⟩
      refine ⟨_, rfl, (by decide), ?_⟩
      refine fun w0 hw0 => ?_; obtain rfl : w0 = some 236 := hw0.symm.trans (FS.g hF rfl)
      refine ⟨_, rfl, (by decide), (by decide), (by decide), ?_⟩
      refine ⟨fun _ => ?_, fun c => absurd (show (((J 236 2) : Int) ≤ (J 235 6)) from by first | omega | (simp only [wr, wl] at *; omega)) c⟩
      refine ⟨_, rfl, (by decide), ?_⟩
      have n9 : (wr ((J 235 6) + 0)) = (J 235 6) + 0 := wr_id (show -2147483648 ≤ ((J 235 6) + 0 : Int) ∧ ((J 235 6) + 0 : Int) < 2147483648 from by omega)
      have p10 : (0 : Int) ≤ (wr ((J 235 6) + 0)) ∧ ((wr ((J 235 6) + 0)) : Int) ≤ 64 := by first | omega | (simp only [wr, wl] at *; omega)
      refine r_goOn_l2 hF hR h2 hQ _ 0 0 (uI (uI J 235 7 (J 235 6)) 235 7 (wr ((J 235 6) + 0))) (Rg.u (Rg.u hJ (Pr_x7 p8)) (Pr_x7 p10)) (fun ka ja hk => ((uI_o (show ¬ (ka = 235 ∧ ja = 7) from by omega))).trans (((uI_o (show ¬ (ka = 235 ∧ ja = 7) from by omega))).trans ((hV ka ja (by omega))))) (show I 235 7 ≤ (J 235 6) from by first | omega | (simp only [wr, wl] at *; omega)) (show (J 235 6) ≤ (wr ((J 235 6) + 0)) from by first | omega | (simp only [wr, wl] at *; omega)) (show (wr ((J 235 6) + 0)) ≤ I 236 2 from by first | omega | (simp only [wr, wl] at *; omega)) (show (J 235 6) < I 236 2 → (J 235 6) < (wr ((J 235 6) + 0)) from by first | omega | (simp only [wr, wl] at *; omega)) (Nat.lt_succ_self _)
    ·
      refine ⟨_, rfl, (by decide), ?_⟩
      refine fun w0 hw0 => ?_; obtain rfl : w0 = some 236 := hw0.symm.trans (FS.g hF rfl)
      have n11 : (wr (1228 + (J 235 6))) = 1228 + (J 235 6) := wr_id (show -2147483648 ≤ (1228 + (J 235 6) : Int) ∧ (1228 + (J 235 6) : Int) < 2147483648 from by omega)
      refine ⟨_, rfl, (by decide), (show (0 : Int) ≤ (wr (1228 + (J 235 6))) from by first | omega | (simp only [wr, wl] at *; omega)), (show (wr (1228 + (J 235 6))) < (1340 : Int) from by first | omega | (simp only [wr, wl] at *; omega)), ?_⟩
      have r12 : 0 ≤ (I 236 (Int.toNat (wr (1228 + (J 235 6))))) ∧ (I 236 (Int.toNat (wr (1228 + (J 235 6))))) ≤ 255 := Pn_t (by omega) (hR.n (Int.toNat (wr (1228 + (J 235 6)))) (by omega))
      have u13 : (J 236 (Int.toNat (wr (1228 + (J 235 6))))) = (I 236 (Int.toNat (wr (1228 + (J 235 6))))) := hV _ _ (by first | omega | decide)
      have a14 : -2147483648 ≤ (J 236 (Int.toNat (wr (1228 + (J 235 6))))) ∧ (J 236 (Int.toNat (wr (1228 + (J 235 6))))) < 2147483648 := hA.1 _ _
      have r15 : 0 ≤ (J 236 (Int.toNat (wr (1228 + (J 235 6))))) ∧ (J 236 (Int.toNat (wr (1228 + (J 235 6))))) ≤ 255 := Pn_t (by omega) (hJ.n (Int.toNat (wr (1228 + (J 235 6)))) (by omega))
      refine s_X12_within (fun (w16 : ((32 : Int) ≤ (J 236 (Int.toNat (wr (1228 + (J 235 6))))) ∧ ((J 236 (Int.toNat (wr (1228 + (J 235 6))))) : Int) ≤ 32)) => ?_) (fun (w16 : ¬ ((32 : Int) ≤ (J 236 (Int.toNat (wr (1228 + (J 235 6))))) ∧ ((J 236 (Int.toNat (wr (1228 + (J 235 6))))) : Int) ≤ 32)) => ?_)
      ·
        refine ⟨fun c => absurd c (show (¬ ((1 : Int) = 0)) from by decide), fun _ => ?_⟩
        refine ⟨rfl, (by decide), ?_⟩
        refine ⟨fun c => absurd c (show (¬ ((1 : Int) = 0)) from by decide), fun _ => ?_⟩
        refine ⟨_, rfl, (by decide), ?_⟩
        refine ⟨_, rfl, (by decide), ?_⟩
        have n17 : (wr ((J 235 6) + 1)) = (J 235 6) + 1 := wr_id (show -2147483648 ≤ ((J 235 6) + 1 : Int) ∧ ((J 235 6) + 1 : Int) < 2147483648 from by omega)
        have p18 : (0 : Int) ≤ (wr ((J 235 6) + 1)) ∧ ((wr ((J 235 6) + 1)) : Int) ≤ 64 := by first | omega | (simp only [wr, wl] at *; omega)
        exact ih  (uI J 235 6 (wr ((J 235 6) + 1))) (Rg.u hJ (Pr_x6 p18)) (fun ka ja hk => ((uI_o (show ¬ (ka = 235 ∧ ja = 6) from by omega))).trans ((hV ka ja (by omega)))) (show I 235 7 ≤ (wr ((J 235 6) + 1)) from by first | omega | (simp only [wr, wl] at *; omega)) (show (wr ((J 235 6) + 1)) ≤ I 236 2 from by first | omega | (simp only [wr, wl] at *; omega)) (show (64 - (wr ((J 235 6) + 1))).toNat < mz from by omega)
      ·
        refine ⟨fun _ => ?_, fun c => absurd (show ((0 : Int) = 0) from by decide) c⟩
        refine ⟨rfl, (by decide), ?_⟩
        refine ⟨fun _ => ?_, fun c => absurd (show ((0 : Int) = 0) from by decide) c⟩
        refine ⟨_, rfl, (by decide), ?_⟩
        refine ⟨_, rfl, (by decide), ?_⟩
        have p19 : (0 : Int) ≤ (J 235 6) ∧ ((J 235 6) : Int) ≤ 64 := by first | omega | (simp only [wr, wl] at *; omega)
        refine ⟨_, rfl, (by decide), ?_⟩
        refine ⟨⟨_, rfl, (by decide)⟩, ?_⟩
        refine Call_wp (lv := [some (vr 235), some (vi (J 235 6)), some (vi 97), some (vi 122)]) (by decide) ckX12_isByte [] rfl rfl ?_
        refine ⟨_, rfl, (by decide), ?_⟩
        refine fun w0 hw0 => ?_; obtain rfl : w0 = some 236 := hw0.symm.trans (FS.g hF rfl)
        refine ⟨_, rfl, (by decide), (by decide), (by decide), ?_⟩
        refine ⟨fun c => absurd c (show (¬ (((J 236 2) : Int) ≤ (J 235 6))) from by first | omega | (simp only [wr, wl] at *; omega)), fun _ => ?_⟩
        refine ⟨_, rfl, (by decide), ?_⟩
        refine fun w0 hw0 => ?_; obtain rfl : w0 = some 236 := hw0.symm.trans (FS.g hF rfl)
        refine ⟨_, rfl, (by decide), (show (0 : Int) ≤ (wr (1228 + (J 235 6))) from by first | omega | (simp only [wr, wl] at *; omega)), (show (wr (1228 + (J 235 6))) < (1340 : Int) from by first | omega | (simp only [wr, wl] at *; omega)), ?_⟩
        refine s_X12_within (fun (w20 : ((97 : Int) ≤ (J 236 (Int.toNat (wr (1228 + (J 235 6))))) ∧ ((J 236 (Int.toNat (wr (1228 + (J 235 6))))) : Int) ≤ 122)) => ?_) (fun (w20 : ¬ ((97 : Int) ≤ (J 236 (Int.toNat (wr (1228 + (J 235 6))))) ∧ ((J 236 (Int.toNat (wr (1228 + (J 235 6))))) : Int) ≤ 122)) => ?_)
        ·
          refine ⟨fun c => absurd c (show (¬ ((1 : Int) = 0)) from by decide), fun _ => ?_⟩
          refine ⟨rfl, (by decide), ?_⟩
          refine ⟨_, rfl, (by decide), ?_⟩
          refine ⟨⟨_, rfl, (by decide)⟩, ?_⟩
          refine Call_wp (lv := [some (vr 235), some (vi (J 235 6)), some (vi 48), some (vi 57)]) (by decide) ckX12_isByte [] rfl rfl ?_
          refine ⟨_, rfl, (by decide), ?_⟩
          refine fun w0 hw0 => ?_; obtain rfl : w0 = some 236 := hw0.symm.trans (FS.g hF rfl)
          refine ⟨_, rfl, (by decide), (by decide), (by decide), ?_⟩
          refine ⟨fun c => absurd c (show (¬ (((J 236 2) : Int) ≤ (J 235 6))) from by first | omega | (simp only [wr, wl] at *; omega)), fun _ => ?_⟩
          refine ⟨_, rfl, (by decide), ?_⟩
          refine fun w0 hw0 => ?_; obtain rfl : w0 = some 236 := hw0.symm.trans (FS.g hF rfl)
          refine ⟨_, rfl, (by decide), (show (0 : Int) ≤ (wr (1228 + (J 235 6))) from by first | omega | (simp only [wr, wl] at *; omega)), (show (wr (1228 + (J 235 6))) < (1340 : Int) from by first | omega | (simp only [wr, wl] at *; omega)), ?_⟩
          refine s_X12_within (fun hw => absurd hw (show ¬ ((48 : Int) ≤ (J 236 (Int.toNat (wr (1228 + (J 235 6))))) ∧ ((J 236 (Int.toNat (wr (1228 + (J 235 6))))) : Int) ≤ 57) from by first | omega | (simp only [wr, wl] at *; omega))) (fun _ => ?_)
          refine ⟨fun _ => ?_, fun c => absurd (show ((0 : Int) = 0) from by decide) c⟩
          refine ⟨rfl, (by decide), ?_⟩
          refine ⟨_, rfl, (by decide), ?_⟩
          refine ⟨_, rfl, (by decide), ?_⟩
          refine ⟨_, rfl, (by decide), ?_⟩
          refine fun w0 hw0 => ?_; obtain rfl : w0 = some 236 := hw0.symm.trans (FS.g hF rfl)
          refine ⟨_, rfl, (by decide), (by decide), (by decide), ?_⟩
          refine ⟨fun c => absurd c (show (¬ (((J 236 2) : Int) ≤ (J 235 6))) from by first | omega | (simp only [wr, wl] at *; omega)), fun _ => ?_⟩
          refine ⟨_, rfl, (by decide), ?_⟩
          have n21 : (wr ((J 235 6) + 1)) = (J 235 6) + 1 := wr_id (show -2147483648 ≤ ((J 235 6) + 1 : Int) ∧ ((J 235 6) + 1 : Int) < 2147483648 from by omega)
          have p22 : (0 : Int) ≤ (wr ((J 235 6) + 1)) ∧ ((wr ((J 235 6) + 1)) : Int) ≤ 64 := by first | omega | (simp only [wr, wl] at *; omega)
          refine r_goOn_l2 hF hR h2 hQ _ 1 0 (uI (uI J 235 7 (J 235 6)) 235 7 (wr ((J 235 6) + 1))) (Rg.u (Rg.u hJ (Pr_x7 p19)) (Pr_x7 p22)) (fun ka ja hk => ((uI_o (show ¬ (ka = 235 ∧ ja = 7) from by omega))).trans (((uI_o (show ¬ (ka = 235 ∧ ja = 7) from by omega))).trans ((hV ka ja (by omega))))) (show I 235 7 ≤ (J 235 6) from by first | omega | (simp only [wr, wl] at *; omega)) (show (J 235 6) ≤ (wr ((J 235 6) + 1)) from by first | omega | (simp only [wr, wl] at *; omega)) (show (wr ((J 235 6) + 1)) ≤ I 236 2 from by first | omega | (simp only [wr, wl] at *; omega)) (show (J 235 6) < I 236 2 → (J 235 6) < (wr ((J 235 6) + 1)) from by first | omega | (simp only [wr, wl] at *; omega)) (Nat.lt_succ_self _)
        ·
          refine ⟨fun _ => ?_, fun c => absurd (show ((0 : Int) = 0) from by decide) c⟩
          refine ⟨rfl, (by decide), ?_⟩
          refine ⟨_, rfl, (by decide), ?_⟩
          refine ⟨⟨_, rfl, (by decide)⟩, ?_⟩
          refine Call_wp (lv := [some (vr 235), some (vi (J 235 6)), some (vi 48), some (vi 57)]) (by decide) ckX12_isByte [] rfl rfl ?_
          refine ⟨_, rfl, (by decide), ?_⟩
          refine fun w0 hw0 => ?_; obtain rfl : w0 = some 236 := hw0.symm.trans (FS.g hF rfl)
          refine ⟨_, rfl, (by decide), (by decide), (by decide), ?_⟩
          refine ⟨fun c => absurd c (show (¬ (((J 236 2) : Int) ≤ (J 235 6))) from by first | omega | (simp only [wr, wl] at *; omega)), fun _ => ?_⟩
          refine ⟨_, rfl, (by decide), ?_⟩
          refine fun w0 hw0 => ?_; obtain rfl : w0 = some 236 := hw0.symm.trans (FS.g hF rfl)
          refine ⟨_, rfl, (by decide), (show (0 : Int) ≤ (wr (1228 + (J 235 6))) from by first | omega | (simp only [wr, wl] at *; omega)), (show (wr (1228 + (J 235 6))) < (1340 : Int) from by first | omega | (simp only [wr, wl] at *; omega)), ?_⟩
          refine s_X12_within (fun (w23 : ((48 : Int) ≤ (J 236 (Int.toNat (wr (1228 + (J 235 6))))) ∧ ((J 236 (Int.toNat (wr (1228 + (J 235 6))))) : Int) ≤ 57)) => ?_) (fun (w23 : ¬ ((48 : Int) ≤ (J 236 (Int.toNat (wr (1228 + (J 235 6))))) ∧ ((J 236 (Int.toNat (wr (1228 + (J 235 6))))) : Int) ≤ 57)) => ?_)
          ·
            refine ⟨fun c => absurd c (show (¬ ((1 : Int) = 0)) from by decide), fun _ => ?_⟩
            refine ⟨rfl, (by decide), ?_⟩
            refine ⟨_, rfl, (by decide), ?_⟩
            refine ⟨_, rfl, (by decide), ?_⟩
            refine ⟨_, rfl, (by decide), ?_⟩
            refine fun w0 hw0 => ?_; obtain rfl : w0 = some 236 := hw0.symm.trans (FS.g hF rfl)
            refine ⟨_, rfl, (by decide), (by decide), (by decide), ?_⟩
            refine ⟨fun c => absurd c (show (¬ (((J 236 2) : Int) ≤ (J 235 6))) from by first | omega | (simp only [wr, wl] at *; omega)), fun _ => ?_⟩
            refine ⟨_, rfl, (by decide), ?_⟩
            have n24 : (wr ((J 235 6) + 1)) = (J 235 6) + 1 := wr_id (show -2147483648 ≤ ((J 235 6) + 1 : Int) ∧ ((J 235 6) + 1 : Int) < 2147483648 from by omega)
            have p25 : (0 : Int) ≤ (wr ((J 235 6) + 1)) ∧ ((wr ((J 235 6) + 1)) : Int) ≤ 64 := by first | omega | (simp only [wr, wl] at *; omega)
            refine r_goOn_l2 hF hR h2 hQ _ 0 1 (uI (uI J 235 7 (J 235 6)) 235 7 (wr ((J 235 6) + 1))) (Rg.u (Rg.u hJ (Pr_x7 p19)) (Pr_x7 p25)) (fun ka ja hk => ((uI_o (show ¬ (ka = 235 ∧ ja = 7) from by omega))).trans (((uI_o (show ¬ (ka = 235 ∧ ja = 7) from by omega))).trans ((hV ka ja (by omega))))) (show I 235 7 ≤ (J 235 6) from by first | omega | (simp only [wr, wl] at *; omega)) (show (J 235 6) ≤ (wr ((J 235 6) + 1)) from by first | omega | (simp only [wr, wl] at *; omega)) (show (wr ((J 235 6) + 1)) ≤ I 236 2 from by first | omega | (simp only [wr, wl] at *; omega)) (show (J 235 6) < I 236 2 → (J 235 6) < (wr ((J 235 6) + 1)) from by first | omega | (simp only [wr, wl] at *; omega)) (Nat.lt_succ_self _)
          ·
            refine ⟨fun _ => ?_, fun c => absurd (show ((0 : Int) = 0) from by decide) c⟩
            refine ⟨rfl, (by decide), ?_⟩
            refine ⟨_, rfl, (by decide), ?_⟩
            refine ⟨_, rfl, (by decide), ?_⟩
            refine ⟨_, rfl, (by decide), ?_⟩
            refine fun w0 hw0 => ?_; obtain rfl : w0 = some 236 := hw0.symm.trans (FS.g hF rfl)
            refine ⟨_, rfl, (by decide), (by decide), (by decide), ?_⟩
            refine ⟨fun c => absurd c (show (¬ (((J 236 2) : Int) ≤ (J 235 6))) from by first | omega | (simp only [wr, wl] at *; omega)), fun _ => ?_⟩
            refine ⟨_, rfl, (by decide), ?_⟩
            have n26 : (wr ((J 235 6) + 1)) = (J 235 6) + 1 := wr_id (show -2147483648 ≤ ((J 235 6) + 1 : Int) ∧ ((J 235 6) + 1 : Int) < 2147483648 from by omega)
            have p27 : (0 : Int) ≤ (wr ((J 235 6) + 1)) ∧ ((wr ((J 235 6) + 1)) : Int) ≤ 64 := by first | omega | (simp only [wr, wl] at *; omega)
            refine r_goOn_l2 hF hR h2 hQ _ 0 0 (uI (uI J 235 7 (J 235 6)) 235 7 (wr ((J 235 6) + 1))) (Rg.u (Rg.u hJ (Pr_x7 p19)) (Pr_x7 p27)) (fun ka ja hk => ((uI_o (show ¬ (ka = 235 ∧ ja = 7) from by omega))).trans (((uI_o (show ¬ (ka = 235 ∧ ja = 7) from by omega))).trans ((hV ka ja (by omega))))) (show I 235 7 ≤ (J 235 6) from by first | omega | (simp only [wr, wl] at *; omega)) (show (J 235 6) ≤ (wr ((J 235 6) + 1)) from by first | omega | (simp only [wr, wl] at *; omega)) (show (wr ((J 235 6) + 1)) ≤ I 236 2 from by first | omega | (simp only [wr, wl] at *; omega)) (show (J 235 6) < I 236 2 → (J 235 6) < (wr ((J 235 6) + 1)) from by first | omega | (simp only [wr, wl] at *; omega)) (Nat.lt_succ_self _)
theorem r_goOn (hF : FS F) (hR : Rg I) (h2 : I 235 7 ≤ I 236 2) (hQ : ∀ (I' : pI), Rg I' → AR I' → (∀ k j, ¬ ((k = 235 ∧ (j = 6 ∨ j = 7))) → I' k j = I k j) → ((I 235 7) ≤ (I' 235 6)) → ((I' 235 6) ≤ (I' 235 7)) → ((I' 235 7) ≤ (I 236 2)) → ((I' 235 6) < (I 236 2) → (I' 235 6) < (I' 235 7)) → Q none F I') : CallN G (d + 2) kX12_goOn [vr 235] NP F I Q := by
  refine CallN_in (fun hok hA => CallN_out ?_)
  refine Call_wp (lv := [some (vr 235), none, none]) (by decide) ckX12_goOn [8] rfl rfl ?_
  refine ⟨_, rfl, (by decide), ?_⟩
  have r1 : 0 ≤ (I 235 7) ∧ (I 235 7) ≤ 64 := Rg.f7 hR
  refine ⟨_, rfl, (by decide), ?_⟩
  have a2 : -2147483648 ≤ (I 235 7) ∧ (I 235 7) < 2147483648 := hA.1 _ _
  have p3 : (0 : Int) ≤ (I 235 7) ∧ ((I 235 7) : Int) ≤ 64 := by first | omega | (simp only [wr, wl] at *; omega)
  refine r_goOn_l1 hF hR h2 (fun I' g1 g2 g3 g4 g5 g6 hv hA' => hQ _ g1 hA' g2 g3 g4 g5 g6) _  (uI I 235 6 (I 235 7)) (Rg.u hR (Pr_x6 p3)) (fun ka ja hk => (uI_o (show ¬ (ka = 235 ∧ ja = 6) from by omega))) (show I 235 7 ≤ (I 235 7) from by first | omega | (simp only [wr, wl] at *; omega)) (show (I 235 7) ≤ I 236 2 from by first | omega | (simp only [wr, wl] at *; omega)) (Nat.lt_succ_self _)
theorem r_takes_9 (hF : FS F) (hR : Rg I) (h1 : I 235 6 ≤ I 235 7) (h2 : I 235 7 ≤ I 236 2) (h3 : I 235 6 < I 236 2 → I 235 6 < I 235 7) (hQ : ∀ (r : Int) (I' : pI), Rg I' → AR I' → iR r → (∀ k j, ¬ ((k = 235 ∧ (j = 6 ∨ j = 7))) → I' k j = I k j) → (r = 1 → (I 235 6) + 2 ≤ (I' 235 6)) → ((I' 235 6) ≤ (I' 235 7)) → ((I' 235 7) ≤ (I 236 2)) → ((I' 235 6) < (I 236 2) → (I' 235 6) < (I' 235 7)) → ((I 235 6) ≤ (I' 235 6)) → (r = 1 → (I 235 8) = 0) → (0 ≤ r ∧ r ≤ 1) → Q (some (vi r)) F I') : CallN G (d + 4) kX12_takes [vr 235, vr 4115] NP F I Q := by
  refine CallN_in (fun hok hA => CallN_out ?_)
  have g2 := Rg.n2 hR
  refine Call_wp (lv := [some (vr 235), some (vr 4115), none, none]) (by decide) ckX12_takes [] rfl rfl ?_
  refine ⟨_, rfl, (by decide), ?_⟩
  have a1 : -2147483648 ≤ (I 235 8) ∧ (I 235 8) < 2147483648 := hA.1 _ _
  refine ⟨fun (c2 : (¬ ((I 235 8) : Int) = 0)) => ?_, fun (c2 : (((I 235 8) : Int) = 0)) => ?_⟩
  ·
    refine ⟨fun _ => ?_, fun c => absurd (show ((0 : Int) = 0) from by decide) c⟩
    refine ⟨fun _ => ?_, fun c => absurd (show ((0 : Int) = 0) from by decide) c⟩
    have r3 : 0 ≤ (I 235 6) ∧ (I 235 6) ≤ 64 := Rg.f6 hR
    have a4 : -2147483648 ≤ (I 235 6) ∧ (I 235 6) < 2147483648 := hA.1 _ _
    have r5 : 0 ≤ (I 235 7) ∧ (I 235 7) ≤ 64 := Rg.f7 hR
    have a6 : -2147483648 ≤ (I 235 7) ∧ (I 235 7) < 2147483648 := hA.1 _ _
    have r7 : 0 ≤ (I 236 2) ∧ (I 236 2) ≤ 64 := Rg.n2 hR
    have a8 : -2147483648 ≤ (I 236 2) ∧ (I 236 2) < 2147483648 := hA.1 _ _
    exact ⟨rfl, (by decide), fun hv hA' => hQ _ _ hR hA' (hv _ rfl) (fun _ _ _ => rfl) (show 0 = 1 → (I 235 6) + 2 ≤ (I 235 6) from by first | omega | (simp only [wr, wl] at *; omega)) (show (I 235 6) ≤ (I 235 7) from by first | omega | (simp only [wr, wl] at *; omega)) (show (I 235 7) ≤ (I 236 2) from by first | omega | (simp only [wr, wl] at *; omega)) (show (I 235 6) < (I 236 2) → (I 235 6) < (I 235 7) from by first | omega | (simp only [wr, wl] at *; omega)) (show (I 235 6) ≤ (I 235 6) from by first | omega | (simp only [wr, wl] at *; omega)) (show 0 = 1 → (I 235 8) = 0 from by first | omega | (simp only [wr, wl] at *; omega)) (show 0 ≤ 0 ∧ 0 ≤ 1 from by first | omega | (simp only [wr, wl] at *; omega))⟩
  ·
    refine ⟨_, rfl, (by decide), ?_⟩
    have r9 : 0 ≤ (I 235 7) ∧ (I 235 7) ≤ 64 := Rg.f7 hR
    refine ⟨_, rfl, (by decide), ?_⟩
    have r10 : 0 ≤ (I 235 6) ∧ (I 235 6) ≤ 64 := Rg.f6 hR
    refine ⟨⟨9, (by decide), rfl⟩, ?_⟩
    refine Call_wp (lv := [some (vr 4115)]) (by decide) ckJ0_length_8abf5 [] rfl rfl ?_
    refine ⟨9, (by decide), rfl, ?_⟩
    refine Or.inr (Or.inr ⟨9, (by decide), rfl, ?_⟩)
    refine ⟨⟨9, (by decide), rfl⟩, ?_⟩
    refine Call_wp (lv := [some (vr 4115)]) (by decide) ckJ0_coder_7d493 [] rfl rfl ?_
    refine ⟨fun c => absurd c (show (¬ ((1 : Int) = 0)) from by decide), fun _ => ?_⟩
    refine ⟨9, (by decide), rfl, ?_⟩
    refine ⟨rfl, (by decide), ?_⟩
    refine ⟨rfl, ?_⟩
    have a11 : -2147483648 ≤ (I 235 7) ∧ (I 235 7) < 2147483648 := hA.1 _ _
    have a12 : -2147483648 ≤ (I 235 6) ∧ (I 235 6) < 2147483648 := hA.1 _ _
    have n13 : (wr ((I 235 7) - (I 235 6))) = (I 235 7) - (I 235 6) := wr_id (show -2147483648 ≤ ((I 235 7) - (I 235 6) : Int) ∧ ((I 235 7) - (I 235 6) : Int) < 2147483648 from by omega)
    refine ⟨fun (c14 : (¬ ((wr ((I 235 7) - (I 235 6))) : Int) = 2)) => ?_, fun (c14 : (((wr ((I 235 7) - (I 235 6))) : Int) = 2)) => ?_⟩
    ·
      refine ⟨fun _ => ?_, fun c => absurd (show ((0 : Int) = 0) from by decide) c⟩
      refine ⟨fun _ => ?_, fun c => absurd (show ((0 : Int) = 0) from by decide) c⟩
      have r15 : 0 ≤ (I 236 2) ∧ (I 236 2) ≤ 64 := Rg.n2 hR
      have a16 : -2147483648 ≤ (I 236 2) ∧ (I 236 2) < 2147483648 := hA.1 _ _
      exact ⟨rfl, (by decide), fun hv hA' => hQ _ _ hR hA' (hv _ rfl) (fun _ _ _ => rfl) (show 0 = 1 → (I 235 6) + 2 ≤ (I 235 6) from by first | omega | (simp only [wr, wl] at *; omega)) (show (I 235 6) ≤ (I 235 7) from by first | omega | (simp only [wr, wl] at *; omega)) (show (I 235 7) ≤ (I 236 2) from by first | omega | (simp only [wr, wl] at *; omega)) (show (I 235 6) < (I 236 2) → (I 235 6) < (I 235 7) from by first | omega | (simp only [wr, wl] at *; omega)) (show (I 235 6) ≤ (I 235 6) from by first | omega | (simp only [wr, wl] at *; omega)) (show 0 = 1 → (I 235 8) = 0 from by first | omega | (simp only [wr, wl] at *; omega)) (show 0 ≤ 0 ∧ 0 ≤ 1 from by first | omega | (simp only [wr, wl] at *; omega))⟩
    ·
      refine ⟨fun c => absurd c (show (¬ ((1 : Int) = 0)) from by decide), fun _ => ?_⟩
      refine ⟨⟨9, (by decide), rfl⟩, ?_⟩
      refine Call_wp (lv := [some (vr 4115)]) (by decide) ckJ0_length_8abf5 [] rfl rfl ?_
      refine ⟨9, (by decide), rfl, ?_⟩
      refine Or.inr (Or.inr ⟨9, (by decide), rfl, ?_⟩)
      refine ⟨⟨9, (by decide), rfl⟩, ?_⟩
      refine Call_wp (lv := [some (vr 4115)]) (by decide) ckJ0_coder_7d493 [] rfl rfl ?_
      refine ⟨fun c => absurd c (show (¬ ((1 : Int) = 0)) from by decide), fun _ => ?_⟩
      refine ⟨9, (by decide), rfl, ?_⟩
      refine ⟨rfl, (by decide), ?_⟩
      refine ⟨rfl, ?_⟩
      refine ⟨fun c => absurd c (show (¬ ((2 : Int) ≤ 0)) from by decide), fun _ => ?_⟩
      refine ⟨_, rfl, (by decide), ?_⟩
      refine fun w0 hw0 => ?_; obtain rfl : w0 = some 236 := hw0.symm.trans (FS.g hF rfl)
      refine ⟨_, rfl, (by decide), ?_⟩
      have n17 : (wr (1228 + (I 235 6))) = 1228 + (I 235 6) := wr_id (show -2147483648 ≤ (1228 + (I 235 6) : Int) ∧ (1228 + (I 235 6) : Int) < 2147483648 from by omega)
      have n18 : (wr ((wr (1228 + (I 235 6))) + 0)) = (wr (1228 + (I 235 6))) + 0 := wr_id (show -2147483648 ≤ ((wr (1228 + (I 235 6))) + 0 : Int) ∧ ((wr (1228 + (I 235 6))) + 0 : Int) < 2147483648 from by omega)
      refine ⟨_, rfl, (by decide), (show (0 : Int) ≤ (wr ((wr (1228 + (I 235 6))) + 0)) from by first | omega | (simp only [wr, wl] at *; omega)), (show (wr ((wr (1228 + (I 235 6))) + 0)) < (1340 : Int) from by first | omega | (simp only [wr, wl] at *; omega)), ?_⟩
      have r19 : 0 ≤ (I 236 (Int.toNat (wr ((wr (1228 + (I 235 6))) + 0)))) ∧ (I 236 (Int.toNat (wr ((wr (1228 + (I 235 6))) + 0)))) ≤ 255 := Pn_t (by omega) (hR.n (Int.toNat (wr ((wr (1228 + (I 235 6))) + 0))) (by omega))
      refine ⟨⟨9, (by decide), rfl⟩, ?_⟩
      refine Call_wp (lv := [some (vr 4115), some (vi 0)]) (by decide) ckJ0_charAt_5068e [] rfl rfl ?_
      refine ⟨⟨9, (by decide), rfl⟩, ?_⟩
      refine Call_wp (lv := [some (vr 4115)]) (by decide) ckJ0_isLatin1_aae02 [] rfl rfl ?_
      refine ⟨fun c => absurd c (show (¬ ((1 : Int) = 0)) from by decide), fun _ => ?_⟩
      refine ⟨9, (by decide), rfl, ?_⟩
      refine ⟨fun c => absurd (show ((0 : Int) = 0) from by decide) c, fun _ => ?_⟩
      refine ⟨rfl, (by decide), ?_⟩
      refine ⟨fun c => absurd c (show (¬ ((1 : Int) = 0)) from by decide), fun _ => ?_⟩
      refine ⟨9, (by decide), rfl, ?_⟩
      refine Call_wp (lv := [some (vr 4145), some (vi 0)]) (by decide) ckJ1_charAt_3b067 [] rfl rfl ?_
      refine Or.inr (Or.inr ⟨9, (by decide), rfl, ?_⟩)
      refine j_check (i := 0) (n := 2) (by omega) ?_
      refine ⟨9, (by decide), rfl, (by decide), (by decide), ?_⟩
      refine ⟨rfl, (by decide), ?_⟩
      refine ⟨rfl, (by decide), ?_⟩
      have a20 : -2147483648 ≤ (I 236 (Int.toNat (wr ((wr (1228 + (I 235 6))) + 0)))) ∧ (I 236 (Int.toNat (wr ((wr (1228 + (I 235 6))) + 0)))) < 2147483648 := hA.1 _ _
      refine ⟨fun (c21 : (¬ ((I 236 (Int.toNat (wr ((wr (1228 + (I 235 6))) + 0)))) : Int) = 103)) => ?_, fun (c21 : (((I 236 (Int.toNat (wr ((wr (1228 + (I 235 6))) + 0)))) : Int) = 103)) => ?_⟩
      ·
        refine ⟨fun _ => ?_, fun c => absurd (show ((0 : Int) = 0) from by decide) c⟩
        refine ⟨fun _ => ?_, fun c => absurd (show ((0 : Int) = 0) from by decide) c⟩
        have r22 : 0 ≤ (I 236 2) ∧ (I 236 2) ≤ 64 := Rg.n2 hR
        have a23 : -2147483648 ≤ (I 236 2) ∧ (I 236 2) < 2147483648 := hA.1 _ _
        exact ⟨rfl, (by decide), fun hv hA' => hQ _ _ hR hA' (hv _ rfl) (fun _ _ _ => rfl) (show 0 = 1 → (I 235 6) + 2 ≤ (I 235 6) from by first | omega | (simp only [wr, wl] at *; omega)) (show (I 235 6) ≤ (I 235 7) from by first | omega | (simp only [wr, wl] at *; omega)) (show (I 235 7) ≤ (I 236 2) from by first | omega | (simp only [wr, wl] at *; omega)) (show (I 235 6) < (I 236 2) → (I 235 6) < (I 235 7) from by first | omega | (simp only [wr, wl] at *; omega)) (show (I 235 6) ≤ (I 235 6) from by first | omega | (simp only [wr, wl] at *; omega)) (show 0 = 1 → (I 235 8) = 0 from by first | omega | (simp only [wr, wl] at *; omega)) (show 0 ≤ 0 ∧ 0 ≤ 1 from by first | omega | (simp only [wr, wl] at *; omega))⟩
      ·
        refine ⟨fun c => absurd c (show (¬ ((1 : Int) = 0)) from by decide), fun _ => ?_⟩
        refine ⟨⟨9, (by decide), rfl⟩, ?_⟩
        refine Call_wp (lv := [some (vr 4115)]) (by decide) ckJ0_length_8abf5 [] rfl rfl ?_
        refine ⟨9, (by decide), rfl, ?_⟩
        refine Or.inr (Or.inr ⟨9, (by decide), rfl, ?_⟩)
        refine ⟨⟨9, (by decide), rfl⟩, ?_⟩
        refine Call_wp (lv := [some (vr 4115)]) (by decide) ckJ0_coder_7d493 [] rfl rfl ?_
        refine ⟨fun c => absurd c (show (¬ ((1 : Int) = 0)) from by decide), fun _ => ?_⟩
        refine ⟨9, (by decide), rfl, ?_⟩
        refine ⟨rfl, (by decide), ?_⟩
        refine ⟨rfl, ?_⟩
        refine ⟨fun c => absurd c (show (¬ ((2 : Int) ≤ 1)) from by decide), fun _ => ?_⟩
        refine ⟨_, rfl, (by decide), ?_⟩
        refine fun w0 hw0 => ?_; obtain rfl : w0 = some 236 := hw0.symm.trans (FS.g hF rfl)
        refine ⟨_, rfl, (by decide), ?_⟩
        have n24 : (wr ((wr (1228 + (I 235 6))) + 1)) = (wr (1228 + (I 235 6))) + 1 := wr_id (show -2147483648 ≤ ((wr (1228 + (I 235 6))) + 1 : Int) ∧ ((wr (1228 + (I 235 6))) + 1 : Int) < 2147483648 from by omega)
        refine ⟨_, rfl, (by decide), (show (0 : Int) ≤ (wr ((wr (1228 + (I 235 6))) + 1)) from by first | omega | (simp only [wr, wl] at *; omega)), (show (wr ((wr (1228 + (I 235 6))) + 1)) < (1340 : Int) from by first | omega | (simp only [wr, wl] at *; omega)), ?_⟩
        refine ⟨⟨9, (by decide), rfl⟩, ?_⟩
        refine Call_wp (lv := [some (vr 4115), some (vi 1)]) (by decide) ckJ0_charAt_5068e [] rfl rfl ?_
        refine ⟨⟨9, (by decide), rfl⟩, ?_⟩
        refine Call_wp (lv := [some (vr 4115)]) (by decide) ckJ0_isLatin1_aae02 [] rfl rfl ?_
        refine ⟨fun c => absurd c (show (¬ ((1 : Int) = 0)) from by decide), fun _ => ?_⟩
        refine ⟨9, (by decide), rfl, ?_⟩
        refine ⟨fun c => absurd (show ((0 : Int) = 0) from by decide) c, fun _ => ?_⟩
        refine ⟨rfl, (by decide), ?_⟩
        refine ⟨fun c => absurd c (show (¬ ((1 : Int) = 0)) from by decide), fun _ => ?_⟩
        refine ⟨9, (by decide), rfl, ?_⟩
        refine Call_wp (lv := [some (vr 4145), some (vi 1)]) (by decide) ckJ1_charAt_3b067 [] rfl rfl ?_
        refine Or.inr (Or.inr ⟨9, (by decide), rfl, ?_⟩)
        refine j_check (i := 1) (n := 2) (by omega) ?_
        refine ⟨9, (by decide), rfl, (by decide), (by decide), ?_⟩
        refine ⟨rfl, (by decide), ?_⟩
        refine ⟨rfl, (by decide), ?_⟩
        have a25 : -2147483648 ≤ (I 236 (Int.toNat (wr ((wr (1228 + (I 235 6))) + 1)))) ∧ (I 236 (Int.toNat (wr ((wr (1228 + (I 235 6))) + 1)))) < 2147483648 := hA.1 _ _
        refine ⟨fun (c26 : (¬ ((I 236 (Int.toNat (wr ((wr (1228 + (I 235 6))) + 1)))) : Int) = 111)) => ?_, fun (c26 : (((I 236 (Int.toNat (wr ((wr (1228 + (I 235 6))) + 1)))) : Int) = 111)) => ?_⟩
        ·
          refine ⟨fun _ => ?_, fun c => absurd (show ((0 : Int) = 0) from by decide) c⟩
          refine ⟨fun _ => ?_, fun c => absurd (show ((0 : Int) = 0) from by decide) c⟩
          have r27 : 0 ≤ (I 236 2) ∧ (I 236 2) ≤ 64 := Rg.n2 hR
          have a28 : -2147483648 ≤ (I 236 2) ∧ (I 236 2) < 2147483648 := hA.1 _ _
          exact ⟨rfl, (by decide), fun hv hA' => hQ _ _ hR hA' (hv _ rfl) (fun _ _ _ => rfl) (show 0 = 1 → (I 235 6) + 2 ≤ (I 235 6) from by first | omega | (simp only [wr, wl] at *; omega)) (show (I 235 6) ≤ (I 235 7) from by first | omega | (simp only [wr, wl] at *; omega)) (show (I 235 7) ≤ (I 236 2) from by first | omega | (simp only [wr, wl] at *; omega)) (show (I 235 6) < (I 236 2) → (I 235 6) < (I 235 7) from by first | omega | (simp only [wr, wl] at *; omega)) (show (I 235 6) ≤ (I 235 6) from by first | omega | (simp only [wr, wl] at *; omega)) (show 0 = 1 → (I 235 8) = 0 from by first | omega | (simp only [wr, wl] at *; omega)) (show 0 ≤ 0 ∧ 0 ≤ 1 from by first | omega | (simp only [wr, wl] at *; omega))⟩
        ·
          refine ⟨fun c => absurd c (show (¬ ((1 : Int) = 0)) from by decide), fun _ => ?_⟩
          refine ⟨⟨9, (by decide), rfl⟩, ?_⟩
          refine Call_wp (lv := [some (vr 4115)]) (by decide) ckJ0_length_8abf5 [] rfl rfl ?_
          refine ⟨9, (by decide), rfl, ?_⟩
          refine Or.inr (Or.inr ⟨9, (by decide), rfl, ?_⟩)
          refine ⟨⟨9, (by decide), rfl⟩, ?_⟩
          refine Call_wp (lv := [some (vr 4115)]) (by decide) ckJ0_coder_7d493 [] rfl rfl ?_
          refine ⟨fun c => absurd c (show (¬ ((1 : Int) = 0)) from by decide), fun _ => ?_⟩
          refine ⟨9, (by decide), rfl, ?_⟩
          refine ⟨rfl, (by decide), ?_⟩
          refine ⟨rfl, ?_⟩
          refine ⟨fun _ => ?_, fun c => absurd (show ((2 : Int) ≤ 2) from by decide) c⟩
          refine ⟨fun c => absurd c (show (¬ ((1 : Int) = 0)) from by decide), fun _ => ?_⟩
          refine ⟨⟨_, rfl, (by decide)⟩, ?_⟩
          have r29 : 0 ≤ (I 236 2) ∧ (I 236 2) ≤ 64 := Rg.n2 hR
          have a30 : -2147483648 ≤ (I 236 2) ∧ (I 236 2) < 2147483648 := hA.1 _ _
          refine r_goOn  hF hR (show (I 235 7) ≤ (I 236 2) from by first | omega | (simp only [wr, wl] at *; omega)) (fun I31 hR32 hA33 hW34 q35 q36 q37 q38 => ?_)
          have q35 : (I 235 7) ≤ (I31 235 6) := q35
          have q36 : (I31 235 6) ≤ (I31 235 7) := q36
          have q37 : (I31 235 7) ≤ (I 236 2) := q37
          have q38 : (I31 235 6) < (I 236 2) → (I31 235 6) < (I31 235 7) := q38
          have r39 : 0 ≤ (I31 235 6) ∧ (I31 235 6) ≤ 64 := Rg.f6 hR32
          have a40 : -2147483648 ≤ (I31 235 6) ∧ (I31 235 6) < 2147483648 := hA33.1 _ _
          have r41 : 0 ≤ (I31 235 7) ∧ (I31 235 7) ≤ 64 := Rg.f7 hR32
          have a42 : -2147483648 ≤ (I31 235 7) ∧ (I31 235 7) < 2147483648 := hA33.1 _ _
          exact ⟨rfl, (by decide), fun hv hA' => hQ _ _ hR32 hA' (hv _ rfl) (fun ka ja hk => (hW34 ka ja (by omega))) (show 1 = 1 → (I 235 6) + 2 ≤ (I31 235 6) from by first | omega | (simp only [wr, wl] at *; omega)) (show (I31 235 6) ≤ (I31 235 7) from by first | omega | (simp only [wr, wl] at *; omega)) (show (I31 235 7) ≤ (I 236 2) from by first | omega | (simp only [wr, wl] at *; omega)) (show (I31 235 6) < (I 236 2) → (I31 235 6) < (I31 235 7) from by first | omega | (simp only [wr, wl] at *; omega)) (show (I 235 6) ≤ (I31 235 6) from by first | omega | (simp only [wr, wl] at *; omega)) (show 1 = 1 → (I 235 8) = 0 from by first | omega | (simp only [wr, wl] at *; omega)) (show 0 ≤ 1 ∧ 1 ≤ 1 from by first | omega | (simp only [wr, wl] at *; omega))⟩
theorem r_takes_10 (hF : FS F) (hR : Rg I) (h1 : I 235 6 ≤ I 235 7) (h2 : I 235 7 ≤ I 236 2) (h3 : I 235 6 < I 236 2 → I 235 6 < I 235 7) (hQ : ∀ (r : Int) (I' : pI), Rg I' → AR I' → iR r → (∀ k j, ¬ ((k = 235 ∧ (j = 6 ∨ j = 7))) → I' k j = I k j) → (r = 1 → (I 235 6) + 4 ≤ (I' 235 6)) → ((I' 235 6) ≤ (I' 235 7)) → ((I' 235 7) ≤ (I 236 2)) → ((I' 235 6) < (I 236 2) → (I' 235 6) < (I' 235 7)) → ((I 235 6) ≤ (I' 235 6)) → (r = 1 → (I 235 8) = 0) → (0 ≤ r ∧ r ≤ 1) → Q (some (vi r)) F I') : CallN G (d + 4) kX12_takes [vr 235, vr 4116] NP F I Q := by
  refine CallN_in (fun hok hA => CallN_out ?_)
  have g2 := Rg.n2 hR
  refine Call_wp (lv := [some (vr 235), some (vr 4116), none, none]) (by decide) ckX12_takes [] rfl rfl ?_
  refine ⟨_, rfl, (by decide), ?_⟩
  have a1 : -2147483648 ≤ (I 235 8) ∧ (I 235 8) < 2147483648 := hA.1 _ _
  refine ⟨fun (c2 : (¬ ((I 235 8) : Int) = 0)) => ?_, fun (c2 : (((I 235 8) : Int) = 0)) => ?_⟩
  ·
    refine ⟨fun _ => ?_, fun c => absurd (show ((0 : Int) = 0) from by decide) c⟩
    refine ⟨fun _ => ?_, fun c => absurd (show ((0 : Int) = 0) from by decide) c⟩
    have r3 : 0 ≤ (I 235 6) ∧ (I 235 6) ≤ 64 := Rg.f6 hR
    have a4 : -2147483648 ≤ (I 235 6) ∧ (I 235 6) < 2147483648 := hA.1 _ _
    have r5 : 0 ≤ (I 235 7) ∧ (I 235 7) ≤ 64 := Rg.f7 hR
    have a6 : -2147483648 ≤ (I 235 7) ∧ (I 235 7) < 2147483648 := hA.1 _ _
    have r7 : 0 ≤ (I 236 2) ∧ (I 236 2) ≤ 64 := Rg.n2 hR
    have a8 : -2147483648 ≤ (I 236 2) ∧ (I 236 2) < 2147483648 := hA.1 _ _
    exact ⟨rfl, (by decide), fun hv hA' => hQ _ _ hR hA' (hv _ rfl) (fun _ _ _ => rfl) (show 0 = 1 → (I 235 6) + 4 ≤ (I 235 6) from by first | omega | (simp only [wr, wl] at *; omega)) (show (I 235 6) ≤ (I 235 7) from by first | omega | (simp only [wr, wl] at *; omega)) (show (I 235 7) ≤ (I 236 2) from by first | omega | (simp only [wr, wl] at *; omega)) (show (I 235 6) < (I 236 2) → (I 235 6) < (I 235 7) from by first | omega | (simp only [wr, wl] at *; omega)) (show (I 235 6) ≤ (I 235 6) from by first | omega | (simp only [wr, wl] at *; omega)) (show 0 = 1 → (I 235 8) = 0 from by first | omega | (simp only [wr, wl] at *; omega)) (show 0 ≤ 0 ∧ 0 ≤ 1 from by first | omega | (simp only [wr, wl] at *; omega))⟩
  ·
    refine ⟨_, rfl, (by decide), ?_⟩
    have r9 : 0 ≤ (I 235 7) ∧ (I 235 7) ≤ 64 := Rg.f7 hR
    refine ⟨_, rfl, (by decide), ?_⟩
    have r10 : 0 ≤ (I 235 6) ∧ (I 235 6) ≤ 64 := Rg.f6 hR
    refine ⟨⟨10, (by decide), rfl⟩, ?_⟩
    refine Call_wp (lv := [some (vr 4116)]) (by decide) ckJ0_length_8abf5 [] rfl rfl ?_
    refine ⟨10, (by decide), rfl, ?_⟩
    refine Or.inr (Or.inr ⟨10, (by decide), rfl, ?_⟩)
    refine ⟨⟨10, (by decide), rfl⟩, ?_⟩
    refine Call_wp (lv := [some (vr 4116)]) (by decide) ckJ0_coder_7d493 [] rfl rfl ?_
    refine ⟨fun c => absurd c (show (¬ ((1 : Int) = 0)) from by decide), fun _ => ?_⟩
    refine ⟨10, (by decide), rfl, ?_⟩
    refine ⟨rfl, (by decide), ?_⟩
    refine ⟨rfl, ?_⟩
    have a11 : -2147483648 ≤ (I 235 7) ∧ (I 235 7) < 2147483648 := hA.1 _ _
    have a12 : -2147483648 ≤ (I 235 6) ∧ (I 235 6) < 2147483648 := hA.1 _ _
    have n13 : (wr ((I 235 7) - (I 235 6))) = (I 235 7) - (I 235 6) := wr_id (show -2147483648 ≤ ((I 235 7) - (I 235 6) : Int) ∧ ((I 235 7) - (I 235 6) : Int) < 2147483648 from by omega)
    refine ⟨fun (c14 : (¬ ((wr ((I 235 7) - (I 235 6))) : Int) = 4)) => ?_, fun (c14 : (((wr ((I 235 7) - (I 235 6))) : Int) = 4)) => ?_⟩
    ·
      refine ⟨fun _ => ?_, fun c => absurd (show ((0 : Int) = 0) from by decide) c⟩
      refine ⟨fun _ => ?_, fun c => absurd (show ((0 : Int) = 0) from by decide) c⟩
      have r15 : 0 ≤ (I 236 2) ∧ (I 236 2) ≤ 64 := Rg.n2 hR
      have a16 : -2147483648 ≤ (I 236 2) ∧ (I 236 2) < 2147483648 := hA.1 _ _
      exact ⟨rfl, (by decide), fun hv hA' => hQ _ _ hR hA' (hv _ rfl) (fun _ _ _ => rfl) (show 0 = 1 → (I 235 6) + 4 ≤ (I 235 6) from by first | omega | (simp only [wr, wl] at *; omega)) (show (I 235 6) ≤ (I 235 7) from by first | omega | (simp only [wr, wl] at *; omega)) (show (I 235 7) ≤ (I 236 2) from by first | omega | (simp only [wr, wl] at *; omega)) (show (I 235 6) < (I 236 2) → (I 235 6) < (I 235 7) from by first | omega | (simp only [wr, wl] at *; omega)) (show (I 235 6) ≤ (I 235 6) from by first | omega | (simp only [wr, wl] at *; omega)) (show 0 = 1 → (I 235 8) = 0 from by first | omega | (simp only [wr, wl] at *; omega)) (show 0 ≤ 0 ∧ 0 ≤ 1 from by first | omega | (simp only [wr, wl] at *; omega))⟩
    ·
      refine ⟨fun c => absurd c (show (¬ ((1 : Int) = 0)) from by decide), fun _ => ?_⟩
      refine ⟨⟨10, (by decide), rfl⟩, ?_⟩
      refine Call_wp (lv := [some (vr 4116)]) (by decide) ckJ0_length_8abf5 [] rfl rfl ?_
      refine ⟨10, (by decide), rfl, ?_⟩
      refine Or.inr (Or.inr ⟨10, (by decide), rfl, ?_⟩)
      refine ⟨⟨10, (by decide), rfl⟩, ?_⟩
      refine Call_wp (lv := [some (vr 4116)]) (by decide) ckJ0_coder_7d493 [] rfl rfl ?_
      refine ⟨fun c => absurd c (show (¬ ((1 : Int) = 0)) from by decide), fun _ => ?_⟩
      refine ⟨10, (by decide), rfl, ?_⟩
      refine ⟨rfl, (by decide), ?_⟩
      refine ⟨rfl, ?_⟩
      refine ⟨fun c => absurd c (show (¬ ((4 : Int) ≤ 0)) from by decide), fun _ => ?_⟩
      refine ⟨_, rfl, (by decide), ?_⟩
      refine fun w0 hw0 => ?_; obtain rfl : w0 = some 236 := hw0.symm.trans (FS.g hF rfl)
      refine ⟨_, rfl, (by decide), ?_⟩
      have n17 : (wr (1228 + (I 235 6))) = 1228 + (I 235 6) := wr_id (show -2147483648 ≤ (1228 + (I 235 6) : Int) ∧ (1228 + (I 235 6) : Int) < 2147483648 from by omega)
      have n18 : (wr ((wr (1228 + (I 235 6))) + 0)) = (wr (1228 + (I 235 6))) + 0 := wr_id (show -2147483648 ≤ ((wr (1228 + (I 235 6))) + 0 : Int) ∧ ((wr (1228 + (I 235 6))) + 0 : Int) < 2147483648 from by omega)
      refine ⟨_, rfl, (by decide), (show (0 : Int) ≤ (wr ((wr (1228 + (I 235 6))) + 0)) from by first | omega | (simp only [wr, wl] at *; omega)), (show (wr ((wr (1228 + (I 235 6))) + 0)) < (1340 : Int) from by first | omega | (simp only [wr, wl] at *; omega)), ?_⟩
      have r19 : 0 ≤ (I 236 (Int.toNat (wr ((wr (1228 + (I 235 6))) + 0)))) ∧ (I 236 (Int.toNat (wr ((wr (1228 + (I 235 6))) + 0)))) ≤ 255 := Pn_t (by omega) (hR.n (Int.toNat (wr ((wr (1228 + (I 235 6))) + 0))) (by omega))
      refine ⟨⟨10, (by decide), rfl⟩, ?_⟩
      refine Call_wp (lv := [some (vr 4116), some (vi 0)]) (by decide) ckJ0_charAt_5068e [] rfl rfl ?_
      refine ⟨⟨10, (by decide), rfl⟩, ?_⟩
      refine Call_wp (lv := [some (vr 4116)]) (by decide) ckJ0_isLatin1_aae02 [] rfl rfl ?_
      refine ⟨fun c => absurd c (show (¬ ((1 : Int) = 0)) from by decide), fun _ => ?_⟩
      refine ⟨10, (by decide), rfl, ?_⟩
      refine ⟨fun c => absurd (show ((0 : Int) = 0) from by decide) c, fun _ => ?_⟩
      refine ⟨rfl, (by decide), ?_⟩
      refine ⟨fun c => absurd c (show (¬ ((1 : Int) = 0)) from by decide), fun _ => ?_⟩
      refine ⟨10, (by decide), rfl, ?_⟩
      refine Call_wp (lv := [some (vr 4146), some (vi 0)]) (by decide) ckJ1_charAt_3b067 [] rfl rfl ?_
      refine Or.inr (Or.inr ⟨10, (by decide), rfl, ?_⟩)
      refine j_check (i := 0) (n := 4) (by omega) ?_
      refine ⟨10, (by decide), rfl, (by decide), (by decide), ?_⟩
      refine ⟨rfl, (by decide), ?_⟩
      refine ⟨rfl, (by decide), ?_⟩
      have a20 : -2147483648 ≤ (I 236 (Int.toNat (wr ((wr (1228 + (I 235 6))) + 0)))) ∧ (I 236 (Int.toNat (wr ((wr (1228 + (I 235 6))) + 0)))) < 2147483648 := hA.1 _ _
      refine ⟨fun (c21 : (¬ ((I 236 (Int.toNat (wr ((wr (1228 + (I 235 6))) + 0)))) : Int) = 108)) => ?_, fun (c21 : (((I 236 (Int.toNat (wr ((wr (1228 + (I 235 6))) + 0)))) : Int) = 108)) => ?_⟩
      ·
        refine ⟨fun _ => ?_, fun c => absurd (show ((0 : Int) = 0) from by decide) c⟩
        refine ⟨fun _ => ?_, fun c => absurd (show ((0 : Int) = 0) from by decide) c⟩
        have r22 : 0 ≤ (I 236 2) ∧ (I 236 2) ≤ 64 := Rg.n2 hR
        have a23 : -2147483648 ≤ (I 236 2) ∧ (I 236 2) < 2147483648 := hA.1 _ _
        exact ⟨rfl, (by decide), fun hv hA' => hQ _ _ hR hA' (hv _ rfl) (fun _ _ _ => rfl) (show 0 = 1 → (I 235 6) + 4 ≤ (I 235 6) from by first | omega | (simp only [wr, wl] at *; omega)) (show (I 235 6) ≤ (I 235 7) from by first | omega | (simp only [wr, wl] at *; omega)) (show (I 235 7) ≤ (I 236 2) from by first | omega | (simp only [wr, wl] at *; omega)) (show (I 235 6) < (I 236 2) → (I 235 6) < (I 235 7) from by first | omega | (simp only [wr, wl] at *; omega)) (show (I 235 6) ≤ (I 235 6) from by first | omega | (simp only [wr, wl] at *; omega)) (show 0 = 1 → (I 235 8) = 0 from by first | omega | (simp only [wr, wl] at *; omega)) (show 0 ≤ 0 ∧ 0 ≤ 1 from by first | omega | (simp only [wr, wl] at *; omega))⟩
      ·
        refine ⟨fun c => absurd c (show (¬ ((1 : Int) = 0)) from by decide), fun _ => ?_⟩
        refine ⟨⟨10, (by decide), rfl⟩, ?_⟩
        refine Call_wp (lv := [some (vr 4116)]) (by decide) ckJ0_length_8abf5 [] rfl rfl ?_
        refine ⟨10, (by decide), rfl, ?_⟩
        refine Or.inr (Or.inr ⟨10, (by decide), rfl, ?_⟩)
        refine ⟨⟨10, (by decide), rfl⟩, ?_⟩
        refine Call_wp (lv := [some (vr 4116)]) (by decide) ckJ0_coder_7d493 [] rfl rfl ?_
        refine ⟨fun c => absurd c (show (¬ ((1 : Int) = 0)) from by decide), fun _ => ?_⟩
        refine ⟨10, (by decide), rfl, ?_⟩
        refine ⟨rfl, (by decide), ?_⟩
        refine ⟨rfl, ?_⟩
        refine ⟨fun c => absurd c (show (¬ ((4 : Int) ≤ 1)) from by decide), fun _ => ?_⟩
        refine ⟨_, rfl, (by decide), ?_⟩
        refine fun w0 hw0 => ?_; obtain rfl : w0 = some 236 := hw0.symm.trans (FS.g hF rfl)
        refine ⟨_, rfl, (by decide), ?_⟩
        have n24 : (wr ((wr (1228 + (I 235 6))) + 1)) = (wr (1228 + (I 235 6))) + 1 := wr_id (show -2147483648 ≤ ((wr (1228 + (I 235 6))) + 1 : Int) ∧ ((wr (1228 + (I 235 6))) + 1 : Int) < 2147483648 from by omega)
        refine ⟨_, rfl, (by decide), (show (0 : Int) ≤ (wr ((wr (1228 + (I 235 6))) + 1)) from by first | omega | (simp only [wr, wl] at *; omega)), (show (wr ((wr (1228 + (I 235 6))) + 1)) < (1340 : Int) from by first | omega | (simp only [wr, wl] at *; omega)), ?_⟩
        refine ⟨⟨10, (by decide), rfl⟩, ?_⟩
        refine Call_wp (lv := [some (vr 4116), some (vi 1)]) (by decide) ckJ0_charAt_5068e [] rfl rfl ?_
        refine ⟨⟨10, (by decide), rfl⟩, ?_⟩
        refine Call_wp (lv := [some (vr 4116)]) (by decide) ckJ0_isLatin1_aae02 [] rfl rfl ?_
        refine ⟨fun c => absurd c (show (¬ ((1 : Int) = 0)) from by decide), fun _ => ?_⟩
        refine ⟨10, (by decide), rfl, ?_⟩
        refine ⟨fun c => absurd (show ((0 : Int) = 0) from by decide) c, fun _ => ?_⟩
        refine ⟨rfl, (by decide), ?_⟩
        refine ⟨fun c => absurd c (show (¬ ((1 : Int) = 0)) from by decide), fun _ => ?_⟩
        refine ⟨10, (by decide), rfl, ?_⟩
        refine Call_wp (lv := [some (vr 4146), some (vi 1)]) (by decide) ckJ1_charAt_3b067 [] rfl rfl ?_
        refine Or.inr (Or.inr ⟨10, (by decide), rfl, ?_⟩)
        refine j_check (i := 1) (n := 4) (by omega) ?_
        refine ⟨10, (by decide), rfl, (by decide), (by decide), ?_⟩
        refine ⟨rfl, (by decide), ?_⟩
        refine ⟨rfl, (by decide), ?_⟩
        have a25 : -2147483648 ≤ (I 236 (Int.toNat (wr ((wr (1228 + (I 235 6))) + 1)))) ∧ (I 236 (Int.toNat (wr ((wr (1228 + (I 235 6))) + 1)))) < 2147483648 := hA.1 _ _
        refine ⟨fun (c26 : (¬ ((I 236 (Int.toNat (wr ((wr (1228 + (I 235 6))) + 1)))) : Int) = 111)) => ?_, fun (c26 : (((I 236 (Int.toNat (wr ((wr (1228 + (I 235 6))) + 1)))) : Int) = 111)) => ?_⟩
        ·
          refine ⟨fun _ => ?_, fun c => absurd (show ((0 : Int) = 0) from by decide) c⟩
          refine ⟨fun _ => ?_, fun c => absurd (show ((0 : Int) = 0) from by decide) c⟩
          have r27 : 0 ≤ (I 236 2) ∧ (I 236 2) ≤ 64 := Rg.n2 hR
          have a28 : -2147483648 ≤ (I 236 2) ∧ (I 236 2) < 2147483648 := hA.1 _ _
          exact ⟨rfl, (by decide), fun hv hA' => hQ _ _ hR hA' (hv _ rfl) (fun _ _ _ => rfl) (show 0 = 1 → (I 235 6) + 4 ≤ (I 235 6) from by first | omega | (simp only [wr, wl] at *; omega)) (show (I 235 6) ≤ (I 235 7) from by first | omega | (simp only [wr, wl] at *; omega)) (show (I 235 7) ≤ (I 236 2) from by first | omega | (simp only [wr, wl] at *; omega)) (show (I 235 6) < (I 236 2) → (I 235 6) < (I 235 7) from by first | omega | (simp only [wr, wl] at *; omega)) (show (I 235 6) ≤ (I 235 6) from by first | omega | (simp only [wr, wl] at *; omega)) (show 0 = 1 → (I 235 8) = 0 from by first | omega | (simp only [wr, wl] at *; omega)) (show 0 ≤ 0 ∧ 0 ≤ 1 from by first | omega | (simp only [wr, wl] at *; omega))⟩
        ·
          refine ⟨fun c => absurd c (show (¬ ((1 : Int) = 0)) from by decide), fun _ => ?_⟩
          refine ⟨⟨10, (by decide), rfl⟩, ?_⟩
          refine Call_wp (lv := [some (vr 4116)]) (by decide) ckJ0_length_8abf5 [] rfl rfl ?_
          refine ⟨10, (by decide), rfl, ?_⟩
          refine Or.inr (Or.inr ⟨10, (by decide), rfl, ?_⟩)
          refine ⟨⟨10, (by decide), rfl⟩, ?_⟩
          refine Call_wp (lv := [some (vr 4116)]) (by decide) ckJ0_coder_7d493 [] rfl rfl ?_
          refine ⟨fun c => absurd c (show (¬ ((1 : Int) = 0)) from by decide), fun _ => ?_⟩
          refine ⟨10, (by decide), rfl, ?_⟩
          refine ⟨rfl, (by decide), ?_⟩
          refine ⟨rfl, ?_⟩
          refine ⟨fun c => absurd c (show (¬ ((4 : Int) ≤ 2)) from by decide), fun _ => ?_⟩
          refine ⟨_, rfl, (by decide), ?_⟩
          refine fun w0 hw0 => ?_; obtain rfl : w0 = some 236 := hw0.symm.trans (FS.g hF rfl)
          refine ⟨_, rfl, (by decide), ?_⟩
          have n29 : (wr ((wr (1228 + (I 235 6))) + 2)) = (wr (1228 + (I 235 6))) + 2 := wr_id (show -2147483648 ≤ ((wr (1228 + (I 235 6))) + 2 : Int) ∧ ((wr (1228 + (I 235 6))) + 2 : Int) < 2147483648 from by omega)
          refine ⟨_, rfl, (by decide), (show (0 : Int) ≤ (wr ((wr (1228 + (I 235 6))) + 2)) from by first | omega | (simp only [wr, wl] at *; omega)), (show (wr ((wr (1228 + (I 235 6))) + 2)) < (1340 : Int) from by first | omega | (simp only [wr, wl] at *; omega)), ?_⟩
          refine ⟨⟨10, (by decide), rfl⟩, ?_⟩
          refine Call_wp (lv := [some (vr 4116), some (vi 2)]) (by decide) ckJ0_charAt_5068e [] rfl rfl ?_
          refine ⟨⟨10, (by decide), rfl⟩, ?_⟩
          refine Call_wp (lv := [some (vr 4116)]) (by decide) ckJ0_isLatin1_aae02 [] rfl rfl ?_
          refine ⟨fun c => absurd c (show (¬ ((1 : Int) = 0)) from by decide), fun _ => ?_⟩
          refine ⟨10, (by decide), rfl, ?_⟩
          refine ⟨fun c => absurd (show ((0 : Int) = 0) from by decide) c, fun _ => ?_⟩
          refine ⟨rfl, (by decide), ?_⟩
          refine ⟨fun c => absurd c (show (¬ ((1 : Int) = 0)) from by decide), fun _ => ?_⟩
          refine ⟨10, (by decide), rfl, ?_⟩
          refine Call_wp (lv := [some (vr 4146), some (vi 2)]) (by decide) ckJ1_charAt_3b067 [] rfl rfl ?_
          refine Or.inr (Or.inr ⟨10, (by decide), rfl, ?_⟩)
          refine j_check (i := 2) (n := 4) (by omega) ?_
          refine ⟨10, (by decide), rfl, (by decide), (by decide), ?_⟩
          refine ⟨rfl, (by decide), ?_⟩
          refine ⟨rfl, (by decide), ?_⟩
          have a30 : -2147483648 ≤ (I 236 (Int.toNat (wr ((wr (1228 + (I 235 6))) + 2)))) ∧ (I 236 (Int.toNat (wr ((wr (1228 + (I 235 6))) + 2)))) < 2147483648 := hA.1 _ _
          refine ⟨fun (c31 : (¬ ((I 236 (Int.toNat (wr ((wr (1228 + (I 235 6))) + 2)))) : Int) = 97)) => ?_, fun (c31 : (((I 236 (Int.toNat (wr ((wr (1228 + (I 235 6))) + 2)))) : Int) = 97)) => ?_⟩
          ·
            refine ⟨fun _ => ?_, fun c => absurd (show ((0 : Int) = 0) from by decide) c⟩
            refine ⟨fun _ => ?_, fun c => absurd (show ((0 : Int) = 0) from by decide) c⟩
            have r32 : 0 ≤ (I 236 2) ∧ (I 236 2) ≤ 64 := Rg.n2 hR
            have a33 : -2147483648 ≤ (I 236 2) ∧ (I 236 2) < 2147483648 := hA.1 _ _
            exact ⟨rfl, (by decide), fun hv hA' => hQ _ _ hR hA' (hv _ rfl) (fun _ _ _ => rfl) (show 0 = 1 → (I 235 6) + 4 ≤ (I 235 6) from by first | omega | (simp only [wr, wl] at *; omega)) (show (I 235 6) ≤ (I 235 7) from by first | omega | (simp only [wr, wl] at *; omega)) (show (I 235 7) ≤ (I 236 2) from by first | omega | (simp only [wr, wl] at *; omega)) (show (I 235 6) < (I 236 2) → (I 235 6) < (I 235 7) from by first | omega | (simp only [wr, wl] at *; omega)) (show (I 235 6) ≤ (I 235 6) from by first | omega | (simp only [wr, wl] at *; omega)) (show 0 = 1 → (I 235 8) = 0 from by first | omega | (simp only [wr, wl] at *; omega)) (show 0 ≤ 0 ∧ 0 ≤ 1 from by first | omega | (simp only [wr, wl] at *; omega))⟩
          ·
            refine ⟨fun c => absurd c (show (¬ ((1 : Int) = 0)) from by decide), fun _ => ?_⟩
            refine ⟨⟨10, (by decide), rfl⟩, ?_⟩
            refine Call_wp (lv := [some (vr 4116)]) (by decide) ckJ0_length_8abf5 [] rfl rfl ?_
            refine ⟨10, (by decide), rfl, ?_⟩
            refine Or.inr (Or.inr ⟨10, (by decide), rfl, ?_⟩)
            refine ⟨⟨10, (by decide), rfl⟩, ?_⟩
            refine Call_wp (lv := [some (vr 4116)]) (by decide) ckJ0_coder_7d493 [] rfl rfl ?_
            refine ⟨fun c => absurd c (show (¬ ((1 : Int) = 0)) from by decide), fun _ => ?_⟩
            refine ⟨10, (by decide), rfl, ?_⟩
            refine ⟨rfl, (by decide), ?_⟩
            refine ⟨rfl, ?_⟩
            refine ⟨fun c => absurd c (show (¬ ((4 : Int) ≤ 3)) from by decide), fun _ => ?_⟩
            refine ⟨_, rfl, (by decide), ?_⟩
            refine fun w0 hw0 => ?_; obtain rfl : w0 = some 236 := hw0.symm.trans (FS.g hF rfl)
            refine ⟨_, rfl, (by decide), ?_⟩
            have n34 : (wr ((wr (1228 + (I 235 6))) + 3)) = (wr (1228 + (I 235 6))) + 3 := wr_id (show -2147483648 ≤ ((wr (1228 + (I 235 6))) + 3 : Int) ∧ ((wr (1228 + (I 235 6))) + 3 : Int) < 2147483648 from by omega)
            refine ⟨_, rfl, (by decide), (show (0 : Int) ≤ (wr ((wr (1228 + (I 235 6))) + 3)) from by first | omega | (simp only [wr, wl] at *; omega)), (show (wr ((wr (1228 + (I 235 6))) + 3)) < (1340 : Int) from by first | omega | (simp only [wr, wl] at *; omega)), ?_⟩
            refine ⟨⟨10, (by decide), rfl⟩, ?_⟩
            refine Call_wp (lv := [some (vr 4116), some (vi 3)]) (by decide) ckJ0_charAt_5068e [] rfl rfl ?_
            refine ⟨⟨10, (by decide), rfl⟩, ?_⟩
            refine Call_wp (lv := [some (vr 4116)]) (by decide) ckJ0_isLatin1_aae02 [] rfl rfl ?_
            refine ⟨fun c => absurd c (show (¬ ((1 : Int) = 0)) from by decide), fun _ => ?_⟩
            refine ⟨10, (by decide), rfl, ?_⟩
            refine ⟨fun c => absurd (show ((0 : Int) = 0) from by decide) c, fun _ => ?_⟩
            refine ⟨rfl, (by decide), ?_⟩
            refine ⟨fun c => absurd c (show (¬ ((1 : Int) = 0)) from by decide), fun _ => ?_⟩
            refine ⟨10, (by decide), rfl, ?_⟩
            refine Call_wp (lv := [some (vr 4146), some (vi 3)]) (by decide) ckJ1_charAt_3b067 [] rfl rfl ?_
            refine Or.inr (Or.inr ⟨10, (by decide), rfl, ?_⟩)
            refine j_check (i := 3) (n := 4) (by omega) ?_
            refine ⟨10, (by decide), rfl, (by decide), (by decide), ?_⟩
            refine ⟨rfl, (by decide), ?_⟩
            refine ⟨rfl, (by decide), ?_⟩
            have a35 : -2147483648 ≤ (I 236 (Int.toNat (wr ((wr (1228 + (I 235 6))) + 3)))) ∧ (I 236 (Int.toNat (wr ((wr (1228 + (I 235 6))) + 3)))) < 2147483648 := hA.1 _ _
            refine ⟨fun (c36 : (¬ ((I 236 (Int.toNat (wr ((wr (1228 + (I 235 6))) + 3)))) : Int) = 100)) => ?_, fun (c36 : (((I 236 (Int.toNat (wr ((wr (1228 + (I 235 6))) + 3)))) : Int) = 100)) => ?_⟩
            ·
              refine ⟨fun _ => ?_, fun c => absurd (show ((0 : Int) = 0) from by decide) c⟩
              refine ⟨fun _ => ?_, fun c => absurd (show ((0 : Int) = 0) from by decide) c⟩
              have r37 : 0 ≤ (I 236 2) ∧ (I 236 2) ≤ 64 := Rg.n2 hR
              have a38 : -2147483648 ≤ (I 236 2) ∧ (I 236 2) < 2147483648 := hA.1 _ _
              exact ⟨rfl, (by decide), fun hv hA' => hQ _ _ hR hA' (hv _ rfl) (fun _ _ _ => rfl) (show 0 = 1 → (I 235 6) + 4 ≤ (I 235 6) from by first | omega | (simp only [wr, wl] at *; omega)) (show (I 235 6) ≤ (I 235 7) from by first | omega | (simp only [wr, wl] at *; omega)) (show (I 235 7) ≤ (I 236 2) from by first | omega | (simp only [wr, wl] at *; omega)) (show (I 235 6) < (I 236 2) → (I 235 6) < (I 235 7) from by first | omega | (simp only [wr, wl] at *; omega)) (show (I 235 6) ≤ (I 235 6) from by first | omega | (simp only [wr, wl] at *; omega)) (show 0 = 1 → (I 235 8) = 0 from by first | omega | (simp only [wr, wl] at *; omega)) (show 0 ≤ 0 ∧ 0 ≤ 1 from by first | omega | (simp only [wr, wl] at *; omega))⟩
            ·
              refine ⟨fun c => absurd c (show (¬ ((1 : Int) = 0)) from by decide), fun _ => ?_⟩
              refine ⟨⟨10, (by decide), rfl⟩, ?_⟩
              refine Call_wp (lv := [some (vr 4116)]) (by decide) ckJ0_length_8abf5 [] rfl rfl ?_
              refine ⟨10, (by decide), rfl, ?_⟩
              refine Or.inr (Or.inr ⟨10, (by decide), rfl, ?_⟩)
              refine ⟨⟨10, (by decide), rfl⟩, ?_⟩
              refine Call_wp (lv := [some (vr 4116)]) (by decide) ckJ0_coder_7d493 [] rfl rfl ?_
              refine ⟨fun c => absurd c (show (¬ ((1 : Int) = 0)) from by decide), fun _ => ?_⟩
              refine ⟨10, (by decide), rfl, ?_⟩
              refine ⟨rfl, (by decide), ?_⟩
              refine ⟨rfl, ?_⟩
              refine ⟨fun _ => ?_, fun c => absurd (show ((4 : Int) ≤ 4) from by decide) c⟩
              refine ⟨fun c => absurd c (show (¬ ((1 : Int) = 0)) from by decide), fun _ => ?_⟩
              refine ⟨⟨_, rfl, (by decide)⟩, ?_⟩
              have r39 : 0 ≤ (I 236 2) ∧ (I 236 2) ≤ 64 := Rg.n2 hR
              have a40 : -2147483648 ≤ (I 236 2) ∧ (I 236 2) < 2147483648 := hA.1 _ _
              refine r_goOn  hF hR (show (I 235 7) ≤ (I 236 2) from by first | omega | (simp only [wr, wl] at *; omega)) (fun I41 hR42 hA43 hW44 q45 q46 q47 q48 => ?_)
              have q45 : (I 235 7) ≤ (I41 235 6) := q45
              have q46 : (I41 235 6) ≤ (I41 235 7) := q46
              have q47 : (I41 235 7) ≤ (I 236 2) := q47
              have q48 : (I41 235 6) < (I 236 2) → (I41 235 6) < (I41 235 7) := q48
              have r49 : 0 ≤ (I41 235 6) ∧ (I41 235 6) ≤ 64 := Rg.f6 hR42
              have a50 : -2147483648 ≤ (I41 235 6) ∧ (I41 235 6) < 2147483648 := hA43.1 _ _
              have r51 : 0 ≤ (I41 235 7) ∧ (I41 235 7) ≤ 64 := Rg.f7 hR42
              have a52 : -2147483648 ≤ (I41 235 7) ∧ (I41 235 7) < 2147483648 := hA43.1 _ _
              exact ⟨rfl, (by decide), fun hv hA' => hQ _ _ hR42 hA' (hv _ rfl) (fun ka ja hk => (hW44 ka ja (by omega))) (show 1 = 1 → (I 235 6) + 4 ≤ (I41 235 6) from by first | omega | (simp only [wr, wl] at *; omega)) (show (I41 235 6) ≤ (I41 235 7) from by first | omega | (simp only [wr, wl] at *; omega)) (show (I41 235 7) ≤ (I 236 2) from by first | omega | (simp only [wr, wl] at *; omega)) (show (I41 235 6) < (I 236 2) → (I41 235 6) < (I41 235 7) from by first | omega | (simp only [wr, wl] at *; omega)) (show (I 235 6) ≤ (I41 235 6) from by first | omega | (simp only [wr, wl] at *; omega)) (show 1 = 1 → (I 235 8) = 0 from by first | omega | (simp only [wr, wl] at *; omega)) (show 0 ≤ 1 ∧ 1 ≤ 1 from by first | omega | (simp only [wr, wl] at *; omega))⟩
theorem r_takes_11 (hF : FS F) (hR : Rg I) (h1 : I 235 6 ≤ I 235 7) (h2 : I 235 7 ≤ I 236 2) (h3 : I 235 6 < I 236 2 → I 235 6 < I 235 7) (hQ : ∀ (r : Int) (I' : pI), Rg I' → AR I' → iR r → (∀ k j, ¬ ((k = 235 ∧ (j = 6 ∨ j = 7))) → I' k j = I k j) → (r = 1 → (I 235 6) + 4 ≤ (I' 235 6)) → ((I' 235 6) ≤ (I' 235 7)) → ((I' 235 7) ≤ (I 236 2)) → ((I' 235 6) < (I 236 2) → (I' 235 6) < (I' 235 7)) → ((I 235 6) ≤ (I' 235 6)) → (r = 1 → (I 235 8) = 0) → (0 ≤ r ∧ r ≤ 1) → Q (some (vi r)) F I') : CallN G (d + 4) kX12_takes [vr 235, vr 4117] NP F I Q := by
  refine CallN_in (fun hok hA => CallN_out ?_)
  have g2 := Rg.n2 hR
  refine Call_wp (lv := [some (vr 235), some (vr 4117), none, none]) (by decide) ckX12_takes [] rfl rfl ?_
  refine ⟨_, rfl, (by decide), ?_⟩
  have a1 : -2147483648 ≤ (I 235 8) ∧ (I 235 8) < 2147483648 := hA.1 _ _
  refine ⟨fun (c2 : (¬ ((I 235 8) : Int) = 0)) => ?_, fun (c2 : (((I 235 8) : Int) = 0)) => ?_⟩
  ·
    refine ⟨fun _ => ?_, fun c => absurd (show ((0 : Int) = 0) from by decide) c⟩
    refine ⟨fun _ => ?_, fun c => absurd (show ((0 : Int) = 0) from by decide) c⟩
    have r3 : 0 ≤ (I 235 6) ∧ (I 235 6) ≤ 64 := Rg.f6 hR
    have a4 : -2147483648 ≤ (I 235 6) ∧ (I 235 6) < 2147483648 := hA.1 _ _
    have r5 : 0 ≤ (I 235 7) ∧ (I 235 7) ≤ 64 := Rg.f7 hR
    have a6 : -2147483648 ≤ (I 235 7) ∧ (I 235 7) < 2147483648 := hA.1 _ _
    have r7 : 0 ≤ (I 236 2) ∧ (I 236 2) ≤ 64 := Rg.n2 hR
    have a8 : -2147483648 ≤ (I 236 2) ∧ (I 236 2) < 2147483648 := hA.1 _ _
    exact ⟨rfl, (by decide), fun hv hA' => hQ _ _ hR hA' (hv _ rfl) (fun _ _ _ => rfl) (show 0 = 1 → (I 235 6) + 4 ≤ (I 235 6) from by first | omega | (simp only [wr, wl] at *; omega)) (show (I 235 6) ≤ (I 235 7) from by first | omega | (simp only [wr, wl] at *; omega)) (show (I 235 7) ≤ (I 236 2) from by first | omega | (simp only [wr, wl] at *; omega)) (show (I 235 6) < (I 236 2) → (I 235 6) < (I 235 7) from by first | omega | (simp only [wr, wl] at *; omega)) (show (I 235 6) ≤ (I 235 6) from by first | omega | (simp only [wr, wl] at *; omega)) (show 0 = 1 → (I 235 8) = 0 from by first | omega | (simp only [wr, wl] at *; omega)) (show 0 ≤ 0 ∧ 0 ≤ 1 from by first | omega | (simp only [wr, wl] at *; omega))⟩
  ·
    refine ⟨_, rfl, (by decide), ?_⟩
    have r9 : 0 ≤ (I 235 7) ∧ (I 235 7) ≤ 64 := Rg.f7 hR
    refine ⟨_, rfl, (by decide), ?_⟩
    have r10 : 0 ≤ (I 235 6) ∧ (I 235 6) ≤ 64 := Rg.f6 hR
    refine ⟨⟨11, (by decide), rfl⟩, ?_⟩
    refine Call_wp (lv := [some (vr 4117)]) (by decide) ckJ0_length_8abf5 [] rfl rfl ?_
    refine ⟨11, (by decide), rfl, ?_⟩
    refine Or.inr (Or.inr ⟨11, (by decide), rfl, ?_⟩)
    refine ⟨⟨11, (by decide), rfl⟩, ?_⟩
    refine Call_wp (lv := [some (vr 4117)]) (by decide) ckJ0_coder_7d493 [] rfl rfl ?_
    refine ⟨fun c => absurd c (show (¬ ((1 : Int) = 0)) from by decide), fun _ => ?_⟩
    refine ⟨11, (by decide), rfl, ?_⟩
    refine ⟨rfl, (by decide), ?_⟩
    refine ⟨rfl, ?_⟩
    have a11 : -2147483648 ≤ (I 235 7) ∧ (I 235 7) < 2147483648 := hA.1 _ _
    have a12 : -2147483648 ≤ (I 235 6) ∧ (I 235 6) < 2147483648 := hA.1 _ _
    have n13 : (wr ((I 235 7) - (I 235 6))) = (I 235 7) - (I 235 6) := wr_id (show -2147483648 ≤ ((I 235 7) - (I 235 6) : Int) ∧ ((I 235 7) - (I 235 6) : Int) < 2147483648 from by omega)
    refine ⟨fun (c14 : (¬ ((wr ((I 235 7) - (I 235 6))) : Int) = 4)) => ?_, fun (c14 : (((wr ((I 235 7) - (I 235 6))) : Int) = 4)) => ?_⟩
    ·
      refine ⟨fun _ => ?_, fun c => absurd (show ((0 : Int) = 0) from by decide) c⟩
      refine ⟨fun _ => ?_, fun c => absurd (show ((0 : Int) = 0) from by decide) c⟩
      have r15 : 0 ≤ (I 236 2) ∧ (I 236 2) ≤ 64 := Rg.n2 hR
      have a16 : -2147483648 ≤ (I 236 2) ∧ (I 236 2) < 2147483648 := hA.1 _ _
      exact ⟨rfl, (by decide), fun hv hA' => hQ _ _ hR hA' (hv _ rfl) (fun _ _ _ => rfl) (show 0 = 1 → (I 235 6) + 4 ≤ (I 235 6) from by first | omega | (simp only [wr, wl] at *; omega)) (show (I 235 6) ≤ (I 235 7) from by first | omega | (simp only [wr, wl] at *; omega)) (show (I 235 7) ≤ (I 236 2) from by first | omega | (simp only [wr, wl] at *; omega)) (show (I 235 6) < (I 236 2) → (I 235 6) < (I 235 7) from by first | omega | (simp only [wr, wl] at *; omega)) (show (I 235 6) ≤ (I 235 6) from by first | omega | (simp only [wr, wl] at *; omega)) (show 0 = 1 → (I 235 8) = 0 from by first | omega | (simp only [wr, wl] at *; omega)) (show 0 ≤ 0 ∧ 0 ≤ 1 from by first | omega | (simp only [wr, wl] at *; omega))⟩
    ·
      refine ⟨fun c => absurd c (show (¬ ((1 : Int) = 0)) from by decide), fun _ => ?_⟩
      refine ⟨⟨11, (by decide), rfl⟩, ?_⟩
      refine Call_wp (lv := [some (vr 4117)]) (by decide) ckJ0_length_8abf5 [] rfl rfl ?_
      refine ⟨11, (by decide), rfl, ?_⟩
      refine Or.inr (Or.inr ⟨11, (by decide), rfl, ?_⟩)
      refine ⟨⟨11, (by decide), rfl⟩, ?_⟩
      refine Call_wp (lv := [some (vr 4117)]) (by decide) ckJ0_coder_7d493 [] rfl rfl ?_
      refine ⟨fun c => absurd c (show (¬ ((1 : Int) = 0)) from by decide), fun _ => ?_⟩
      refine ⟨11, (by decide), rfl, ?_⟩
      refine ⟨rfl, (by decide), ?_⟩
      refine ⟨rfl, ?_⟩
      refine ⟨fun c => absurd c (show (¬ ((4 : Int) ≤ 0)) from by decide), fun _ => ?_⟩
      refine ⟨_, rfl, (by decide), ?_⟩
      refine fun w0 hw0 => ?_; obtain rfl : w0 = some 236 := hw0.symm.trans (FS.g hF rfl)
      refine ⟨_, rfl, (by decide), ?_⟩
      have n17 : (wr (1228 + (I 235 6))) = 1228 + (I 235 6) := wr_id (show -2147483648 ≤ (1228 + (I 235 6) : Int) ∧ (1228 + (I 235 6) : Int) < 2147483648 from by omega)
      have n18 : (wr ((wr (1228 + (I 235 6))) + 0)) = (wr (1228 + (I 235 6))) + 0 := wr_id (show -2147483648 ≤ ((wr (1228 + (I 235 6))) + 0 : Int) ∧ ((wr (1228 + (I 235 6))) + 0 : Int) < 2147483648 from by omega)
      refine ⟨_, rfl, (by decide), (show (0 : Int) ≤ (wr ((wr (1228 + (I 235 6))) + 0)) from by first | omega | (simp only [wr, wl] at *; omega)), (show (wr ((wr (1228 + (I 235 6))) + 0)) < (1340 : Int) from by first | omega | (simp only [wr, wl] at *; omega)), ?_⟩
      have r19 : 0 ≤ (I 236 (Int.toNat (wr ((wr (1228 + (I 235 6))) + 0)))) ∧ (I 236 (Int.toNat (wr ((wr (1228 + (I 235 6))) + 0)))) ≤ 255 := Pn_t (by omega) (hR.n (Int.toNat (wr ((wr (1228 + (I 235 6))) + 0))) (by omega))
      refine ⟨⟨11, (by decide), rfl⟩, ?_⟩
      refine Call_wp (lv := [some (vr 4117), some (vi 0)]) (by decide) ckJ0_charAt_5068e [] rfl rfl ?_
      refine ⟨⟨11, (by decide), rfl⟩, ?_⟩
      refine Call_wp (lv := [some (vr 4117)]) (by decide) ckJ0_isLatin1_aae02 [] rfl rfl ?_
      refine ⟨fun c => absurd c (show (¬ ((1 : Int) = 0)) from by decide), fun _ => ?_⟩
      refine ⟨11, (by decide), rfl, ?_⟩
      refine ⟨fun c => absurd (show ((0 : Int) = 0) from by decide) c, fun _ => ?_⟩
      refine ⟨rfl, (by decide), ?_⟩
      refine ⟨fun c => absurd c (show (¬ ((1 : Int) = 0)) from by decide), fun _ => ?_⟩
      refine ⟨11, (by decide), rfl, ?_⟩
      refine Call_wp (lv := [some (vr 4147), some (vi 0)]) (by decide) ckJ1_charAt_3b067 [] rfl rfl ?_
      refine Or.inr (Or.inr ⟨11, (by decide), rfl, ?_⟩)
      refine j_check (i := 0) (n := 4) (by omega) ?_
      refine ⟨11, (by decide), rfl, (by decide), (by decide), ?_⟩
      refine ⟨rfl, (by decide), ?_⟩
      refine ⟨rfl, (by decide), ?_⟩
      have a20 : -2147483648 ≤ (I 236 (Int.toNat (wr ((wr (1228 + (I 235 6))) + 0)))) ∧ (I 236 (Int.toNat (wr ((wr (1228 + (I 235 6))) + 0)))) < 2147483648 := hA.1 _ _
      refine ⟨fun (c21 : (¬ ((I 236 (Int.toNat (wr ((wr (1228 + (I 235 6))) + 0)))) : Int) = 104)) => ?_, fun (c21 : (((I 236 (Int.toNat (wr ((wr (1228 + (I 235 6))) + 0)))) : Int) = 104)) => ?_⟩
      ·
        refine ⟨fun _ => ?_, fun c => absurd (show ((0 : Int) = 0) from by decide) c⟩
        refine ⟨fun _ => ?_, fun c => absurd (show ((0 : Int) = 0) from by decide) c⟩
        have r22 : 0 ≤ (I 236 2) ∧ (I 236 2) ≤ 64 := Rg.n2 hR
        have a23 : -2147483648 ≤ (I 236 2) ∧ (I 236 2) < 2147483648 := hA.1 _ _
        exact ⟨rfl, (by decide), fun hv hA' => hQ _ _ hR hA' (hv _ rfl) (fun _ _ _ => rfl) (show 0 = 1 → (I 235 6) + 4 ≤ (I 235 6) from by first | omega | (simp only [wr, wl] at *; omega)) (show (I 235 6) ≤ (I 235 7) from by first | omega | (simp only [wr, wl] at *; omega)) (show (I 235 7) ≤ (I 236 2) from by first | omega | (simp only [wr, wl] at *; omega)) (show (I 235 6) < (I 236 2) → (I 235 6) < (I 235 7) from by first | omega | (simp only [wr, wl] at *; omega)) (show (I 235 6) ≤ (I 235 6) from by first | omega | (simp only [wr, wl] at *; omega)) (show 0 = 1 → (I 235 8) = 0 from by first | omega | (simp only [wr, wl] at *; omega)) (show 0 ≤ 0 ∧ 0 ≤ 1 from by first | omega | (simp only [wr, wl] at *; omega))⟩
      ·
        refine ⟨fun c => absurd c (show (¬ ((1 : Int) = 0)) from by decide), fun _ => ?_⟩
        refine ⟨⟨11, (by decide), rfl⟩, ?_⟩
        refine Call_wp (lv := [some (vr 4117)]) (by decide) ckJ0_length_8abf5 [] rfl rfl ?_
        refine ⟨11, (by decide), rfl, ?_⟩
        refine Or.inr (Or.inr ⟨11, (by decide), rfl, ?_⟩)
        refine ⟨⟨11, (by decide), rfl⟩, ?_⟩
        refine Call_wp (lv := [some (vr 4117)]) (by decide) ckJ0_coder_7d493 [] rfl rfl ?_
        refine ⟨fun c => absurd c (show (¬ ((1 : Int) = 0)) from by decide), fun _ => ?_⟩
        refine ⟨11, (by decide), rfl, ?_⟩
        refine ⟨rfl, (by decide), ?_⟩
        refine ⟨rfl, ?_⟩
        refine ⟨fun c => absurd c (show (¬ ((4 : Int) ≤ 1)) from by decide), fun _ => ?_⟩
        refine ⟨_, rfl, (by decide), ?_⟩
        refine fun w0 hw0 => ?_; obtain rfl : w0 = some 236 := hw0.symm.trans (FS.g hF rfl)
        refine ⟨_, rfl, (by decide), ?_⟩
        have n24 : (wr ((wr (1228 + (I 235 6))) + 1)) = (wr (1228 + (I 235 6))) + 1 := wr_id (show -2147483648 ≤ ((wr (1228 + (I 235 6))) + 1 : Int) ∧ ((wr (1228 + (I 235 6))) + 1 : Int) < 2147483648 from by omega)
        refine ⟨_, rfl, (by decide), (show (0 : Int) ≤ (wr ((wr (1228 + (I 235 6))) + 1)) from by first | omega | (simp only [wr, wl] at *; omega)), (show (wr ((wr (1228 + (I 235 6))) + 1)) < (1340 : Int) from by first | omega | (simp only [wr, wl] at *; omega)), ?_⟩
        refine ⟨⟨11, (by decide), rfl⟩, ?_⟩
        refine Call_wp (lv := [some (vr 4117), some (vi 1)]) (by decide) ckJ0_charAt_5068e [] rfl rfl ?_
        refine ⟨⟨11, (by decide), rfl⟩, ?_⟩
        refine Call_wp (lv := [some (vr 4117)]) (by decide) ckJ0_isLatin1_aae02 [] rfl rfl ?_
        refine ⟨fun c => absurd c (show (¬ ((1 : Int) = 0)) from by decide), fun _ => ?_⟩
        refine ⟨11, (by decide), rfl, ?_⟩
        refine ⟨fun c => absurd (show ((0 : Int) = 0) from by decide) c, fun _ => ?_⟩
        refine ⟨rfl, (by decide), ?_⟩
        refine ⟨fun c => absurd c (show (¬ ((1 : Int) = 0)) from by decide), fun _ => ?_⟩
        refine ⟨11, (by decide), rfl, ?_⟩
        refine Call_wp (lv := [some (vr 4147), some (vi 1)]) (by decide) ckJ1_charAt_3b067 [] rfl rfl ?_
        refine Or.inr (Or.inr ⟨11, (by decide), rfl, ?_⟩)
        refine j_check (i := 1) (n := 4) (by omega) ?_
        refine ⟨11, (by decide), rfl, (by decide), (by decide), ?_⟩
        refine ⟨rfl, (by decide), ?_⟩
        refine ⟨rfl, (by decide), ?_⟩
        have a25 : -2147483648 ≤ (I 236 (Int.toNat (wr ((wr (1228 + (I 235 6))) + 1)))) ∧ (I 236 (Int.toNat (wr ((wr (1228 + (I 235 6))) + 1)))) < 2147483648 := hA.1 _ _
        refine ⟨fun (c26 : (¬ ((I 236 (Int.toNat (wr ((wr (1228 + (I 235 6))) + 1)))) : Int) = 111)) => ?_, fun (c26 : (((I 236 (Int.toNat (wr ((wr (1228 + (I 235 6))) + 1)))) : Int) = 111)) => ?_⟩
        ·
          refine ⟨fun _ => ?_, fun c => absurd (show ((0 : Int) = 0) from by decide) c⟩
          refine ⟨fun _ => ?_, fun c => absurd (show ((0 : Int) = 0) from by decide) c⟩
          have r27 : 0 ≤ (I 236 2) ∧ (I 236 2) ≤ 64 := Rg.n2 hR
          have a28 : -2147483648 ≤ (I 236 2) ∧ (I 236 2) < 2147483648 := hA.1 _ _
          exact ⟨rfl, (by decide), fun hv hA' => hQ _ _ hR hA' (hv _ rfl) (fun _ _ _ => rfl) (show 0 = 1 → (I 235 6) + 4 ≤ (I 235 6) from by first | omega | (simp only [wr, wl] at *; omega)) (show (I 235 6) ≤ (I 235 7) from by first | omega | (simp only [wr, wl] at *; omega)) (show (I 235 7) ≤ (I 236 2) from by first | omega | (simp only [wr, wl] at *; omega)) (show (I 235 6) < (I 236 2) → (I 235 6) < (I 235 7) from by first | omega | (simp only [wr, wl] at *; omega)) (show (I 235 6) ≤ (I 235 6) from by first | omega | (simp only [wr, wl] at *; omega)) (show 0 = 1 → (I 235 8) = 0 from by first | omega | (simp only [wr, wl] at *; omega)) (show 0 ≤ 0 ∧ 0 ≤ 1 from by first | omega | (simp only [wr, wl] at *; omega))⟩
        ·
          refine ⟨fun c => absurd c (show (¬ ((1 : Int) = 0)) from by decide), fun _ => ?_⟩
          refine ⟨⟨11, (by decide), rfl⟩, ?_⟩
          refine Call_wp (lv := [some (vr 4117)]) (by decide) ckJ0_length_8abf5 [] rfl rfl ?_
          refine ⟨11, (by decide), rfl, ?_⟩
          refine Or.inr (Or.inr ⟨11, (by decide), rfl, ?_⟩)
          refine ⟨⟨11, (by decide), rfl⟩, ?_⟩
          refine Call_wp (lv := [some (vr 4117)]) (by decide) ckJ0_coder_7d493 [] rfl rfl ?_
          refine ⟨fun c => absurd c (show (¬ ((1 : Int) = 0)) from by decide), fun _ => ?_⟩
          refine ⟨11, (by decide), rfl, ?_⟩
          refine ⟨rfl, (by decide), ?_⟩
          refine ⟨rfl, ?_⟩
          refine ⟨fun c => absurd c (show (¬ ((4 : Int) ≤ 2)) from by decide), fun _ => ?_⟩
          refine ⟨_, rfl, (by decide), ?_⟩
          refine fun w0 hw0 => ?_; obtain rfl : w0 = some 236 := hw0.symm.trans (FS.g hF rfl)
          refine ⟨_, rfl, (by decide), ?_⟩
          have n29 : (wr ((wr (1228 + (I 235 6))) + 2)) = (wr (1228 + (I 235 6))) + 2 := wr_id (show -2147483648 ≤ ((wr (1228 + (I 235 6))) + 2 : Int) ∧ ((wr (1228 + (I 235 6))) + 2 : Int) < 2147483648 from by omega)
          refine ⟨_, rfl, (by decide), (show (0 : Int) ≤ (wr ((wr (1228 + (I 235 6))) + 2)) from by first | omega | (simp only [wr, wl] at *; omega)), (show (wr ((wr (1228 + (I 235 6))) + 2)) < (1340 : Int) from by first | omega | (simp only [wr, wl] at *; omega)), ?_⟩
          refine ⟨⟨11, (by decide), rfl⟩, ?_⟩
          refine Call_wp (lv := [some (vr 4117), some (vi 2)]) (by decide) ckJ0_charAt_5068e [] rfl rfl ?_
          refine ⟨⟨11, (by decide), rfl⟩, ?_⟩
          refine Call_wp (lv := [some (vr 4117)]) (by decide) ckJ0_isLatin1_aae02 [] rfl rfl ?_
          refine ⟨fun c => absurd c (show (¬ ((1 : Int) = 0)) from by decide), fun _ => ?_⟩
          refine ⟨11, (by decide), rfl, ?_⟩
          refine ⟨fun c => absurd (show ((0 : Int) = 0) from by decide) c, fun _ => ?_⟩
          refine ⟨rfl, (by decide), ?_⟩
          refine ⟨fun c => absurd c (show (¬ ((1 : Int) = 0)) from by decide), fun _ => ?_⟩
          refine ⟨11, (by decide), rfl, ?_⟩
          refine Call_wp (lv := [some (vr 4147), some (vi 2)]) (by decide) ckJ1_charAt_3b067 [] rfl rfl ?_
          refine Or.inr (Or.inr ⟨11, (by decide), rfl, ?_⟩)
          refine j_check (i := 2) (n := 4) (by omega) ?_
          refine ⟨11, (by decide), rfl, (by decide), (by decide), ?_⟩
          refine ⟨rfl, (by decide), ?_⟩
          refine ⟨rfl, (by decide), ?_⟩
          have a30 : -2147483648 ≤ (I 236 (Int.toNat (wr ((wr (1228 + (I 235 6))) + 2)))) ∧ (I 236 (Int.toNat (wr ((wr (1228 + (I 235 6))) + 2)))) < 2147483648 := hA.1 _ _
          refine ⟨fun (c31 : (¬ ((I 236 (Int.toNat (wr ((wr (1228 + (I 235 6))) + 2)))) : Int) = 108)) => ?_, fun (c31 : (((I 236 (Int.toNat (wr ((wr (1228 + (I 235 6))) + 2)))) : Int) = 108)) => ?_⟩
          ·
            refine ⟨fun _ => ?_, fun c => absurd (show ((0 : Int) = 0) from by decide) c⟩
            refine ⟨fun _ => ?_, fun c => absurd (show ((0 : Int) = 0) from by decide) c⟩
            have r32 : 0 ≤ (I 236 2) ∧ (I 236 2) ≤ 64 := Rg.n2 hR
            have a33 : -2147483648 ≤ (I 236 2) ∧ (I 236 2) < 2147483648 := hA.1 _ _
            exact ⟨rfl, (by decide), fun hv hA' => hQ _ _ hR hA' (hv _ rfl) (fun _ _ _ => rfl) (show 0 = 1 → (I 235 6) + 4 ≤ (I 235 6) from by first | omega | (simp only [wr, wl] at *; omega)) (show (I 235 6) ≤ (I 235 7) from by first | omega | (simp only [wr, wl] at *; omega)) (show (I 235 7) ≤ (I 236 2) from by first | omega | (simp only [wr, wl] at *; omega)) (show (I 235 6) < (I 236 2) → (I 235 6) < (I 235 7) from by first | omega | (simp only [wr, wl] at *; omega)) (show (I 235 6) ≤ (I 235 6) from by first | omega | (simp only [wr, wl] at *; omega)) (show 0 = 1 → (I 235 8) = 0 from by first | omega | (simp only [wr, wl] at *; omega)) (show 0 ≤ 0 ∧ 0 ≤ 1 from by first | omega | (simp only [wr, wl] at *; omega))⟩
          ·
            refine ⟨fun c => absurd c (show (¬ ((1 : Int) = 0)) from by decide), fun _ => ?_⟩
            refine ⟨⟨11, (by decide), rfl⟩, ?_⟩
            refine Call_wp (lv := [some (vr 4117)]) (by decide) ckJ0_length_8abf5 [] rfl rfl ?_
            refine ⟨11, (by decide), rfl, ?_⟩
            refine Or.inr (Or.inr ⟨11, (by decide), rfl, ?_⟩)
            refine ⟨⟨11, (by decide), rfl⟩, ?_⟩
            refine Call_wp (lv := [some (vr 4117)]) (by decide) ckJ0_coder_7d493 [] rfl rfl ?_
            refine ⟨fun c => absurd c (show (¬ ((1 : Int) = 0)) from by decide), fun _ => ?_⟩
            refine ⟨11, (by decide), rfl, ?_⟩
            refine ⟨rfl, (by decide), ?_⟩
            refine ⟨rfl, ?_⟩
            refine ⟨fun c => absurd c (show (¬ ((4 : Int) ≤ 3)) from by decide), fun _ => ?_⟩
            refine ⟨_, rfl, (by decide), ?_⟩
            refine fun w0 hw0 => ?_; obtain rfl : w0 = some 236 := hw0.symm.trans (FS.g hF rfl)
            refine ⟨_, rfl, (by decide), ?_⟩
            have n34 : (wr ((wr (1228 + (I 235 6))) + 3)) = (wr (1228 + (I 235 6))) + 3 := wr_id (show -2147483648 ≤ ((wr (1228 + (I 235 6))) + 3 : Int) ∧ ((wr (1228 + (I 235 6))) + 3 : Int) < 2147483648 from by omega)
            refine ⟨_, rfl, (by decide), (show (0 : Int) ≤ (wr ((wr (1228 + (I 235 6))) + 3)) from by first | omega | (simp only [wr, wl] at *; omega)), (show (wr ((wr (1228 + (I 235 6))) + 3)) < (1340 : Int) from by first | omega | (simp only [wr, wl] at *; omega)), ?_⟩
            refine ⟨⟨11, (by decide), rfl⟩, ?_⟩
            refine Call_wp (lv := [some (vr 4117), some (vi 3)]) (by decide) ckJ0_charAt_5068e [] rfl rfl ?_
            refine ⟨⟨11, (by decide), rfl⟩, ?_⟩
            refine Call_wp (lv := [some (vr 4117)]) (by decide) ckJ0_isLatin1_aae02 [] rfl rfl ?_
            refine ⟨fun c => absurd c (show (¬ ((1 : Int) = 0)) from by decide), fun _ => ?_⟩
            refine ⟨11, (by decide), rfl, ?_⟩
            refine ⟨fun c => absurd (show ((0 : Int) = 0) from by decide) c, fun _ => ?_⟩
            refine ⟨rfl, (by decide), ?_⟩
            refine ⟨fun c => absurd c (show (¬ ((1 : Int) = 0)) from by decide), fun _ => ?_⟩
            refine ⟨11, (by decide), rfl, ?_⟩
            refine Call_wp (lv := [some (vr 4147), some (vi 3)]) (by decide) ckJ1_charAt_3b067 [] rfl rfl ?_
            refine Or.inr (Or.inr ⟨11, (by decide), rfl, ?_⟩)
            refine j_check (i := 3) (n := 4) (by omega) ?_
            refine ⟨11, (by decide), rfl, (by decide), (by decide), ?_⟩
            refine ⟨rfl, (by decide), ?_⟩
            refine ⟨rfl, (by decide), ?_⟩
            have a35 : -2147483648 ≤ (I 236 (Int.toNat (wr ((wr (1228 + (I 235 6))) + 3)))) ∧ (I 236 (Int.toNat (wr ((wr (1228 + (I 235 6))) + 3)))) < 2147483648 := hA.1 _ _
            refine ⟨fun (c36 : (¬ ((I 236 (Int.toNat (wr ((wr (1228 + (I 235 6))) + 3)))) : Int) = 100)) => ?_, fun (c36 : (((I 236 (Int.toNat (wr ((wr (1228 + (I 235 6))) + 3)))) : Int) = 100)) => ?_⟩
            ·
              refine ⟨fun _ => ?_, fun c => absurd (show ((0 : Int) = 0) from by decide) c⟩
              refine ⟨fun _ => ?_, fun c => absurd (show ((0 : Int) = 0) from by decide) c⟩
              have r37 : 0 ≤ (I 236 2) ∧ (I 236 2) ≤ 64 := Rg.n2 hR
              have a38 : -2147483648 ≤ (I 236 2) ∧ (I 236 2) < 2147483648 := hA.1 _ _
              exact ⟨rfl, (by decide), fun hv hA' => hQ _ _ hR hA' (hv _ rfl) (fun _ _ _ => rfl) (show 0 = 1 → (I 235 6) + 4 ≤ (I 235 6) from by first | omega | (simp only [wr, wl] at *; omega)) (show (I 235 6) ≤ (I 235 7) from by first | omega | (simp only [wr, wl] at *; omega)) (show (I 235 7) ≤ (I 236 2) from by first | omega | (simp only [wr, wl] at *; omega)) (show (I 235 6) < (I 236 2) → (I 235 6) < (I 235 7) from by first | omega | (simp only [wr, wl] at *; omega)) (show (I 235 6) ≤ (I 235 6) from by first | omega | (simp only [wr, wl] at *; omega)) (show 0 = 1 → (I 235 8) = 0 from by first | omega | (simp only [wr, wl] at *; omega)) (show 0 ≤ 0 ∧ 0 ≤ 1 from by first | omega | (simp only [wr, wl] at *; omega))⟩
            ·
              refine ⟨fun c => absurd c (show (¬ ((1 : Int) = 0)) from by decide), fun _ => ?_⟩
              refine ⟨⟨11, (by decide), rfl⟩, ?_⟩
              refine Call_wp (lv := [some (vr 4117)]) (by decide) ckJ0_length_8abf5 [] rfl rfl ?_
              refine ⟨11, (by decide), rfl, ?_⟩
              refine Or.inr (Or.inr ⟨11, (by decide), rfl, ?_⟩)
              refine ⟨⟨11, (by decide), rfl⟩, ?_⟩
              refine Call_wp (lv := [some (vr 4117)]) (by decide) ckJ0_coder_7d493 [] rfl rfl ?_
              refine ⟨fun c => absurd c (show (¬ ((1 : Int) = 0)) from by decide), fun _ => ?_⟩
              refine ⟨11, (by decide), rfl, ?_⟩
              refine ⟨rfl, (by decide), ?_⟩
              refine ⟨rfl, ?_⟩
              refine ⟨fun _ => ?_, fun c => absurd (show ((4 : Int) ≤ 4) from by decide) c⟩
              refine ⟨fun c => absurd c (show (¬ ((1 : Int) = 0)) from by decide), fun _ => ?_⟩
              refine ⟨⟨_, rfl, (by decide)⟩, ?_⟩
              have r39 : 0 ≤ (I 236 2) ∧ (I 236 2) ≤ 64 := Rg.n2 hR
              have a40 : -2147483648 ≤ (I 236 2) ∧ (I 236 2) < 2147483648 := hA.1 _ _
              refine r_goOn  hF hR (show (I 235 7) ≤ (I 236 2) from by first | omega | (simp only [wr, wl] at *; omega)) (fun I41 hR42 hA43 hW44 q45 q46 q47 q48 => ?_)
              have q45 : (I 235 7) ≤ (I41 235 6) := q45
              have q46 : (I41 235 6) ≤ (I41 235 7) := q46
              have q47 : (I41 235 7) ≤ (I 236 2) := q47
              have q48 : (I41 235 6) < (I 236 2) → (I41 235 6) < (I41 235 7) := q48
              have r49 : 0 ≤ (I41 235 6) ∧ (I41 235 6) ≤ 64 := Rg.f6 hR42
              have a50 : -2147483648 ≤ (I41 235 6) ∧ (I41 235 6) < 2147483648 := hA43.1 _ _
              have r51 : 0 ≤ (I41 235 7) ∧ (I41 235 7) ≤ 64 := Rg.f7 hR42
              have a52 : -2147483648 ≤ (I41 235 7) ∧ (I41 235 7) < 2147483648 := hA43.1 _ _
              exact ⟨rfl, (by decide), fun hv hA' => hQ _ _ hR42 hA' (hv _ rfl) (fun ka ja hk => (hW44 ka ja (by omega))) (show 1 = 1 → (I 235 6) + 4 ≤ (I41 235 6) from by first | omega | (simp only [wr, wl] at *; omega)) (show (I41 235 6) ≤ (I41 235 7) from by first | omega | (simp only [wr, wl] at *; omega)) (show (I41 235 7) ≤ (I 236 2) from by first | omega | (simp only [wr, wl] at *; omega)) (show (I41 235 6) < (I 236 2) → (I41 235 6) < (I41 235 7) from by first | omega | (simp only [wr, wl] at *; omega)) (show (I 235 6) ≤ (I41 235 6) from by first | omega | (simp only [wr, wl] at *; omega)) (show 1 = 1 → (I 235 8) = 0 from by first | omega | (simp only [wr, wl] at *; omega)) (show 0 ≤ 1 ∧ 1 ≤ 1 from by first | omega | (simp only [wr, wl] at *; omega))⟩
theorem r_takes_12 (hF : FS F) (hR : Rg I) (h1 : I 235 6 ≤ I 235 7) (h2 : I 235 7 ≤ I 236 2) (h3 : I 235 6 < I 236 2 → I 235 6 < I 235 7) (hQ : ∀ (r : Int) (I' : pI), Rg I' → AR I' → iR r → (∀ k j, ¬ ((k = 235 ∧ (j = 6 ∨ j = 7))) → I' k j = I k j) → (r = 1 → (I 235 6) + 4 ≤ (I' 235 6)) → ((I' 235 6) ≤ (I' 235 7)) → ((I' 235 7) ≤ (I 236 2)) → ((I' 235 6) < (I 236 2) → (I' 235 6) < (I' 235 7)) → ((I 235 6) ≤ (I' 235 6)) → (r = 1 → (I 235 8) = 0) → (0 ≤ r ∧ r ≤ 1) → Q (some (vi r)) F I') : CallN G (d + 4) kX12_takes [vr 235, vr 4118] NP F I Q := by
  refine CallN_in (fun hok hA => CallN_out ?_)
  have g2 := Rg.n2 hR
  refine Call_wp (lv := [some (vr 235), some (vr 4118), none, none]) (by decide) ckX12_takes [] rfl rfl ?_
  refine ⟨_, rfl, (by decide), ?_⟩
  have a1 : -2147483648 ≤ (I 235 8) ∧ (I 235 8) < 2147483648 := hA.1 _ _
  refine ⟨fun (c2 : (¬ ((I 235 8) : Int) = 0)) => ?_, fun (c2 : (((I 235 8) : Int) = 0)) => ?_⟩
  ·
    refine ⟨fun _ => ?_, fun c => absurd (show ((0 : Int) = 0) from by decide) c⟩
    refine ⟨fun _ => ?_, fun c => absurd (show ((0 : Int) = 0) from by decide) c⟩
    have r3 : 0 ≤ (I 235 6) ∧ (I 235 6) ≤ 64 := Rg.f6 hR
    have a4 : -2147483648 ≤ (I 235 6) ∧ (I 235 6) < 2147483648 := hA.1 _ _
    have r5 : 0 ≤ (I 235 7) ∧ (I 235 7) ≤ 64 := Rg.f7 hR
    have a6 : -2147483648 ≤ (I 235 7) ∧ (I 235 7) < 2147483648 := hA.1 _ _
    have r7 : 0 ≤ (I 236 2) ∧ (I 236 2) ≤ 64 := Rg.n2 hR
    have a8 : -2147483648 ≤ (I 236 2) ∧ (I 236 2) < 2147483648 := hA.1 _ _
    exact ⟨rfl, (by decide), fun hv hA' => hQ _ _ hR hA' (hv _ rfl) (fun _ _ _ => rfl) (show 0 = 1 → (I 235 6) + 4 ≤ (I 235 6) from by first | omega | (simp only [wr, wl] at *; omega)) (show (I 235 6) ≤ (I 235 7) from by first | omega | (simp only [wr, wl] at *; omega)) (show (I 235 7) ≤ (I 236 2) from by first | omega | (simp only [wr, wl] at *; omega)) (show (I 235 6) < (I 236 2) → (I 235 6) < (I 235 7) from by first | omega | (simp only [wr, wl] at *; omega)) (show (I 235 6) ≤ (I 235 6) from by first | omega | (simp only [wr, wl] at *; omega)) (show 0 = 1 → (I 235 8) = 0 from by first | omega | (simp only [wr, wl] at *; omega)) (show 0 ≤ 0 ∧ 0 ≤ 1 from by first | omega | (simp only [wr, wl] at *; omega))⟩
  ·
    refine ⟨_, rfl, (by decide), ?_⟩
    have r9 : 0 ≤ (I 235 7) ∧ (I 235 7) ≤ 64 := Rg.f7 hR
    refine ⟨_, rfl, (by decide), ?_⟩
    have r10 : 0 ≤ (I 235 6) ∧ (I 235 6) ≤ 64 := Rg.f6 hR
    refine ⟨⟨12, (by decide), rfl⟩, ?_⟩
    refine Call_wp (lv := [some (vr 4118)]) (by decide) ckJ0_length_8abf5 [] rfl rfl ?_
    refine ⟨12, (by decide), rfl, ?_⟩
    refine Or.inr (Or.inr ⟨12, (by decide), rfl, ?_⟩)
    refine ⟨⟨12, (by decide), rfl⟩, ?_⟩
    refine Call_wp (lv := [some (vr 4118)]) (by decide) ckJ0_coder_7d493 [] rfl rfl ?_
    refine ⟨fun c => absurd c (show (¬ ((1 : Int) = 0)) from by decide), fun _ => ?_⟩
    refine ⟨12, (by decide), rfl, ?_⟩
    refine ⟨rfl, (by decide), ?_⟩
    refine ⟨rfl, ?_⟩
    have a11 : -2147483648 ≤ (I 235 7) ∧ (I 235 7) < 2147483648 := hA.1 _ _
    have a12 : -2147483648 ≤ (I 235 6) ∧ (I 235 6) < 2147483648 := hA.1 _ _
    have n13 : (wr ((I 235 7) - (I 235 6))) = (I 235 7) - (I 235 6) := wr_id (show -2147483648 ≤ ((I 235 7) - (I 235 6) : Int) ∧ ((I 235 7) - (I 235 6) : Int) < 2147483648 from by omega)
    refine ⟨fun (c14 : (¬ ((wr ((I 235 7) - (I 235 6))) : Int) = 4)) => ?_, fun (c14 : (((wr ((I 235 7) - (I 235 6))) : Int) = 4)) => ?_⟩
    ·
      refine ⟨fun _ => ?_, fun c => absurd (show ((0 : Int) = 0) from by decide) c⟩
      refine ⟨fun _ => ?_, fun c => absurd (show ((0 : Int) = 0) from by decide) c⟩
      have r15 : 0 ≤ (I 236 2) ∧ (I 236 2) ≤ 64 := Rg.n2 hR
      have a16 : -2147483648 ≤ (I 236 2) ∧ (I 236 2) < 2147483648 := hA.1 _ _
      exact ⟨rfl, (by decide), fun hv hA' => hQ _ _ hR hA' (hv _ rfl) (fun _ _ _ => rfl) (show 0 = 1 → (I 235 6) + 4 ≤ (I 235 6) from by first | omega | (simp only [wr, wl] at *; omega)) (show (I 235 6) ≤ (I 235 7) from by first | omega | (simp only [wr, wl] at *; omega)) (show (I 235 7) ≤ (I 236 2) from by first | omega | (simp only [wr, wl] at *; omega)) (show (I 235 6) < (I 236 2) → (I 235 6) < (I 235 7) from by first | omega | (simp only [wr, wl] at *; omega)) (show (I 235 6) ≤ (I 235 6) from by first | omega | (simp only [wr, wl] at *; omega)) (show 0 = 1 → (I 235 8) = 0 from by first | omega | (simp only [wr, wl] at *; omega)) (show 0 ≤ 0 ∧ 0 ≤ 1 from by first | omega | (simp only [wr, wl] at *; omega))⟩
    ·
      refine ⟨fun c => absurd c (show (¬ ((1 : Int) = 0)) from by decide), fun _ => ?_⟩
      refine ⟨⟨12, (by decide), rfl⟩, ?_⟩
      refine Call_wp (lv := [some (vr 4118)]) (by decide) ckJ0_length_8abf5 [] rfl rfl ?_
      refine ⟨12, (by decide), rfl, ?_⟩
      refine Or.inr (Or.inr ⟨12, (by decide), rfl, ?_⟩)
      refine ⟨⟨12, (by decide), rfl⟩, ?_⟩
      refine Call_wp (lv := [some (vr 4118)]) (by decide) ckJ0_coder_7d493 [] rfl rfl ?_
      refine ⟨fun c => absurd c (show (¬ ((1 : Int) = 0)) from by decide), fun _ => ?_⟩
      refine ⟨12, (by decide), rfl, ?_⟩
      refine ⟨rfl, (by decide), ?_⟩
      refine ⟨rfl, ?_⟩
      refine ⟨fun c => absurd c (show (¬ ((4 : Int) ≤ 0)) from by decide), fun _ => ?_⟩
      refine ⟨_, rfl, (by decide), ?_⟩
      refine fun w0 hw0 => ?_; obtain rfl : w0 = some 236 := hw0.symm.trans (FS.g hF rfl)
      refine ⟨_, rfl, (by decide), ?_⟩
      have n17 : (wr (1228 + (I 235 6))) = 1228 + (I 235 6) := wr_id (show -2147483648 ≤ (1228 + (I 235 6) : Int) ∧ (1228 + (I 235 6) : Int) < 2147483648 from by omega)
      have n18 : (wr ((wr (1228 + (I 235 6))) + 0)) = (wr (1228 + (I 235 6))) + 0 := wr_id (show -2147483648 ≤ ((wr (1228 + (I 235 6))) + 0 : Int) ∧ ((wr (1228 + (I 235 6))) + 0 : Int) < 2147483648 from by omega)
      refine ⟨_, rfl, (by decide), (show (0 : Int) ≤ (wr ((wr (1228 + (I 235 6))) + 0)) from by first | omega | (simp only [wr, wl] at *; omega)), (show (wr ((wr (1228 + (I 235 6))) + 0)) < (1340 : Int) from by first | omega | (simp only [wr, wl] at *; omega)), ?_⟩
      have r19 : 0 ≤ (I 236 (Int.toNat (wr ((wr (1228 + (I 235 6))) + 0)))) ∧ (I 236 (Int.toNat (wr ((wr (1228 + (I 235 6))) + 0)))) ≤ 255 := Pn_t (by omega) (hR.n (Int.toNat (wr ((wr (1228 + (I 235 6))) + 0))) (by omega))
      refine ⟨⟨12, (by decide), rfl⟩, ?_⟩
      refine Call_wp (lv := [some (vr 4118), some (vi 0)]) (by decide) ckJ0_charAt_5068e [] rfl rfl ?_
      refine ⟨⟨12, (by decide), rfl⟩, ?_⟩
      refine Call_wp (lv := [some (vr 4118)]) (by decide) ckJ0_isLatin1_aae02 [] rfl rfl ?_
      refine ⟨fun c => absurd c (show (¬ ((1 : Int) = 0)) from by decide), fun _ => ?_⟩
      refine ⟨12, (by decide), rfl, ?_⟩
      refine ⟨fun c => absurd (show ((0 : Int) = 0) from by decide) c, fun _ => ?_⟩
      refine ⟨rfl, (by decide), ?_⟩
      refine ⟨fun c => absurd c (show (¬ ((1 : Int) = 0)) from by decide), fun _ => ?_⟩
      refine ⟨12, (by decide), rfl, ?_⟩
      refine Call_wp (lv := [some (vr 4148), some (vi 0)]) (by decide) ckJ1_charAt_3b067 [] rfl rfl ?_
      refine Or.inr (Or.inr ⟨12, (by decide), rfl, ?_⟩)
      refine j_check (i := 0) (n := 4) (by omega) ?_
      refine ⟨12, (by decide), rfl, (by decide), (by decide), ?_⟩
      refine ⟨rfl, (by decide), ?_⟩
      refine ⟨rfl, (by decide), ?_⟩
      have a20 : -2147483648 ≤ (I 236 (Int.toNat (wr ((wr (1228 + (I 235 6))) + 0)))) ∧ (I 236 (Int.toNat (wr ((wr (1228 + (I 235 6))) + 0)))) < 2147483648 := hA.1 _ _
      refine ⟨fun (c21 : (¬ ((I 236 (Int.toNat (wr ((wr (1228 + (I 235 6))) + 0)))) : Int) = 98)) => ?_, fun (c21 : (((I 236 (Int.toNat (wr ((wr (1228 + (I 235 6))) + 0)))) : Int) = 98)) => ?_⟩
      ·
        refine ⟨fun _ => ?_, fun c => absurd (show ((0 : Int) = 0) from by decide) c⟩
        refine ⟨fun _ => ?_, fun c => absurd (show ((0 : Int) = 0) from by decide) c⟩
        have r22 : 0 ≤ (I 236 2) ∧ (I 236 2) ≤ 64 := Rg.n2 hR
        have a23 : -2147483648 ≤ (I 236 2) ∧ (I 236 2) < 2147483648 := hA.1 _ _
        exact ⟨rfl, (by decide), fun hv hA' => hQ _ _ hR hA' (hv _ rfl) (fun _ _ _ => rfl) (show 0 = 1 → (I 235 6) + 4 ≤ (I 235 6) from by first | omega | (simp only [wr, wl] at *; omega)) (show (I 235 6) ≤ (I 235 7) from by first | omega | (simp only [wr, wl] at *; omega)) (show (I 235 7) ≤ (I 236 2) from by first | omega | (simp only [wr, wl] at *; omega)) (show (I 235 6) < (I 236 2) → (I 235 6) < (I 235 7) from by first | omega | (simp only [wr, wl] at *; omega)) (show (I 235 6) ≤ (I 235 6) from by first | omega | (simp only [wr, wl] at *; omega)) (show 0 = 1 → (I 235 8) = 0 from by first | omega | (simp only [wr, wl] at *; omega)) (show 0 ≤ 0 ∧ 0 ≤ 1 from by first | omega | (simp only [wr, wl] at *; omega))⟩
      ·
        refine ⟨fun c => absurd c (show (¬ ((1 : Int) = 0)) from by decide), fun _ => ?_⟩
        refine ⟨⟨12, (by decide), rfl⟩, ?_⟩
        refine Call_wp (lv := [some (vr 4118)]) (by decide) ckJ0_length_8abf5 [] rfl rfl ?_
        refine ⟨12, (by decide), rfl, ?_⟩
        refine Or.inr (Or.inr ⟨12, (by decide), rfl, ?_⟩)
        refine ⟨⟨12, (by decide), rfl⟩, ?_⟩
        refine Call_wp (lv := [some (vr 4118)]) (by decide) ckJ0_coder_7d493 [] rfl rfl ?_
        refine ⟨fun c => absurd c (show (¬ ((1 : Int) = 0)) from by decide), fun _ => ?_⟩
        refine ⟨12, (by decide), rfl, ?_⟩
        refine ⟨rfl, (by decide), ?_⟩
        refine ⟨rfl, ?_⟩
        refine ⟨fun c => absurd c (show (¬ ((4 : Int) ≤ 1)) from by decide), fun _ => ?_⟩
        refine ⟨_, rfl, (by decide), ?_⟩
        refine fun w0 hw0 => ?_; obtain rfl : w0 = some 236 := hw0.symm.trans (FS.g hF rfl)
        refine ⟨_, rfl, (by decide), ?_⟩
        have n24 : (wr ((wr (1228 + (I 235 6))) + 1)) = (wr (1228 + (I 235 6))) + 1 := wr_id (show -2147483648 ≤ ((wr (1228 + (I 235 6))) + 1 : Int) ∧ ((wr (1228 + (I 235 6))) + 1 : Int) < 2147483648 from by omega)
        refine ⟨_, rfl, (by decide), (show (0 : Int) ≤ (wr ((wr (1228 + (I 235 6))) + 1)) from by first | omega | (simp only [wr, wl] at *; omega)), (show (wr ((wr (1228 + (I 235 6))) + 1)) < (1340 : Int) from by first | omega | (simp only [wr, wl] at *; omega)), ?_⟩
        refine ⟨⟨12, (by decide), rfl⟩, ?_⟩
        refine Call_wp (lv := [some (vr 4118), some (vi 1)]) (by decide) ckJ0_charAt_5068e [] rfl rfl ?_
        refine ⟨⟨12, (by decide), rfl⟩, ?_⟩
        refine Call_wp (lv := [some (vr 4118)]) (by decide) ckJ0_isLatin1_aae02 [] rfl rfl ?_
        refine ⟨fun c => absurd c (show (¬ ((1 : Int) = 0)) from by decide), fun _ => ?_⟩
        refine ⟨12, (by decide), rfl, ?_⟩
        refine ⟨fun c => absurd (show ((0 : Int) = 0) from by decide) c, fun _ => ?_⟩
        refine ⟨rfl, (by decide), ?_⟩
        refine ⟨fun c => absurd c (show (¬ ((1 : Int) = 0)) from by decide), fun _ => ?_⟩
        refine ⟨12, (by decide), rfl, ?_⟩
        refine Call_wp (lv := [some (vr 4148), some (vi 1)]) (by decide) ckJ1_charAt_3b067 [] rfl rfl ?_
        refine Or.inr (Or.inr ⟨12, (by decide), rfl, ?_⟩)
        refine j_check (i := 1) (n := 4) (by omega) ?_
        refine ⟨12, (by decide), rfl, (by decide), (by decide), ?_⟩
        refine ⟨rfl, (by decide), ?_⟩
        refine ⟨rfl, (by decide), ?_⟩
        have a25 : -2147483648 ≤ (I 236 (Int.toNat (wr ((wr (1228 + (I 235 6))) + 1)))) ∧ (I 236 (Int.toNat (wr ((wr (1228 + (I 235 6))) + 1)))) < 2147483648 := hA.1 _ _
        refine ⟨fun (c26 : (¬ ((I 236 (Int.toNat (wr ((wr (1228 + (I 235 6))) + 1)))) : Int) = 97)) => ?_, fun (c26 : (((I 236 (Int.toNat (wr ((wr (1228 + (I 235 6))) + 1)))) : Int) = 97)) => ?_⟩
        ·
          refine ⟨fun _ => ?_, fun c => absurd (show ((0 : Int) = 0) from by decide) c⟩
          refine ⟨fun _ => ?_, fun c => absurd (show ((0 : Int) = 0) from by decide) c⟩
          have r27 : 0 ≤ (I 236 2) ∧ (I 236 2) ≤ 64 := Rg.n2 hR
          have a28 : -2147483648 ≤ (I 236 2) ∧ (I 236 2) < 2147483648 := hA.1 _ _
          exact ⟨rfl, (by decide), fun hv hA' => hQ _ _ hR hA' (hv _ rfl) (fun _ _ _ => rfl) (show 0 = 1 → (I 235 6) + 4 ≤ (I 235 6) from by first | omega | (simp only [wr, wl] at *; omega)) (show (I 235 6) ≤ (I 235 7) from by first | omega | (simp only [wr, wl] at *; omega)) (show (I 235 7) ≤ (I 236 2) from by first | omega | (simp only [wr, wl] at *; omega)) (show (I 235 6) < (I 236 2) → (I 235 6) < (I 235 7) from by first | omega | (simp only [wr, wl] at *; omega)) (show (I 235 6) ≤ (I 235 6) from by first | omega | (simp only [wr, wl] at *; omega)) (show 0 = 1 → (I 235 8) = 0 from by first | omega | (simp only [wr, wl] at *; omega)) (show 0 ≤ 0 ∧ 0 ≤ 1 from by first | omega | (simp only [wr, wl] at *; omega))⟩
        ·
          refine ⟨fun c => absurd c (show (¬ ((1 : Int) = 0)) from by decide), fun _ => ?_⟩
          refine ⟨⟨12, (by decide), rfl⟩, ?_⟩
          refine Call_wp (lv := [some (vr 4118)]) (by decide) ckJ0_length_8abf5 [] rfl rfl ?_
          refine ⟨12, (by decide), rfl, ?_⟩
          refine Or.inr (Or.inr ⟨12, (by decide), rfl, ?_⟩)
          refine ⟨⟨12, (by decide), rfl⟩, ?_⟩
          refine Call_wp (lv := [some (vr 4118)]) (by decide) ckJ0_coder_7d493 [] rfl rfl ?_
          refine ⟨fun c => absurd c (show (¬ ((1 : Int) = 0)) from by decide), fun _ => ?_⟩
          refine ⟨12, (by decide), rfl, ?_⟩
          refine ⟨rfl, (by decide), ?_⟩
          refine ⟨rfl, ?_⟩
          refine ⟨fun c => absurd c (show (¬ ((4 : Int) ≤ 2)) from by decide), fun _ => ?_⟩
          refine ⟨_, rfl, (by decide), ?_⟩
          refine fun w0 hw0 => ?_; obtain rfl : w0 = some 236 := hw0.symm.trans (FS.g hF rfl)
          refine ⟨_, rfl, (by decide), ?_⟩
          have n29 : (wr ((wr (1228 + (I 235 6))) + 2)) = (wr (1228 + (I 235 6))) + 2 := wr_id (show -2147483648 ≤ ((wr (1228 + (I 235 6))) + 2 : Int) ∧ ((wr (1228 + (I 235 6))) + 2 : Int) < 2147483648 from by omega)
          refine ⟨_, rfl, (by decide), (show (0 : Int) ≤ (wr ((wr (1228 + (I 235 6))) + 2)) from by first | omega | (simp only [wr, wl] at *; omega)), (show (wr ((wr (1228 + (I 235 6))) + 2)) < (1340 : Int) from by first | omega | (simp only [wr, wl] at *; omega)), ?_⟩
          refine ⟨⟨12, (by decide), rfl⟩, ?_⟩
          refine Call_wp (lv := [some (vr 4118), some (vi 2)]) (by decide) ckJ0_charAt_5068e [] rfl rfl ?_
          refine ⟨⟨12, (by decide), rfl⟩, ?_⟩
          refine Call_wp (lv := [some (vr 4118)]) (by decide) ckJ0_isLatin1_aae02 [] rfl rfl ?_
          refine ⟨fun c => absurd c (show (¬ ((1 : Int) = 0)) from by decide), fun _ => ?_⟩
          refine ⟨12, (by decide), rfl, ?_⟩
          refine ⟨fun c => absurd (show ((0 : Int) = 0) from by decide) c, fun _ => ?_⟩
          refine ⟨rfl, (by decide), ?_⟩
          refine ⟨fun c => absurd c (show (¬ ((1 : Int) = 0)) from by decide), fun _ => ?_⟩
          refine ⟨12, (by decide), rfl, ?_⟩
          refine Call_wp (lv := [some (vr 4148), some (vi 2)]) (by decide) ckJ1_charAt_3b067 [] rfl rfl ?_
          refine Or.inr (Or.inr ⟨12, (by decide), rfl, ?_⟩)
          refine j_check (i := 2) (n := 4) (by omega) ?_
          refine ⟨12, (by decide), rfl, (by decide), (by decide), ?_⟩
          refine ⟨rfl, (by decide), ?_⟩
          refine ⟨rfl, (by decide), ?_⟩
          have a30 : -2147483648 ≤ (I 236 (Int.toNat (wr ((wr (1228 + (I 235 6))) + 2)))) ∧ (I 236 (Int.toNat (wr ((wr (1228 + (I 235 6))) + 2)))) < 2147483648 := hA.1 _ _
          refine ⟨fun (c31 : (¬ ((I 236 (Int.toNat (wr ((wr (1228 + (I 235 6))) + 2)))) : Int) = 99)) => ?_, fun (c31 : (((I 236 (Int.toNat (wr ((wr (1228 + (I 235 6))) + 2)))) : Int) = 99)) => ?_⟩
          ·
            refine ⟨fun _ => ?_, fun c => absurd (show ((0 : Int) = 0) from by decide) c⟩
            refine ⟨fun _ => ?_, fun c => absurd (show ((0 : Int) = 0) from by decide) c⟩
            have r32 : 0 ≤ (I 236 2) ∧ (I 236 2) ≤ 64 := Rg.n2 hR
            have a33 : -2147483648 ≤ (I 236 2) ∧ (I 236 2) < 2147483648 := hA.1 _ _
            exact ⟨rfl, (by decide), fun hv hA' => hQ _ _ hR hA' (hv _ rfl) (fun _ _ _ => rfl) (show 0 = 1 → (I 235 6) + 4 ≤ (I 235 6) from by first | omega | (simp only [wr, wl] at *; omega)) (show (I 235 6) ≤ (I 235 7) from by first | omega | (simp only [wr, wl] at *; omega)) (show (I 235 7) ≤ (I 236 2) from by first | omega | (simp only [wr, wl] at *; omega)) (show (I 235 6) < (I 236 2) → (I 235 6) < (I 235 7) from by first | omega | (simp only [wr, wl] at *; omega)) (show (I 235 6) ≤ (I 235 6) from by first | omega | (simp only [wr, wl] at *; omega)) (show 0 = 1 → (I 235 8) = 0 from by first | omega | (simp only [wr, wl] at *; omega)) (show 0 ≤ 0 ∧ 0 ≤ 1 from by first | omega | (simp only [wr, wl] at *; omega))⟩
          ·
            refine ⟨fun c => absurd c (show (¬ ((1 : Int) = 0)) from by decide), fun _ => ?_⟩
            refine ⟨⟨12, (by decide), rfl⟩, ?_⟩
            refine Call_wp (lv := [some (vr 4118)]) (by decide) ckJ0_length_8abf5 [] rfl rfl ?_
            refine ⟨12, (by decide), rfl, ?_⟩
            refine Or.inr (Or.inr ⟨12, (by decide), rfl, ?_⟩)
            refine ⟨⟨12, (by decide), rfl⟩, ?_⟩
            refine Call_wp (lv := [some (vr 4118)]) (by decide) ckJ0_coder_7d493 [] rfl rfl ?_
            refine ⟨fun c => absurd c (show (¬ ((1 : Int) = 0)) from by decide), fun _ => ?_⟩
            refine ⟨12, (by decide), rfl, ?_⟩
            refine ⟨rfl, (by decide), ?_⟩
            refine ⟨rfl, ?_⟩
            refine ⟨fun c => absurd c (show (¬ ((4 : Int) ≤ 3)) from by decide), fun _ => ?_⟩
            refine ⟨_, rfl, (by decide), ?_⟩
            refine fun w0 hw0 => ?_; obtain rfl : w0 = some 236 := hw0.symm.trans (FS.g hF rfl)
            refine ⟨_, rfl, (by decide), ?_⟩
            have n34 : (wr ((wr (1228 + (I 235 6))) + 3)) = (wr (1228 + (I 235 6))) + 3 := wr_id (show -2147483648 ≤ ((wr (1228 + (I 235 6))) + 3 : Int) ∧ ((wr (1228 + (I 235 6))) + 3 : Int) < 2147483648 from by omega)
            refine ⟨_, rfl, (by decide), (show (0 : Int) ≤ (wr ((wr (1228 + (I 235 6))) + 3)) from by first | omega | (simp only [wr, wl] at *; omega)), (show (wr ((wr (1228 + (I 235 6))) + 3)) < (1340 : Int) from by first | omega | (simp only [wr, wl] at *; omega)), ?_⟩
            refine ⟨⟨12, (by decide), rfl⟩, ?_⟩
            refine Call_wp (lv := [some (vr 4118), some (vi 3)]) (by decide) ckJ0_charAt_5068e [] rfl rfl ?_
            refine ⟨⟨12, (by decide), rfl⟩, ?_⟩
            refine Call_wp (lv := [some (vr 4118)]) (by decide) ckJ0_isLatin1_aae02 [] rfl rfl ?_
            refine ⟨fun c => absurd c (show (¬ ((1 : Int) = 0)) from by decide), fun _ => ?_⟩
            refine ⟨12, (by decide), rfl, ?_⟩
            refine ⟨fun c => absurd (show ((0 : Int) = 0) from by decide) c, fun _ => ?_⟩
            refine ⟨rfl, (by decide), ?_⟩
            refine ⟨fun c => absurd c (show (¬ ((1 : Int) = 0)) from by decide), fun _ => ?_⟩
            refine ⟨12, (by decide), rfl, ?_⟩
            refine Call_wp (lv := [some (vr 4148), some (vi 3)]) (by decide) ckJ1_charAt_3b067 [] rfl rfl ?_
            refine Or.inr (Or.inr ⟨12, (by decide), rfl, ?_⟩)
            refine j_check (i := 3) (n := 4) (by omega) ?_
            refine ⟨12, (by decide), rfl, (by decide), (by decide), ?_⟩
            refine ⟨rfl, (by decide), ?_⟩
            refine ⟨rfl, (by decide), ?_⟩
            have a35 : -2147483648 ≤ (I 236 (Int.toNat (wr ((wr (1228 + (I 235 6))) + 3)))) ∧ (I 236 (Int.toNat (wr ((wr (1228 + (I 235 6))) + 3)))) < 2147483648 := hA.1 _ _
            refine ⟨fun (c36 : (¬ ((I 236 (Int.toNat (wr ((wr (1228 + (I 235 6))) + 3)))) : Int) = 107)) => ?_, fun (c36 : (((I 236 (Int.toNat (wr ((wr (1228 + (I 235 6))) + 3)))) : Int) = 107)) => ?_⟩
            ·
              refine ⟨fun _ => ?_, fun c => absurd (show ((0 : Int) = 0) from by decide) c⟩
              refine ⟨fun _ => ?_, fun c => absurd (show ((0 : Int) = 0) from by decide) c⟩
              have r37 : 0 ≤ (I 236 2) ∧ (I 236 2) ≤ 64 := Rg.n2 hR
              have a38 : -2147483648 ≤ (I 236 2) ∧ (I 236 2) < 2147483648 := hA.1 _ _
              exact ⟨rfl, (by decide), fun hv hA' => hQ _ _ hR hA' (hv _ rfl) (fun _ _ _ => rfl) (show 0 = 1 → (I 235 6) + 4 ≤ (I 235 6) from by first | omega | (simp only [wr, wl] at *; omega)) (show (I 235 6) ≤ (I 235 7) from by first | omega | (simp only [wr, wl] at *; omega)) (show (I 235 7) ≤ (I 236 2) from by first | omega | (simp only [wr, wl] at *; omega)) (show (I 235 6) < (I 236 2) → (I 235 6) < (I 235 7) from by first | omega | (simp only [wr, wl] at *; omega)) (show (I 235 6) ≤ (I 235 6) from by first | omega | (simp only [wr, wl] at *; omega)) (show 0 = 1 → (I 235 8) = 0 from by first | omega | (simp only [wr, wl] at *; omega)) (show 0 ≤ 0 ∧ 0 ≤ 1 from by first | omega | (simp only [wr, wl] at *; omega))⟩
            ·
              refine ⟨fun c => absurd c (show (¬ ((1 : Int) = 0)) from by decide), fun _ => ?_⟩
              refine ⟨⟨12, (by decide), rfl⟩, ?_⟩
              refine Call_wp (lv := [some (vr 4118)]) (by decide) ckJ0_length_8abf5 [] rfl rfl ?_
              refine ⟨12, (by decide), rfl, ?_⟩
              refine Or.inr (Or.inr ⟨12, (by decide), rfl, ?_⟩)
              refine ⟨⟨12, (by decide), rfl⟩, ?_⟩
              refine Call_wp (lv := [some (vr 4118)]) (by decide) ckJ0_coder_7d493 [] rfl rfl ?_
              refine ⟨fun c => absurd c (show (¬ ((1 : Int) = 0)) from by decide), fun _ => ?_⟩
              refine ⟨12, (by decide), rfl, ?_⟩
              refine ⟨rfl, (by decide), ?_⟩
              refine ⟨rfl, ?_⟩
              refine ⟨fun _ => ?_, fun c => absurd (show ((4 : Int) ≤ 4) from by decide) c⟩
              refine ⟨fun c => absurd c (show (¬ ((1 : Int) = 0)) from by decide), fun _ => ?_⟩
              refine ⟨⟨_, rfl, (by decide)⟩, ?_⟩
              have r39 : 0 ≤ (I 236 2) ∧ (I 236 2) ≤ 64 := Rg.n2 hR
              have a40 : -2147483648 ≤ (I 236 2) ∧ (I 236 2) < 2147483648 := hA.1 _ _
              refine r_goOn  hF hR (show (I 235 7) ≤ (I 236 2) from by first | omega | (simp only [wr, wl] at *; omega)) (fun I41 hR42 hA43 hW44 q45 q46 q47 q48 => ?_)
              have q45 : (I 235 7) ≤ (I41 235 6) := q45
              have q46 : (I41 235 6) ≤ (I41 235 7) := q46
              have q47 : (I41 235 7) ≤ (I 236 2) := q47
              have q48 : (I41 235 6) < (I 236 2) → (I41 235 6) < (I41 235 7) := q48
              have r49 : 0 ≤ (I41 235 6) ∧ (I41 235 6) ≤ 64 := Rg.f6 hR42
              have a50 : -2147483648 ≤ (I41 235 6) ∧ (I41 235 6) < 2147483648 := hA43.1 _ _
              have r51 : 0 ≤ (I41 235 7) ∧ (I41 235 7) ≤ 64 := Rg.f7 hR42
              have a52 : -2147483648 ≤ (I41 235 7) ∧ (I41 235 7) < 2147483648 := hA43.1 _ _
              exact ⟨rfl, (by decide), fun hv hA' => hQ _ _ hR42 hA' (hv _ rfl) (fun ka ja hk => (hW44 ka ja (by omega))) (show 1 = 1 → (I 235 6) + 4 ≤ (I41 235 6) from by first | omega | (simp only [wr, wl] at *; omega)) (show (I41 235 6) ≤ (I41 235 7) from by first | omega | (simp only [wr, wl] at *; omega)) (show (I41 235 7) ≤ (I 236 2) from by first | omega | (simp only [wr, wl] at *; omega)) (show (I41 235 6) < (I 236 2) → (I41 235 6) < (I41 235 7) from by first | omega | (simp only [wr, wl] at *; omega)) (show (I 235 6) ≤ (I41 235 6) from by first | omega | (simp only [wr, wl] at *; omega)) (show 1 = 1 → (I 235 8) = 0 from by first | omega | (simp only [wr, wl] at *; omega)) (show 0 ≤ 1 ∧ 1 ≤ 1 from by first | omega | (simp only [wr, wl] at *; omega))⟩
theorem r_takes_13 (hF : FS F) (hR : Rg I) (h1 : I 235 6 ≤ I 235 7) (h2 : I 235 7 ≤ I 236 2) (h3 : I 235 6 < I 236 2 → I 235 6 < I 235 7) (hQ : ∀ (r : Int) (I' : pI), Rg I' → AR I' → iR r → (∀ k j, ¬ ((k = 235 ∧ (j = 6 ∨ j = 7))) → I' k j = I k j) → (r = 1 → (I 235 6) + 4 ≤ (I' 235 6)) → ((I' 235 6) ≤ (I' 235 7)) → ((I' 235 7) ≤ (I 236 2)) → ((I' 235 6) < (I 236 2) → (I' 235 6) < (I' 235 7)) → ((I 235 6) ≤ (I' 235 6)) → (r = 1 → (I 235 8) = 0) → (0 ≤ r ∧ r ≤ 1) → Q (some (vi r)) F I') : CallN G (d + 4) kX12_takes [vr 235, vr 4119] NP F I Q := by
  refine CallN_in (fun hok hA => CallN_out ?_)
  have g2 := Rg.n2 hR
  refine Call_wp (lv := [some (vr 235), some (vr 4119), none, none]) (by decide) ckX12_takes [] rfl rfl ?_
  refine ⟨_, rfl, (by decide), ?_⟩
  have a1 : -2147483648 ≤ (I 235 8) ∧ (I 235 8) < 2147483648 := hA.1 _ _
  refine ⟨fun (c2 : (¬ ((I 235 8) : Int) = 0)) => ?_, fun (c2 : (((I 235 8) : Int) = 0)) => ?_⟩
  ·
    refine ⟨fun _ => ?_, fun c => absurd (show ((0 : Int) = 0) from by decide) c⟩
    refine ⟨fun _ => ?_, fun c => absurd (show ((0 : Int) = 0) from by decide) c⟩
    have r3 : 0 ≤ (I 235 6) ∧ (I 235 6) ≤ 64 := Rg.f6 hR
    have a4 : -2147483648 ≤ (I 235 6) ∧ (I 235 6) < 2147483648 := hA.1 _ _
    have r5 : 0 ≤ (I 235 7) ∧ (I 235 7) ≤ 64 := Rg.f7 hR
    have a6 : -2147483648 ≤ (I 235 7) ∧ (I 235 7) < 2147483648 := hA.1 _ _
    have r7 : 0 ≤ (I 236 2) ∧ (I 236 2) ≤ 64 := Rg.n2 hR
    have a8 : -2147483648 ≤ (I 236 2) ∧ (I 236 2) < 2147483648 := hA.1 _ _
    exact ⟨rfl, (by decide), fun hv hA' => hQ _ _ hR hA' (hv _ rfl) (fun _ _ _ => rfl) (show 0 = 1 → (I 235 6) + 4 ≤ (I 235 6) from by first | omega | (simp only [wr, wl] at *; omega)) (show (I 235 6) ≤ (I 235 7) from by first | omega | (simp only [wr, wl] at *; omega)) (show (I 235 7) ≤ (I 236 2) from by first | omega | (simp only [wr, wl] at *; omega)) (show (I 235 6) < (I 236 2) → (I 235 6) < (I 235 7) from by first | omega | (simp only [wr, wl] at *; omega)) (show (I 235 6) ≤ (I 235 6) from by first | omega | (simp only [wr, wl] at *; omega)) (show 0 = 1 → (I 235 8) = 0 from by first | omega | (simp only [wr, wl] at *; omega)) (show 0 ≤ 0 ∧ 0 ≤ 1 from by first | omega | (simp only [wr, wl] at *; omega))⟩
  ·
    refine ⟨_, rfl, (by decide), ?_⟩
    have r9 : 0 ≤ (I 235 7) ∧ (I 235 7) ≤ 64 := Rg.f7 hR
    refine ⟨_, rfl, (by decide), ?_⟩
    have r10 : 0 ≤ (I 235 6) ∧ (I 235 6) ≤ 64 := Rg.f6 hR
    refine ⟨⟨13, (by decide), rfl⟩, ?_⟩
    refine Call_wp (lv := [some (vr 4119)]) (by decide) ckJ0_length_8abf5 [] rfl rfl ?_
    refine ⟨13, (by decide), rfl, ?_⟩
    refine Or.inr (Or.inr ⟨13, (by decide), rfl, ?_⟩)
    refine ⟨⟨13, (by decide), rfl⟩, ?_⟩
    refine Call_wp (lv := [some (vr 4119)]) (by decide) ckJ0_coder_7d493 [] rfl rfl ?_
    refine ⟨fun c => absurd c (show (¬ ((1 : Int) = 0)) from by decide), fun _ => ?_⟩
    refine ⟨13, (by decide), rfl, ?_⟩
    refine ⟨rfl, (by decide), ?_⟩
    refine ⟨rfl, ?_⟩
    have a11 : -2147483648 ≤ (I 235 7) ∧ (I 235 7) < 2147483648 := hA.1 _ _
    have a12 : -2147483648 ≤ (I 235 6) ∧ (I 235 6) < 2147483648 := hA.1 _ _
    have n13 : (wr ((I 235 7) - (I 235 6))) = (I 235 7) - (I 235 6) := wr_id (show -2147483648 ≤ ((I 235 7) - (I 235 6) : Int) ∧ ((I 235 7) - (I 235 6) : Int) < 2147483648 from by omega)
    refine ⟨fun (c14 : (¬ ((wr ((I 235 7) - (I 235 6))) : Int) = 4)) => ?_, fun (c14 : (((wr ((I 235 7) - (I 235 6))) : Int) = 4)) => ?_⟩
    ·
      refine ⟨fun _ => ?_, fun c => absurd (show ((0 : Int) = 0) from by decide) c⟩
      refine ⟨fun _ => ?_, fun c => absurd (show ((0 : Int) = 0) from by decide) c⟩
      have r15 : 0 ≤ (I 236 2) ∧ (I 236 2) ≤ 64 := Rg.n2 hR
      have a16 : -2147483648 ≤ (I 236 2) ∧ (I 236 2) < 2147483648 := hA.1 _ _
      exact ⟨rfl, (by decide), fun hv hA' => hQ _ _ hR hA' (hv _ rfl) (fun _ _ _ => rfl) (show 0 = 1 → (I 235 6) + 4 ≤ (I 235 6) from by first | omega | (simp only [wr, wl] at *; omega)) (show (I 235 6) ≤ (I 235 7) from by first | omega | (simp only [wr, wl] at *; omega)) (show (I 235 7) ≤ (I 236 2) from by first | omega | (simp only [wr, wl] at *; omega)) (show (I 235 6) < (I 236 2) → (I 235 6) < (I 235 7) from by first | omega | (simp only [wr, wl] at *; omega)) (show (I 235 6) ≤ (I 235 6) from by first | omega | (simp only [wr, wl] at *; omega)) (show 0 = 1 → (I 235 8) = 0 from by first | omega | (simp only [wr, wl] at *; omega)) (show 0 ≤ 0 ∧ 0 ≤ 1 from by first | omega | (simp only [wr, wl] at *; omega))⟩
    ·
      refine ⟨fun c => absurd c (show (¬ ((1 : Int) = 0)) from by decide), fun _ => ?_⟩
      refine ⟨⟨13, (by decide), rfl⟩, ?_⟩
      refine Call_wp (lv := [some (vr 4119)]) (by decide) ckJ0_length_8abf5 [] rfl rfl ?_
      refine ⟨13, (by decide), rfl, ?_⟩
      refine Or.inr (Or.inr ⟨13, (by decide), rfl, ?_⟩)
      refine ⟨⟨13, (by decide), rfl⟩, ?_⟩
      refine Call_wp (lv := [some (vr 4119)]) (by decide) ckJ0_coder_7d493 [] rfl rfl ?_
      refine ⟨fun c => absurd c (show (¬ ((1 : Int) = 0)) from by decide), fun _ => ?_⟩
      refine ⟨13, (by decide), rfl, ?_⟩
      refine ⟨rfl, (by decide), ?_⟩
      refine ⟨rfl, ?_⟩
      refine ⟨fun c => absurd c (show (¬ ((4 : Int) ≤ 0)) from by decide), fun _ => ?_⟩
      refine ⟨_, rfl, (by decide), ?_⟩
      refine fun w0 hw0 => ?_; obtain rfl : w0 = some 236 := hw0.symm.trans (FS.g hF rfl)
      refine ⟨_, rfl, (by decide), ?_⟩
      have n17 : (wr (1228 + (I 235 6))) = 1228 + (I 235 6) := wr_id (show -2147483648 ≤ (1228 + (I 235 6) : Int) ∧ (1228 + (I 235 6) : Int) < 2147483648 from by omega)
      have n18 : (wr ((wr (1228 + (I 235 6))) + 0)) = (wr (1228 + (I 235 6))) + 0 := wr_id (show -2147483648 ≤ ((wr (1228 + (I 235 6))) + 0 : Int) ∧ ((wr (1228 + (I 235 6))) + 0 : Int) < 2147483648 from by omega)
      refine ⟨_, rfl, (by decide), (show (0 : Int) ≤ (wr ((wr (1228 + (I 235 6))) + 0)) from by first | omega | (simp only [wr, wl] at *; omega)), (show (wr ((wr (1228 + (I 235 6))) + 0)) < (1340 : Int) from by first | omega | (simp only [wr, wl] at *; omega)), ?_⟩
      have r19 : 0 ≤ (I 236 (Int.toNat (wr ((wr (1228 + (I 235 6))) + 0)))) ∧ (I 236 (Int.toNat (wr ((wr (1228 + (I 235 6))) + 0)))) ≤ 255 := Pn_t (by omega) (hR.n (Int.toNat (wr ((wr (1228 + (I 235 6))) + 0))) (by omega))
      refine ⟨⟨13, (by decide), rfl⟩, ?_⟩
      refine Call_wp (lv := [some (vr 4119), some (vi 0)]) (by decide) ckJ0_charAt_5068e [] rfl rfl ?_
      refine ⟨⟨13, (by decide), rfl⟩, ?_⟩
      refine Call_wp (lv := [some (vr 4119)]) (by decide) ckJ0_isLatin1_aae02 [] rfl rfl ?_
      refine ⟨fun c => absurd c (show (¬ ((1 : Int) = 0)) from by decide), fun _ => ?_⟩
      refine ⟨13, (by decide), rfl, ?_⟩
      refine ⟨fun c => absurd (show ((0 : Int) = 0) from by decide) c, fun _ => ?_⟩
      refine ⟨rfl, (by decide), ?_⟩
      refine ⟨fun c => absurd c (show (¬ ((1 : Int) = 0)) from by decide), fun _ => ?_⟩
      refine ⟨13, (by decide), rfl, ?_⟩
      refine Call_wp (lv := [some (vr 4149), some (vi 0)]) (by decide) ckJ1_charAt_3b067 [] rfl rfl ?_
      refine Or.inr (Or.inr ⟨13, (by decide), rfl, ?_⟩)
      refine j_check (i := 0) (n := 4) (by omega) ?_
      refine ⟨13, (by decide), rfl, (by decide), (by decide), ?_⟩
      refine ⟨rfl, (by decide), ?_⟩
      refine ⟨rfl, (by decide), ?_⟩
      have a20 : -2147483648 ≤ (I 236 (Int.toNat (wr ((wr (1228 + (I 235 6))) + 0)))) ∧ (I 236 (Int.toNat (wr ((wr (1228 + (I 235 6))) + 0)))) < 2147483648 := hA.1 _ _
      refine ⟨fun (c21 : (¬ ((I 236 (Int.toNat (wr ((wr (1228 + (I 235 6))) + 0)))) : Int) = 114)) => ?_, fun (c21 : (((I 236 (Int.toNat (wr ((wr (1228 + (I 235 6))) + 0)))) : Int) = 114)) => ?_⟩
      ·
        refine ⟨fun _ => ?_, fun c => absurd (show ((0 : Int) = 0) from by decide) c⟩
        refine ⟨fun _ => ?_, fun c => absurd (show ((0 : Int) = 0) from by decide) c⟩
        have r22 : 0 ≤ (I 236 2) ∧ (I 236 2) ≤ 64 := Rg.n2 hR
        have a23 : -2147483648 ≤ (I 236 2) ∧ (I 236 2) < 2147483648 := hA.1 _ _
        exact ⟨rfl, (by decide), fun hv hA' => hQ _ _ hR hA' (hv _ rfl) (fun _ _ _ => rfl) (show 0 = 1 → (I 235 6) + 4 ≤ (I 235 6) from by first | omega | (simp only [wr, wl] at *; omega)) (show (I 235 6) ≤ (I 235 7) from by first | omega | (simp only [wr, wl] at *; omega)) (show (I 235 7) ≤ (I 236 2) from by first | omega | (simp only [wr, wl] at *; omega)) (show (I 235 6) < (I 236 2) → (I 235 6) < (I 235 7) from by first | omega | (simp only [wr, wl] at *; omega)) (show (I 235 6) ≤ (I 235 6) from by first | omega | (simp only [wr, wl] at *; omega)) (show 0 = 1 → (I 235 8) = 0 from by first | omega | (simp only [wr, wl] at *; omega)) (show 0 ≤ 0 ∧ 0 ≤ 1 from by first | omega | (simp only [wr, wl] at *; omega))⟩
      ·
        refine ⟨fun c => absurd c (show (¬ ((1 : Int) = 0)) from by decide), fun _ => ?_⟩
        refine ⟨⟨13, (by decide), rfl⟩, ?_⟩
        refine Call_wp (lv := [some (vr 4119)]) (by decide) ckJ0_length_8abf5 [] rfl rfl ?_
        refine ⟨13, (by decide), rfl, ?_⟩
        refine Or.inr (Or.inr ⟨13, (by decide), rfl, ?_⟩)
        refine ⟨⟨13, (by decide), rfl⟩, ?_⟩
        refine Call_wp (lv := [some (vr 4119)]) (by decide) ckJ0_coder_7d493 [] rfl rfl ?_
        refine ⟨fun c => absurd c (show (¬ ((1 : Int) = 0)) from by decide), fun _ => ?_⟩
        refine ⟨13, (by decide), rfl, ?_⟩
        refine ⟨rfl, (by decide), ?_⟩
        refine ⟨rfl, ?_⟩
        refine ⟨fun c => absurd c (show (¬ ((4 : Int) ≤ 1)) from by decide), fun _ => ?_⟩
        refine ⟨_, rfl, (by decide), ?_⟩
        refine fun w0 hw0 => ?_; obtain rfl : w0 = some 236 := hw0.symm.trans (FS.g hF rfl)
        refine ⟨_, rfl, (by decide), ?_⟩
        have n24 : (wr ((wr (1228 + (I 235 6))) + 1)) = (wr (1228 + (I 235 6))) + 1 := wr_id (show -2147483648 ≤ ((wr (1228 + (I 235 6))) + 1 : Int) ∧ ((wr (1228 + (I 235 6))) + 1 : Int) < 2147483648 from by omega)
        refine ⟨_, rfl, (by decide), (show (0 : Int) ≤ (wr ((wr (1228 + (I 235 6))) + 1)) from by first | omega | (simp only [wr, wl] at *; omega)), (show (wr ((wr (1228 + (I 235 6))) + 1)) < (1340 : Int) from by first | omega | (simp only [wr, wl] at *; omega)), ?_⟩
        refine ⟨⟨13, (by decide), rfl⟩, ?_⟩
        refine Call_wp (lv := [some (vr 4119), some (vi 1)]) (by decide) ckJ0_charAt_5068e [] rfl rfl ?_
        refine ⟨⟨13, (by decide), rfl⟩, ?_⟩
        refine Call_wp (lv := [some (vr 4119)]) (by decide) ckJ0_isLatin1_aae02 [] rfl rfl ?_
        refine ⟨fun c => absurd c (show (¬ ((1 : Int) = 0)) from by decide), fun _ => ?_⟩
        refine ⟨13, (by decide), rfl, ?_⟩
        refine ⟨fun c => absurd (show ((0 : Int) = 0) from by decide) c, fun _ => ?_⟩
        refine ⟨rfl, (by decide), ?_⟩
        refine ⟨fun c => absurd c (show (¬ ((1 : Int) = 0)) from by decide), fun _ => ?_⟩
        refine ⟨13, (by decide), rfl, ?_⟩
        refine Call_wp (lv := [some (vr 4149), some (vi 1)]) (by decide) ckJ1_charAt_3b067 [] rfl rfl ?_
        refine Or.inr (Or.inr ⟨13, (by decide), rfl, ?_⟩)
        refine j_check (i := 1) (n := 4) (by omega) ?_
        refine ⟨13, (by decide), rfl, (by decide), (by decide), ?_⟩
        refine ⟨rfl, (by decide), ?_⟩
        refine ⟨rfl, (by decide), ?_⟩
        have a25 : -2147483648 ≤ (I 236 (Int.toNat (wr ((wr (1228 + (I 235 6))) + 1)))) ∧ (I 236 (Int.toNat (wr ((wr (1228 + (I 235 6))) + 1)))) < 2147483648 := hA.1 _ _
        refine ⟨fun (c26 : (¬ ((I 236 (Int.toNat (wr ((wr (1228 + (I 235 6))) + 1)))) : Int) = 101)) => ?_, fun (c26 : (((I 236 (Int.toNat (wr ((wr (1228 + (I 235 6))) + 1)))) : Int) = 101)) => ?_⟩
        ·
          refine ⟨fun _ => ?_, fun c => absurd (show ((0 : Int) = 0) from by decide) c⟩
          refine ⟨fun _ => ?_, fun c => absurd (show ((0 : Int) = 0) from by decide) c⟩
          have r27 : 0 ≤ (I 236 2) ∧ (I 236 2) ≤ 64 := Rg.n2 hR
          have a28 : -2147483648 ≤ (I 236 2) ∧ (I 236 2) < 2147483648 := hA.1 _ _
          exact ⟨rfl, (by decide), fun hv hA' => hQ _ _ hR hA' (hv _ rfl) (fun _ _ _ => rfl) (show 0 = 1 → (I 235 6) + 4 ≤ (I 235 6) from by first | omega | (simp only [wr, wl] at *; omega)) (show (I 235 6) ≤ (I 235 7) from by first | omega | (simp only [wr, wl] at *; omega)) (show (I 235 7) ≤ (I 236 2) from by first | omega | (simp only [wr, wl] at *; omega)) (show (I 235 6) < (I 236 2) → (I 235 6) < (I 235 7) from by first | omega | (simp only [wr, wl] at *; omega)) (show (I 235 6) ≤ (I 235 6) from by first | omega | (simp only [wr, wl] at *; omega)) (show 0 = 1 → (I 235 8) = 0 from by first | omega | (simp only [wr, wl] at *; omega)) (show 0 ≤ 0 ∧ 0 ≤ 1 from by first | omega | (simp only [wr, wl] at *; omega))⟩
        ·
          refine ⟨fun c => absurd c (show (¬ ((1 : Int) = 0)) from by decide), fun _ => ?_⟩
          refine ⟨⟨13, (by decide), rfl⟩, ?_⟩
          refine Call_wp (lv := [some (vr 4119)]) (by decide) ckJ0_length_8abf5 [] rfl rfl ?_
          refine ⟨13, (by decide), rfl, ?_⟩
          refine Or.inr (Or.inr ⟨13, (by decide), rfl, ?_⟩)
          refine ⟨⟨13, (by decide), rfl⟩, ?_⟩
          refine Call_wp (lv := [some (vr 4119)]) (by decide) ckJ0_coder_7d493 [] rfl rfl ?_
          refine ⟨fun c => absurd c (show (¬ ((1 : Int) = 0)) from by decide), fun _ => ?_⟩
          refine ⟨13, (by decide), rfl, ?_⟩
          refine ⟨rfl, (by decide), ?_⟩
          refine ⟨rfl, ?_⟩
          refine ⟨fun c => absurd c (show (¬ ((4 : Int) ≤ 2)) from by decide), fun _ => ?_⟩
          refine ⟨_, rfl, (by decide), ?_⟩
          refine fun w0 hw0 => ?_; obtain rfl : w0 = some 236 := hw0.symm.trans (FS.g hF rfl)
          refine ⟨_, rfl, (by decide), ?_⟩
          have n29 : (wr ((wr (1228 + (I 235 6))) + 2)) = (wr (1228 + (I 235 6))) + 2 := wr_id (show -2147483648 ≤ ((wr (1228 + (I 235 6))) + 2 : Int) ∧ ((wr (1228 + (I 235 6))) + 2 : Int) < 2147483648 from by omega)
          refine ⟨_, rfl, (by decide), (show (0 : Int) ≤ (wr ((wr (1228 + (I 235 6))) + 2)) from by first | omega | (simp only [wr, wl] at *; omega)), (show (wr ((wr (1228 + (I 235 6))) + 2)) < (1340 : Int) from by first | omega | (simp only [wr, wl] at *; omega)), ?_⟩
          refine ⟨⟨13, (by decide), rfl⟩, ?_⟩
          refine Call_wp (lv := [some (vr 4119), some (vi 2)]) (by decide) ckJ0_charAt_5068e [] rfl rfl ?_
          refine ⟨⟨13, (by decide), rfl⟩, ?_⟩
          refine Call_wp (lv := [some (vr 4119)]) (by decide) ckJ0_isLatin1_aae02 [] rfl rfl ?_
          refine ⟨fun c => absurd c (show (¬ ((1 : Int) = 0)) from by decide), fun _ => ?_⟩
          refine ⟨13, (by decide), rfl, ?_⟩
          refine ⟨fun c => absurd (show ((0 : Int) = 0) from by decide) c, fun _ => ?_⟩
          refine ⟨rfl, (by decide), ?_⟩
          refine ⟨fun c => absurd c (show (¬ ((1 : Int) = 0)) from by decide), fun _ => ?_⟩
          refine ⟨13, (by decide), rfl, ?_⟩
          refine Call_wp (lv := [some (vr 4149), some (vi 2)]) (by decide) ckJ1_charAt_3b067 [] rfl rfl ?_
          refine Or.inr (Or.inr ⟨13, (by decide), rfl, ?_⟩)
          refine j_check (i := 2) (n := 4) (by omega) ?_
          refine ⟨13, (by decide), rfl, (by decide), (by decide), ?_⟩
          refine ⟨rfl, (by decide), ?_⟩
          refine ⟨rfl, (by decide), ?_⟩
          have a30 : -2147483648 ≤ (I 236 (Int.toNat (wr ((wr (1228 + (I 235 6))) + 2)))) ∧ (I 236 (Int.toNat (wr ((wr (1228 + (I 235 6))) + 2)))) < 2147483648 := hA.1 _ _
          refine ⟨fun (c31 : (¬ ((I 236 (Int.toNat (wr ((wr (1228 + (I 235 6))) + 2)))) : Int) = 97)) => ?_, fun (c31 : (((I 236 (Int.toNat (wr ((wr (1228 + (I 235 6))) + 2)))) : Int) = 97)) => ?_⟩
          ·
            refine ⟨fun _ => ?_, fun c => absurd (show ((0 : Int) = 0) from by decide) c⟩
            refine ⟨fun _ => ?_, fun c => absurd (show ((0 : Int) = 0) from by decide) c⟩
            have r32 : 0 ≤ (I 236 2) ∧ (I 236 2) ≤ 64 := Rg.n2 hR
            have a33 : -2147483648 ≤ (I 236 2) ∧ (I 236 2) < 2147483648 := hA.1 _ _
            exact ⟨rfl, (by decide), fun hv hA' => hQ _ _ hR hA' (hv _ rfl) (fun _ _ _ => rfl) (show 0 = 1 → (I 235 6) + 4 ≤ (I 235 6) from by first | omega | (simp only [wr, wl] at *; omega)) (show (I 235 6) ≤ (I 235 7) from by first | omega | (simp only [wr, wl] at *; omega)) (show (I 235 7) ≤ (I 236 2) from by first | omega | (simp only [wr, wl] at *; omega)) (show (I 235 6) < (I 236 2) → (I 235 6) < (I 235 7) from by first | omega | (simp only [wr, wl] at *; omega)) (show (I 235 6) ≤ (I 235 6) from by first | omega | (simp only [wr, wl] at *; omega)) (show 0 = 1 → (I 235 8) = 0 from by first | omega | (simp only [wr, wl] at *; omega)) (show 0 ≤ 0 ∧ 0 ≤ 1 from by first | omega | (simp only [wr, wl] at *; omega))⟩
          ·
            refine ⟨fun c => absurd c (show (¬ ((1 : Int) = 0)) from by decide), fun _ => ?_⟩
            refine ⟨⟨13, (by decide), rfl⟩, ?_⟩
            refine Call_wp (lv := [some (vr 4119)]) (by decide) ckJ0_length_8abf5 [] rfl rfl ?_
            refine ⟨13, (by decide), rfl, ?_⟩
            refine Or.inr (Or.inr ⟨13, (by decide), rfl, ?_⟩)
            refine ⟨⟨13, (by decide), rfl⟩, ?_⟩
            refine Call_wp (lv := [some (vr 4119)]) (by decide) ckJ0_coder_7d493 [] rfl rfl ?_
            refine ⟨fun c => absurd c (show (¬ ((1 : Int) = 0)) from by decide), fun _ => ?_⟩
            refine ⟨13, (by decide), rfl, ?_⟩
            refine ⟨rfl, (by decide), ?_⟩
            refine ⟨rfl, ?_⟩
            refine ⟨fun c => absurd c (show (¬ ((4 : Int) ≤ 3)) from by decide), fun _ => ?_⟩
            refine ⟨_, rfl, (by decide), ?_⟩
            refine fun w0 hw0 => ?_; obtain rfl : w0 = some 236 := hw0.symm.trans (FS.g hF rfl)
            refine ⟨_, rfl, (by decide), ?_⟩
            have n34 : (wr ((wr (1228 + (I 235 6))) + 3)) = (wr (1228 + (I 235 6))) + 3 := wr_id (show -2147483648 ≤ ((wr (1228 + (I 235 6))) + 3 : Int) ∧ ((wr (1228 + (I 235 6))) + 3 : Int) < 2147483648 from by omega)
            refine ⟨_, rfl, (by decide), (show (0 : Int) ≤ (wr ((wr (1228 + (I 235 6))) + 3)) from by first | omega | (simp only [wr, wl] at *; omega)), (show (wr ((wr (1228 + (I 235 6))) + 3)) < (1340 : Int) from by first | omega | (simp only [wr, wl] at *; omega)), ?_⟩
            refine ⟨⟨13, (by decide), rfl⟩, ?_⟩
            refine Call_wp (lv := [some (vr 4119), some (vi 3)]) (by decide) ckJ0_charAt_5068e [] rfl rfl ?_
            refine ⟨⟨13, (by decide), rfl⟩, ?_⟩
            refine Call_wp (lv := [some (vr 4119)]) (by decide) ckJ0_isLatin1_aae02 [] rfl rfl ?_
            refine ⟨fun c => absurd c (show (¬ ((1 : Int) = 0)) from by decide), fun _ => ?_⟩
            refine ⟨13, (by decide), rfl, ?_⟩
            refine ⟨fun c => absurd (show ((0 : Int) = 0) from by decide) c, fun _ => ?_⟩
            refine ⟨rfl, (by decide), ?_⟩
            refine ⟨fun c => absurd c (show (¬ ((1 : Int) = 0)) from by decide), fun _ => ?_⟩
            refine ⟨13, (by decide), rfl, ?_⟩
            refine Call_wp (lv := [some (vr 4149), some (vi 3)]) (by decide) ckJ1_charAt_3b067 [] rfl rfl ?_
            refine Or.inr (Or.inr ⟨13, (by decide), rfl, ?_⟩)
            refine j_check (i := 3) (n := 4) (by omega) ?_
            refine ⟨13, (by decide), rfl, (by decide), (by decide), ?_⟩
            refine ⟨rfl, (by decide), ?_⟩
            refine ⟨rfl, (by decide), ?_⟩
            have a35 : -2147483648 ≤ (I 236 (Int.toNat (wr ((wr (1228 + (I 235 6))) + 3)))) ∧ (I 236 (Int.toNat (wr ((wr (1228 + (I 235 6))) + 3)))) < 2147483648 := hA.1 _ _
            refine ⟨fun (c36 : (¬ ((I 236 (Int.toNat (wr ((wr (1228 + (I 235 6))) + 3)))) : Int) = 100)) => ?_, fun (c36 : (((I 236 (Int.toNat (wr ((wr (1228 + (I 235 6))) + 3)))) : Int) = 100)) => ?_⟩
            ·
              refine ⟨fun _ => ?_, fun c => absurd (show ((0 : Int) = 0) from by decide) c⟩
              refine ⟨fun _ => ?_, fun c => absurd (show ((0 : Int) = 0) from by decide) c⟩
              have r37 : 0 ≤ (I 236 2) ∧ (I 236 2) ≤ 64 := Rg.n2 hR
              have a38 : -2147483648 ≤ (I 236 2) ∧ (I 236 2) < 2147483648 := hA.1 _ _
              exact ⟨rfl, (by decide), fun hv hA' => hQ _ _ hR hA' (hv _ rfl) (fun _ _ _ => rfl) (show 0 = 1 → (I 235 6) + 4 ≤ (I 235 6) from by first | omega | (simp only [wr, wl] at *; omega)) (show (I 235 6) ≤ (I 235 7) from by first | omega | (simp only [wr, wl] at *; omega)) (show (I 235 7) ≤ (I 236 2) from by first | omega | (simp only [wr, wl] at *; omega)) (show (I 235 6) < (I 236 2) → (I 235 6) < (I 235 7) from by first | omega | (simp only [wr, wl] at *; omega)) (show (I 235 6) ≤ (I 235 6) from by first | omega | (simp only [wr, wl] at *; omega)) (show 0 = 1 → (I 235 8) = 0 from by first | omega | (simp only [wr, wl] at *; omega)) (show 0 ≤ 0 ∧ 0 ≤ 1 from by first | omega | (simp only [wr, wl] at *; omega))⟩
            ·
              refine ⟨fun c => absurd c (show (¬ ((1 : Int) = 0)) from by decide), fun _ => ?_⟩
              refine ⟨⟨13, (by decide), rfl⟩, ?_⟩
              refine Call_wp (lv := [some (vr 4119)]) (by decide) ckJ0_length_8abf5 [] rfl rfl ?_
              refine ⟨13, (by decide), rfl, ?_⟩
              refine Or.inr (Or.inr ⟨13, (by decide), rfl, ?_⟩)
              refine ⟨⟨13, (by decide), rfl⟩, ?_⟩
              refine Call_wp (lv := [some (vr 4119)]) (by decide) ckJ0_coder_7d493 [] rfl rfl ?_
              refine ⟨fun c => absurd c (show (¬ ((1 : Int) = 0)) from by decide), fun _ => ?_⟩
              refine ⟨13, (by decide), rfl, ?_⟩
              refine ⟨rfl, (by decide), ?_⟩
              refine ⟨rfl, ?_⟩
              refine ⟨fun _ => ?_, fun c => absurd (show ((4 : Int) ≤ 4) from by decide) c⟩
              refine ⟨fun c => absurd c (show (¬ ((1 : Int) = 0)) from by decide), fun _ => ?_⟩
              refine ⟨⟨_, rfl, (by decide)⟩, ?_⟩
              have r39 : 0 ≤ (I 236 2) ∧ (I 236 2) ≤ 64 := Rg.n2 hR
              have a40 : -2147483648 ≤ (I 236 2) ∧ (I 236 2) < 2147483648 := hA.1 _ _
              refine r_goOn  hF hR (show (I 235 7) ≤ (I 236 2) from by first | omega | (simp only [wr, wl] at *; omega)) (fun I41 hR42 hA43 hW44 q45 q46 q47 q48 => ?_)
              have q45 : (I 235 7) ≤ (I41 235 6) := q45
              have q46 : (I41 235 6) ≤ (I41 235 7) := q46
              have q47 : (I41 235 7) ≤ (I 236 2) := q47
              have q48 : (I41 235 6) < (I 236 2) → (I41 235 6) < (I41 235 7) := q48
              have r49 : 0 ≤ (I41 235 6) ∧ (I41 235 6) ≤ 64 := Rg.f6 hR42
              have a50 : -2147483648 ≤ (I41 235 6) ∧ (I41 235 6) < 2147483648 := hA43.1 _ _
              have r51 : 0 ≤ (I41 235 7) ∧ (I41 235 7) ≤ 64 := Rg.f7 hR42
              have a52 : -2147483648 ≤ (I41 235 7) ∧ (I41 235 7) < 2147483648 := hA43.1 _ _
              exact ⟨rfl, (by decide), fun hv hA' => hQ _ _ hR42 hA' (hv _ rfl) (fun ka ja hk => (hW44 ka ja (by omega))) (show 1 = 1 → (I 235 6) + 4 ≤ (I41 235 6) from by first | omega | (simp only [wr, wl] at *; omega)) (show (I41 235 6) ≤ (I41 235 7) from by first | omega | (simp only [wr, wl] at *; omega)) (show (I41 235 7) ≤ (I 236 2) from by first | omega | (simp only [wr, wl] at *; omega)) (show (I41 235 6) < (I 236 2) → (I41 235 6) < (I41 235 7) from by first | omega | (simp only [wr, wl] at *; omega)) (show (I 235 6) ≤ (I41 235 6) from by first | omega | (simp only [wr, wl] at *; omega)) (show 1 = 1 → (I 235 8) = 0 from by first | omega | (simp only [wr, wl] at *; omega)) (show 0 ≤ 1 ∧ 1 ≤ 1 from by first | omega | (simp only [wr, wl] at *; omega))⟩
theorem r_takes_14 (hF : FS F) (hR : Rg I) (h1 : I 235 6 ≤ I 235 7) (h2 : I 235 7 ≤ I 236 2) (h3 : I 235 6 < I 236 2 → I 235 6 < I 235 7) (hQ : ∀ (r : Int) (I' : pI), Rg I' → AR I' → iR r → (∀ k j, ¬ ((k = 235 ∧ (j = 6 ∨ j = 7))) → I' k j = I k j) → (r = 1 → (I 235 6) + 4 ≤ (I' 235 6)) → ((I' 235 6) ≤ (I' 235 7)) → ((I' 235 7) ≤ (I 236 2)) → ((I' 235 6) < (I 236 2) → (I' 235 6) < (I' 235 7)) → ((I 235 6) ≤ (I' 235 6)) → (r = 1 → (I 235 8) = 0) → (0 ≤ r ∧ r ≤ 1) → Q (some (vi r)) F I') : CallN G (d + 4) kX12_takes [vr 235, vr 4120] NP F I Q := by
  refine CallN_in (fun hok hA => CallN_out ?_)
  have g2 := Rg.n2 hR
  refine Call_wp (lv := [some (vr 235), some (vr 4120), none, none]) (by decide) ckX12_takes [] rfl rfl ?_
  refine ⟨_, rfl, (by decide), ?_⟩
  have a1 : -2147483648 ≤ (I 235 8) ∧ (I 235 8) < 2147483648 := hA.1 _ _
  refine ⟨fun (c2 : (¬ ((I 235 8) : Int) = 0)) => ?_, fun (c2 : (((I 235 8) : Int) = 0)) => ?_⟩
  ·
    refine ⟨fun _ => ?_, fun c => absurd (show ((0 : Int) = 0) from by decide) c⟩
    refine ⟨fun _ => ?_, fun c => absurd (show ((0 : Int) = 0) from by decide) c⟩
    have r3 : 0 ≤ (I 235 6) ∧ (I 235 6) ≤ 64 := Rg.f6 hR
    have a4 : -2147483648 ≤ (I 235 6) ∧ (I 235 6) < 2147483648 := hA.1 _ _
    have r5 : 0 ≤ (I 235 7) ∧ (I 235 7) ≤ 64 := Rg.f7 hR
    have a6 : -2147483648 ≤ (I 235 7) ∧ (I 235 7) < 2147483648 := hA.1 _ _
    have r7 : 0 ≤ (I 236 2) ∧ (I 236 2) ≤ 64 := Rg.n2 hR
    have a8 : -2147483648 ≤ (I 236 2) ∧ (I 236 2) < 2147483648 := hA.1 _ _
    exact ⟨rfl, (by decide), fun hv hA' => hQ _ _ hR hA' (hv _ rfl) (fun _ _ _ => rfl) (show 0 = 1 → (I 235 6) + 4 ≤ (I 235 6) from by first | omega | (simp only [wr, wl] at *; omega)) (show (I 235 6) ≤ (I 235 7) from by first | omega | (simp only [wr, wl] at *; omega)) (show (I 235 7) ≤ (I 236 2) from by first | omega | (simp only [wr, wl] at *; omega)) (show (I 235 6) < (I 236 2) → (I 235 6) < (I 235 7) from by first | omega | (simp only [wr, wl] at *; omega)) (show (I 235 6) ≤ (I 235 6) from by first | omega | (simp only [wr, wl] at *; omega)) (show 0 = 1 → (I 235 8) = 0 from by first | omega | (simp only [wr, wl] at *; omega)) (show 0 ≤ 0 ∧ 0 ≤ 1 from by first | omega | (simp only [wr, wl] at *; omega))⟩
  ·
    refine ⟨_, rfl, (by decide), ?_⟩
    have r9 : 0 ≤ (I 235 7) ∧ (I 235 7) ≤ 64 := Rg.f7 hR
    refine ⟨_, rfl, (by decide), ?_⟩
    have r10 : 0 ≤ (I 235 6) ∧ (I 235 6) ≤ 64 := Rg.f6 hR
    refine ⟨⟨14, (by decide), rfl⟩, ?_⟩
    refine Call_wp (lv := [some (vr 4120)]) (by decide) ckJ0_length_8abf5 [] rfl rfl ?_
    refine ⟨14, (by decide), rfl, ?_⟩
    refine Or.inr (Or.inr ⟨14, (by decide), rfl, ?_⟩)
    refine ⟨⟨14, (by decide), rfl⟩, ?_⟩
    refine Call_wp (lv := [some (vr 4120)]) (by decide) ckJ0_coder_7d493 [] rfl rfl ?_
    refine ⟨fun c => absurd c (show (¬ ((1 : Int) = 0)) from by decide), fun _ => ?_⟩
    refine ⟨14, (by decide), rfl, ?_⟩
    refine ⟨rfl, (by decide), ?_⟩
    refine ⟨rfl, ?_⟩
    have a11 : -2147483648 ≤ (I 235 7) ∧ (I 235 7) < 2147483648 := hA.1 _ _
    have a12 : -2147483648 ≤ (I 235 6) ∧ (I 235 6) < 2147483648 := hA.1 _ _
    have n13 : (wr ((I 235 7) - (I 235 6))) = (I 235 7) - (I 235 6) := wr_id (show -2147483648 ≤ ((I 235 7) - (I 235 6) : Int) ∧ ((I 235 7) - (I 235 6) : Int) < 2147483648 from by omega)
    refine ⟨fun (c14 : (¬ ((wr ((I 235 7) - (I 235 6))) : Int) = 4)) => ?_, fun (c14 : (((wr ((I 235 7) - (I 235 6))) : Int) = 4)) => ?_⟩
    ·
      refine ⟨fun _ => ?_, fun c => absurd (show ((0 : Int) = 0) from by decide) c⟩
      refine ⟨fun _ => ?_, fun c => absurd (show ((0 : Int) = 0) from by decide) c⟩
      have r15 : 0 ≤ (I 236 2) ∧ (I 236 2) ≤ 64 := Rg.n2 hR
      have a16 : -2147483648 ≤ (I 236 2) ∧ (I 236 2) < 2147483648 := hA.1 _ _
      exact ⟨rfl, (by decide), fun hv hA' => hQ _ _ hR hA' (hv _ rfl) (fun _ _ _ => rfl) (show 0 = 1 → (I 235 6) + 4 ≤ (I 235 6) from by first | omega | (simp only [wr, wl] at *; omega)) (show (I 235 6) ≤ (I 235 7) from by first | omega | (simp only [wr, wl] at *; omega)) (show (I 235 7) ≤ (I 236 2) from by first | omega | (simp only [wr, wl] at *; omega)) (show (I 235 6) < (I 236 2) → (I 235 6) < (I 235 7) from by first | omega | (simp only [wr, wl] at *; omega)) (show (I 235 6) ≤ (I 235 6) from by first | omega | (simp only [wr, wl] at *; omega)) (show 0 = 1 → (I 235 8) = 0 from by first | omega | (simp only [wr, wl] at *; omega)) (show 0 ≤ 0 ∧ 0 ≤ 1 from by first | omega | (simp only [wr, wl] at *; omega))⟩
    ·
      refine ⟨fun c => absurd c (show (¬ ((1 : Int) = 0)) from by decide), fun _ => ?_⟩
      refine ⟨⟨14, (by decide), rfl⟩, ?_⟩
      refine Call_wp (lv := [some (vr 4120)]) (by decide) ckJ0_length_8abf5 [] rfl rfl ?_
      refine ⟨14, (by decide), rfl, ?_⟩
      refine Or.inr (Or.inr ⟨14, (by decide), rfl, ?_⟩)
      refine ⟨⟨14, (by decide), rfl⟩, ?_⟩
      refine Call_wp (lv := [some (vr 4120)]) (by decide) ckJ0_coder_7d493 [] rfl rfl ?_
      refine ⟨fun c => absurd c (show (¬ ((1 : Int) = 0)) from by decide), fun _ => ?_⟩
      refine ⟨14, (by decide), rfl, ?_⟩
      refine ⟨rfl, (by decide), ?_⟩
      refine ⟨rfl, ?_⟩
      refine ⟨fun c => absurd c (show (¬ ((4 : Int) ≤ 0)) from by decide), fun _ => ?_⟩
      refine ⟨_, rfl, (by decide), ?_⟩
      refine fun w0 hw0 => ?_; obtain rfl : w0 = some 236 := hw0.symm.trans (FS.g hF rfl)
      refine ⟨_, rfl, (by decide), ?_⟩
      have n17 : (wr (1228 + (I 235 6))) = 1228 + (I 235 6) := wr_id (show -2147483648 ≤ (1228 + (I 235 6) : Int) ∧ (1228 + (I 235 6) : Int) < 2147483648 from by omega)
      have n18 : (wr ((wr (1228 + (I 235 6))) + 0)) = (wr (1228 + (I 235 6))) + 0 := wr_id (show -2147483648 ≤ ((wr (1228 + (I 235 6))) + 0 : Int) ∧ ((wr (1228 + (I 235 6))) + 0 : Int) < 2147483648 from by omega)
      refine ⟨_, rfl, (by decide), (show (0 : Int) ≤ (wr ((wr (1228 + (I 235 6))) + 0)) from by first | omega | (simp only [wr, wl] at *; omega)), (show (wr ((wr (1228 + (I 235 6))) + 0)) < (1340 : Int) from by first | omega | (simp only [wr, wl] at *; omega)), ?_⟩
      have r19 : 0 ≤ (I 236 (Int.toNat (wr ((wr (1228 + (I 235 6))) + 0)))) ∧ (I 236 (Int.toNat (wr ((wr (1228 + (I 235 6))) + 0)))) ≤ 255 := Pn_t (by omega) (hR.n (Int.toNat (wr ((wr (1228 + (I 235 6))) + 0))) (by omega))
      refine ⟨⟨14, (by decide), rfl⟩, ?_⟩
      refine Call_wp (lv := [some (vr 4120), some (vi 0)]) (by decide) ckJ0_charAt_5068e [] rfl rfl ?_
      refine ⟨⟨14, (by decide), rfl⟩, ?_⟩
      refine Call_wp (lv := [some (vr 4120)]) (by decide) ckJ0_isLatin1_aae02 [] rfl rfl ?_
      refine ⟨fun c => absurd c (show (¬ ((1 : Int) = 0)) from by decide), fun _ => ?_⟩
      refine ⟨14, (by decide), rfl, ?_⟩
      refine ⟨fun c => absurd (show ((0 : Int) = 0) from by decide) c, fun _ => ?_⟩
      refine ⟨rfl, (by decide), ?_⟩
      refine ⟨fun c => absurd c (show (¬ ((1 : Int) = 0)) from by decide), fun _ => ?_⟩
      refine ⟨14, (by decide), rfl, ?_⟩
      refine Call_wp (lv := [some (vr 4150), some (vi 0)]) (by decide) ckJ1_charAt_3b067 [] rfl rfl ?_
      refine Or.inr (Or.inr ⟨14, (by decide), rfl, ?_⟩)
      refine j_check (i := 0) (n := 4) (by omega) ?_
      refine ⟨14, (by decide), rfl, (by decide), (by decide), ?_⟩
      refine ⟨rfl, (by decide), ?_⟩
      refine ⟨rfl, (by decide), ?_⟩
      have a20 : -2147483648 ≤ (I 236 (Int.toNat (wr ((wr (1228 + (I 235 6))) + 0)))) ∧ (I 236 (Int.toNat (wr ((wr (1228 + (I 235 6))) + 0)))) < 2147483648 := hA.1 _ _
      refine ⟨fun (c21 : (¬ ((I 236 (Int.toNat (wr ((wr (1228 + (I 235 6))) + 0)))) : Int) = 116)) => ?_, fun (c21 : (((I 236 (Int.toNat (wr ((wr (1228 + (I 235 6))) + 0)))) : Int) = 116)) => ?_⟩
      ·
        refine ⟨fun _ => ?_, fun c => absurd (show ((0 : Int) = 0) from by decide) c⟩
        refine ⟨fun _ => ?_, fun c => absurd (show ((0 : Int) = 0) from by decide) c⟩
        have r22 : 0 ≤ (I 236 2) ∧ (I 236 2) ≤ 64 := Rg.n2 hR
        have a23 : -2147483648 ≤ (I 236 2) ∧ (I 236 2) < 2147483648 := hA.1 _ _
        exact ⟨rfl, (by decide), fun hv hA' => hQ _ _ hR hA' (hv _ rfl) (fun _ _ _ => rfl) (show 0 = 1 → (I 235 6) + 4 ≤ (I 235 6) from by first | omega | (simp only [wr, wl] at *; omega)) (show (I 235 6) ≤ (I 235 7) from by first | omega | (simp only [wr, wl] at *; omega)) (show (I 235 7) ≤ (I 236 2) from by first | omega | (simp only [wr, wl] at *; omega)) (show (I 235 6) < (I 236 2) → (I 235 6) < (I 235 7) from by first | omega | (simp only [wr, wl] at *; omega)) (show (I 235 6) ≤ (I 235 6) from by first | omega | (simp only [wr, wl] at *; omega)) (show 0 = 1 → (I 235 8) = 0 from by first | omega | (simp only [wr, wl] at *; omega)) (show 0 ≤ 0 ∧ 0 ≤ 1 from by first | omega | (simp only [wr, wl] at *; omega))⟩
      ·
        refine ⟨fun c => absurd c (show (¬ ((1 : Int) = 0)) from by decide), fun _ => ?_⟩
        refine ⟨⟨14, (by decide), rfl⟩, ?_⟩
        refine Call_wp (lv := [some (vr 4120)]) (by decide) ckJ0_length_8abf5 [] rfl rfl ?_
        refine ⟨14, (by decide), rfl, ?_⟩
        refine Or.inr (Or.inr ⟨14, (by decide), rfl, ?_⟩)
        refine ⟨⟨14, (by decide), rfl⟩, ?_⟩
        refine Call_wp (lv := [some (vr 4120)]) (by decide) ckJ0_coder_7d493 [] rfl rfl ?_
        refine ⟨fun c => absurd c (show (¬ ((1 : Int) = 0)) from by decide), fun _ => ?_⟩
        refine ⟨14, (by decide), rfl, ?_⟩
        refine ⟨rfl, (by decide), ?_⟩
        refine ⟨rfl, ?_⟩
        refine ⟨fun c => absurd c (show (¬ ((4 : Int) ≤ 1)) from by decide), fun _ => ?_⟩
        refine ⟨_, rfl, (by decide), ?_⟩
        refine fun w0 hw0 => ?_; obtain rfl : w0 = some 236 := hw0.symm.trans (FS.g hF rfl)
        refine ⟨_, rfl, (by decide), ?_⟩
        have n24 : (wr ((wr (1228 + (I 235 6))) + 1)) = (wr (1228 + (I 235 6))) + 1 := wr_id (show -2147483648 ≤ ((wr (1228 + (I 235 6))) + 1 : Int) ∧ ((wr (1228 + (I 235 6))) + 1 : Int) < 2147483648 from by omega)
        refine ⟨_, rfl, (by decide), (show (0 : Int) ≤ (wr ((wr (1228 + (I 235 6))) + 1)) from by first | omega | (simp only [wr, wl] at *; omega)), (show (wr ((wr (1228 + (I 235 6))) + 1)) < (1340 : Int) from by first | omega | (simp only [wr, wl] at *; omega)), ?_⟩
        refine ⟨⟨14, (by decide), rfl⟩, ?_⟩
        refine Call_wp (lv := [some (vr 4120), some (vi 1)]) (by decide) ckJ0_charAt_5068e [] rfl rfl ?_
        refine ⟨⟨14, (by decide), rfl⟩, ?_⟩
        refine Call_wp (lv := [some (vr 4120)]) (by decide) ckJ0_isLatin1_aae02 [] rfl rfl ?_
        refine ⟨fun c => absurd c (show (¬ ((1 : Int) = 0)) from by decide), fun _ => ?_⟩
        refine ⟨14, (by decide), rfl, ?_⟩
        refine ⟨fun c => absurd (show ((0 : Int) = 0) from by decide) c, fun _ => ?_⟩
        refine ⟨rfl, (by decide), ?_⟩
        refine ⟨fun c => absurd c (show (¬ ((1 : Int) = 0)) from by decide), fun _ => ?_⟩
        refine ⟨14, (by decide), rfl, ?_⟩
        refine Call_wp (lv := [some (vr 4150), some (vi 1)]) (by decide) ckJ1_charAt_3b067 [] rfl rfl ?_
        refine Or.inr (Or.inr ⟨14, (by decide), rfl, ?_⟩)
        refine j_check (i := 1) (n := 4) (by omega) ?_
        refine ⟨14, (by decide), rfl, (by decide), (by decide), ?_⟩
        refine ⟨rfl, (by decide), ?_⟩
        refine ⟨rfl, (by decide), ?_⟩
        have a25 : -2147483648 ≤ (I 236 (Int.toNat (wr ((wr (1228 + (I 235 6))) + 1)))) ∧ (I 236 (Int.toNat (wr ((wr (1228 + (I 235 6))) + 1)))) < 2147483648 := hA.1 _ _
        refine ⟨fun (c26 : (¬ ((I 236 (Int.toNat (wr ((wr (1228 + (I 235 6))) + 1)))) : Int) = 105)) => ?_, fun (c26 : (((I 236 (Int.toNat (wr ((wr (1228 + (I 235 6))) + 1)))) : Int) = 105)) => ?_⟩
        ·
          refine ⟨fun _ => ?_, fun c => absurd (show ((0 : Int) = 0) from by decide) c⟩
          refine ⟨fun _ => ?_, fun c => absurd (show ((0 : Int) = 0) from by decide) c⟩
          have r27 : 0 ≤ (I 236 2) ∧ (I 236 2) ≤ 64 := Rg.n2 hR
          have a28 : -2147483648 ≤ (I 236 2) ∧ (I 236 2) < 2147483648 := hA.1 _ _
          exact ⟨rfl, (by decide), fun hv hA' => hQ _ _ hR hA' (hv _ rfl) (fun _ _ _ => rfl) (show 0 = 1 → (I 235 6) + 4 ≤ (I 235 6) from by first | omega | (simp only [wr, wl] at *; omega)) (show (I 235 6) ≤ (I 235 7) from by first | omega | (simp only [wr, wl] at *; omega)) (show (I 235 7) ≤ (I 236 2) from by first | omega | (simp only [wr, wl] at *; omega)) (show (I 235 6) < (I 236 2) → (I 235 6) < (I 235 7) from by first | omega | (simp only [wr, wl] at *; omega)) (show (I 235 6) ≤ (I 235 6) from by first | omega | (simp only [wr, wl] at *; omega)) (show 0 = 1 → (I 235 8) = 0 from by first | omega | (simp only [wr, wl] at *; omega)) (show 0 ≤ 0 ∧ 0 ≤ 1 from by first | omega | (simp only [wr, wl] at *; omega))⟩
        ·
          refine ⟨fun c => absurd c (show (¬ ((1 : Int) = 0)) from by decide), fun _ => ?_⟩
          refine ⟨⟨14, (by decide), rfl⟩, ?_⟩
          refine Call_wp (lv := [some (vr 4120)]) (by decide) ckJ0_length_8abf5 [] rfl rfl ?_
          refine ⟨14, (by decide), rfl, ?_⟩
          refine Or.inr (Or.inr ⟨14, (by decide), rfl, ?_⟩)
          refine ⟨⟨14, (by decide), rfl⟩, ?_⟩
          refine Call_wp (lv := [some (vr 4120)]) (by decide) ckJ0_coder_7d493 [] rfl rfl ?_
          refine ⟨fun c => absurd c (show (¬ ((1 : Int) = 0)) from by decide), fun _ => ?_⟩
          refine ⟨14, (by decide), rfl, ?_⟩
          refine ⟨rfl, (by decide), ?_⟩
          refine ⟨rfl, ?_⟩
          refine ⟨fun c => absurd c (show (¬ ((4 : Int) ≤ 2)) from by decide), fun _ => ?_⟩
          refine ⟨_, rfl, (by decide), ?_⟩
          refine fun w0 hw0 => ?_; obtain rfl : w0 = some 236 := hw0.symm.trans (FS.g hF rfl)
          refine ⟨_, rfl, (by decide), ?_⟩
          have n29 : (wr ((wr (1228 + (I 235 6))) + 2)) = (wr (1228 + (I 235 6))) + 2 := wr_id (show -2147483648 ≤ ((wr (1228 + (I 235 6))) + 2 : Int) ∧ ((wr (1228 + (I 235 6))) + 2 : Int) < 2147483648 from by omega)
          refine ⟨_, rfl, (by decide), (show (0 : Int) ≤ (wr ((wr (1228 + (I 235 6))) + 2)) from by first | omega | (simp only [wr, wl] at *; omega)), (show (wr ((wr (1228 + (I 235 6))) + 2)) < (1340 : Int) from by first | omega | (simp only [wr, wl] at *; omega)), ?_⟩
          refine ⟨⟨14, (by decide), rfl⟩, ?_⟩
          refine Call_wp (lv := [some (vr 4120), some (vi 2)]) (by decide) ckJ0_charAt_5068e [] rfl rfl ?_
          refine ⟨⟨14, (by decide), rfl⟩, ?_⟩
          refine Call_wp (lv := [some (vr 4120)]) (by decide) ckJ0_isLatin1_aae02 [] rfl rfl ?_
          refine ⟨fun c => absurd c (show (¬ ((1 : Int) = 0)) from by decide), fun _ => ?_⟩
          refine ⟨14, (by decide), rfl, ?_⟩
          refine ⟨fun c => absurd (show ((0 : Int) = 0) from by decide) c, fun _ => ?_⟩
          refine ⟨rfl, (by decide), ?_⟩
          refine ⟨fun c => absurd c (show (¬ ((1 : Int) = 0)) from by decide), fun _ => ?_⟩
          refine ⟨14, (by decide), rfl, ?_⟩
          refine Call_wp (lv := [some (vr 4150), some (vi 2)]) (by decide) ckJ1_charAt_3b067 [] rfl rfl ?_
          refine Or.inr (Or.inr ⟨14, (by decide), rfl, ?_⟩)
          refine j_check (i := 2) (n := 4) (by omega) ?_
          refine ⟨14, (by decide), rfl, (by decide), (by decide), ?_⟩
          refine ⟨rfl, (by decide), ?_⟩
          refine ⟨rfl, (by decide), ?_⟩
          have a30 : -2147483648 ≤ (I 236 (Int.toNat (wr ((wr (1228 + (I 235 6))) + 2)))) ∧ (I 236 (Int.toNat (wr ((wr (1228 + (I 235 6))) + 2)))) < 2147483648 := hA.1 _ _
          refine ⟨fun (c31 : (¬ ((I 236 (Int.toNat (wr ((wr (1228 + (I 235 6))) + 2)))) : Int) = 108)) => ?_, fun (c31 : (((I 236 (Int.toNat (wr ((wr (1228 + (I 235 6))) + 2)))) : Int) = 108)) => ?_⟩
          ·
            refine ⟨fun _ => ?_, fun c => absurd (show ((0 : Int) = 0) from by decide) c⟩
            refine ⟨fun _ => ?_, fun c => absurd (show ((0 : Int) = 0) from by decide) c⟩
            have r32 : 0 ≤ (I 236 2) ∧ (I 236 2) ≤ 64 := Rg.n2 hR
            have a33 : -2147483648 ≤ (I 236 2) ∧ (I 236 2) < 2147483648 := hA.1 _ _
            exact ⟨rfl, (by decide), fun hv hA' => hQ _ _ hR hA' (hv _ rfl) (fun _ _ _ => rfl) (show 0 = 1 → (I 235 6) + 4 ≤ (I 235 6) from by first | omega | (simp only [wr, wl] at *; omega)) (show (I 235 6) ≤ (I 235 7) from by first | omega | (simp only [wr, wl] at *; omega)) (show (I 235 7) ≤ (I 236 2) from by first | omega | (simp only [wr, wl] at *; omega)) (show (I 235 6) < (I 236 2) → (I 235 6) < (I 235 7) from by first | omega | (simp only [wr, wl] at *; omega)) (show (I 235 6) ≤ (I 235 6) from by first | omega | (simp only [wr, wl] at *; omega)) (show 0 = 1 → (I 235 8) = 0 from by first | omega | (simp only [wr, wl] at *; omega)) (show 0 ≤ 0 ∧ 0 ≤ 1 from by first | omega | (simp only [wr, wl] at *; omega))⟩
          ·
            refine ⟨fun c => absurd c (show (¬ ((1 : Int) = 0)) from by decide), fun _ => ?_⟩
            refine ⟨⟨14, (by decide), rfl⟩, ?_⟩
            refine Call_wp (lv := [some (vr 4120)]) (by decide) ckJ0_length_8abf5 [] rfl rfl ?_
            refine ⟨14, (by decide), rfl, ?_⟩
            refine Or.inr (Or.inr ⟨14, (by decide), rfl, ?_⟩)
            refine ⟨⟨14, (by decide), rfl⟩, ?_⟩
            refine Call_wp (lv := [some (vr 4120)]) (by decide) ckJ0_coder_7d493 [] rfl rfl ?_
            refine ⟨fun c => absurd c (show (¬ ((1 : Int) = 0)) from by decide), fun _ => ?_⟩
            refine ⟨14, (by decide), rfl, ?_⟩
            refine ⟨rfl, (by decide), ?_⟩
            refine ⟨rfl, ?_⟩
            refine ⟨fun c => absurd c (show (¬ ((4 : Int) ≤ 3)) from by decide), fun _ => ?_⟩
            refine ⟨_, rfl, (by decide), ?_⟩
            refine fun w0 hw0 => ?_; obtain rfl : w0 = some 236 := hw0.symm.trans (FS.g hF rfl)
            refine ⟨_, rfl, (by decide), ?_⟩
            have n34 : (wr ((wr (1228 + (I 235 6))) + 3)) = (wr (1228 + (I 235 6))) + 3 := wr_id (show -2147483648 ≤ ((wr (1228 + (I 235 6))) + 3 : Int) ∧ ((wr (1228 + (I 235 6))) + 3 : Int) < 2147483648 from by omega)
            refine ⟨_, rfl, (by decide), (show (0 : Int) ≤ (wr ((wr (1228 + (I 235 6))) + 3)) from by first | omega | (simp only [wr, wl] at *; omega)), (show (wr ((wr (1228 + (I 235 6))) + 3)) < (1340 : Int) from by first | omega | (simp only [wr, wl] at *; omega)), ?_⟩
            refine ⟨⟨14, (by decide), rfl⟩, ?_⟩
            refine Call_wp (lv := [some (vr 4120), some (vi 3)]) (by decide) ckJ0_charAt_5068e [] rfl rfl ?_
            refine ⟨⟨14, (by decide), rfl⟩, ?_⟩
            refine Call_wp (lv := [some (vr 4120)]) (by decide) ckJ0_isLatin1_aae02 [] rfl rfl ?_
            refine ⟨fun c => absurd c (show (¬ ((1 : Int) = 0)) from by decide), fun _ => ?_⟩
            refine ⟨14, (by decide), rfl, ?_⟩
            refine ⟨fun c => absurd (show ((0 : Int) = 0) from by decide) c, fun _ => ?_⟩
            refine ⟨rfl, (by decide), ?_⟩
            refine ⟨fun c => absurd c (show (¬ ((1 : Int) = 0)) from by decide), fun _ => ?_⟩
            refine ⟨14, (by decide), rfl, ?_⟩
            refine Call_wp (lv := [some (vr 4150), some (vi 3)]) (by decide) ckJ1_charAt_3b067 [] rfl rfl ?_
            refine Or.inr (Or.inr ⟨14, (by decide), rfl, ?_⟩)
            refine j_check (i := 3) (n := 4) (by omega) ?_
            refine ⟨14, (by decide), rfl, (by decide), (by decide), ?_⟩
            refine ⟨rfl, (by decide), ?_⟩
            refine ⟨rfl, (by decide), ?_⟩
            have a35 : -2147483648 ≤ (I 236 (Int.toNat (wr ((wr (1228 + (I 235 6))) + 3)))) ∧ (I 236 (Int.toNat (wr ((wr (1228 + (I 235 6))) + 3)))) < 2147483648 := hA.1 _ _
            refine ⟨fun (c36 : (¬ ((I 236 (Int.toNat (wr ((wr (1228 + (I 235 6))) + 3)))) : Int) = 108)) => ?_, fun (c36 : (((I 236 (Int.toNat (wr ((wr (1228 + (I 235 6))) + 3)))) : Int) = 108)) => ?_⟩
            ·
              refine ⟨fun _ => ?_, fun c => absurd (show ((0 : Int) = 0) from by decide) c⟩
              refine ⟨fun _ => ?_, fun c => absurd (show ((0 : Int) = 0) from by decide) c⟩
              have r37 : 0 ≤ (I 236 2) ∧ (I 236 2) ≤ 64 := Rg.n2 hR
              have a38 : -2147483648 ≤ (I 236 2) ∧ (I 236 2) < 2147483648 := hA.1 _ _
              exact ⟨rfl, (by decide), fun hv hA' => hQ _ _ hR hA' (hv _ rfl) (fun _ _ _ => rfl) (show 0 = 1 → (I 235 6) + 4 ≤ (I 235 6) from by first | omega | (simp only [wr, wl] at *; omega)) (show (I 235 6) ≤ (I 235 7) from by first | omega | (simp only [wr, wl] at *; omega)) (show (I 235 7) ≤ (I 236 2) from by first | omega | (simp only [wr, wl] at *; omega)) (show (I 235 6) < (I 236 2) → (I 235 6) < (I 235 7) from by first | omega | (simp only [wr, wl] at *; omega)) (show (I 235 6) ≤ (I 235 6) from by first | omega | (simp only [wr, wl] at *; omega)) (show 0 = 1 → (I 235 8) = 0 from by first | omega | (simp only [wr, wl] at *; omega)) (show 0 ≤ 0 ∧ 0 ≤ 1 from by first | omega | (simp only [wr, wl] at *; omega))⟩
            ·
              refine ⟨fun c => absurd c (show (¬ ((1 : Int) = 0)) from by decide), fun _ => ?_⟩
              refine ⟨⟨14, (by decide), rfl⟩, ?_⟩
              refine Call_wp (lv := [some (vr 4120)]) (by decide) ckJ0_length_8abf5 [] rfl rfl ?_
              refine ⟨14, (by decide), rfl, ?_⟩
              refine Or.inr (Or.inr ⟨14, (by decide), rfl, ?_⟩)
              refine ⟨⟨14, (by decide), rfl⟩, ?_⟩
              refine Call_wp (lv := [some (vr 4120)]) (by decide) ckJ0_coder_7d493 [] rfl rfl ?_
              refine ⟨fun c => absurd c (show (¬ ((1 : Int) = 0)) from by decide), fun _ => ?_⟩
              refine ⟨14, (by decide), rfl, ?_⟩
              refine ⟨rfl, (by decide), ?_⟩
              refine ⟨rfl, ?_⟩
              refine ⟨fun _ => ?_, fun c => absurd (show ((4 : Int) ≤ 4) from by decide) c⟩
              refine ⟨fun c => absurd c (show (¬ ((1 : Int) = 0)) from by decide), fun _ => ?_⟩
              refine ⟨⟨_, rfl, (by decide)⟩, ?_⟩
              have r39 : 0 ≤ (I 236 2) ∧ (I 236 2) ≤ 64 := Rg.n2 hR
              have a40 : -2147483648 ≤ (I 236 2) ∧ (I 236 2) < 2147483648 := hA.1 _ _
              refine r_goOn  hF hR (show (I 235 7) ≤ (I 236 2) from by first | omega | (simp only [wr, wl] at *; omega)) (fun I41 hR42 hA43 hW44 q45 q46 q47 q48 => ?_)
              have q45 : (I 235 7) ≤ (I41 235 6) := q45
              have q46 : (I41 235 6) ≤ (I41 235 7) := q46
              have q47 : (I41 235 7) ≤ (I 236 2) := q47
              have q48 : (I41 235 6) < (I 236 2) → (I41 235 6) < (I41 235 7) := q48
              have r49 : 0 ≤ (I41 235 6) ∧ (I41 235 6) ≤ 64 := Rg.f6 hR42
              have a50 : -2147483648 ≤ (I41 235 6) ∧ (I41 235 6) < 2147483648 := hA43.1 _ _
              have r51 : 0 ≤ (I41 235 7) ∧ (I41 235 7) ≤ 64 := Rg.f7 hR42
              have a52 : -2147483648 ≤ (I41 235 7) ∧ (I41 235 7) < 2147483648 := hA43.1 _ _
              exact ⟨rfl, (by decide), fun hv hA' => hQ _ _ hR42 hA' (hv _ rfl) (fun ka ja hk => (hW44 ka ja (by omega))) (show 1 = 1 → (I 235 6) + 4 ≤ (I41 235 6) from by first | omega | (simp only [wr, wl] at *; omega)) (show (I41 235 6) ≤ (I41 235 7) from by first | omega | (simp only [wr, wl] at *; omega)) (show (I41 235 7) ≤ (I 236 2) from by first | omega | (simp only [wr, wl] at *; omega)) (show (I41 235 6) < (I 236 2) → (I41 235 6) < (I41 235 7) from by first | omega | (simp only [wr, wl] at *; omega)) (show (I 235 6) ≤ (I41 235 6) from by first | omega | (simp only [wr, wl] at *; omega)) (show 1 = 1 → (I 235 8) = 0 from by first | omega | (simp only [wr, wl] at *; omega)) (show 0 ≤ 1 ∧ 1 ≤ 1 from by first | omega | (simp only [wr, wl] at *; omega))⟩
theorem r_takes_15 (hF : FS F) (hR : Rg I) (h1 : I 235 6 ≤ I 235 7) (h2 : I 235 7 ≤ I 236 2) (h3 : I 235 6 < I 236 2 → I 235 6 < I 235 7) (hQ : ∀ (r : Int) (I' : pI), Rg I' → AR I' → iR r → (∀ k j, ¬ ((k = 235 ∧ (j = 6 ∨ j = 7))) → I' k j = I k j) → (r = 1 → (I 235 6) + 1 ≤ (I' 235 6)) → ((I' 235 6) ≤ (I' 235 7)) → ((I' 235 7) ≤ (I 236 2)) → ((I' 235 6) < (I 236 2) → (I' 235 6) < (I' 235 7)) → ((I 235 6) ≤ (I' 235 6)) → (r = 1 → (I 235 8) = 0) → (0 ≤ r ∧ r ≤ 1) → Q (some (vi r)) F I') : CallN G (d + 4) kX12_takes [vr 235, vr 4121] NP F I Q := by
  refine CallN_in (fun hok hA => CallN_out ?_)
  have g2 := Rg.n2 hR
  refine Call_wp (lv := [some (vr 235), some (vr 4121), none, none]) (by decide) ckX12_takes [] rfl rfl ?_
  refine ⟨_, rfl, (by decide), ?_⟩
  have a1 : -2147483648 ≤ (I 235 8) ∧ (I 235 8) < 2147483648 := hA.1 _ _
  refine ⟨fun (c2 : (¬ ((I 235 8) : Int) = 0)) => ?_, fun (c2 : (((I 235 8) : Int) = 0)) => ?_⟩
  ·
    refine ⟨fun _ => ?_, fun c => absurd (show ((0 : Int) = 0) from by decide) c⟩
    refine ⟨fun _ => ?_, fun c => absurd (show ((0 : Int) = 0) from by decide) c⟩
    have r3 : 0 ≤ (I 235 6) ∧ (I 235 6) ≤ 64 := Rg.f6 hR
    have a4 : -2147483648 ≤ (I 235 6) ∧ (I 235 6) < 2147483648 := hA.1 _ _
    have r5 : 0 ≤ (I 235 7) ∧ (I 235 7) ≤ 64 := Rg.f7 hR
    have a6 : -2147483648 ≤ (I 235 7) ∧ (I 235 7) < 2147483648 := hA.1 _ _
    have r7 : 0 ≤ (I 236 2) ∧ (I 236 2) ≤ 64 := Rg.n2 hR
    have a8 : -2147483648 ≤ (I 236 2) ∧ (I 236 2) < 2147483648 := hA.1 _ _
    exact ⟨rfl, (by decide), fun hv hA' => hQ _ _ hR hA' (hv _ rfl) (fun _ _ _ => rfl) (show 0 = 1 → (I 235 6) + 1 ≤ (I 235 6) from by first | omega | (simp only [wr, wl] at *; omega)) (show (I 235 6) ≤ (I 235 7) from by first | omega | (simp only [wr, wl] at *; omega)) (show (I 235 7) ≤ (I 236 2) from by first | omega | (simp only [wr, wl] at *; omega)) (show (I 235 6) < (I 236 2) → (I 235 6) < (I 235 7) from by first | omega | (simp only [wr, wl] at *; omega)) (show (I 235 6) ≤ (I 235 6) from by first | omega | (simp only [wr, wl] at *; omega)) (show 0 = 1 → (I 235 8) = 0 from by first | omega | (simp only [wr, wl] at *; omega)) (show 0 ≤ 0 ∧ 0 ≤ 1 from by first | omega | (simp only [wr, wl] at *; omega))⟩
  ·
    refine ⟨_, rfl, (by decide), ?_⟩
    have r9 : 0 ≤ (I 235 7) ∧ (I 235 7) ≤ 64 := Rg.f7 hR
    refine ⟨_, rfl, (by decide), ?_⟩
    have r10 : 0 ≤ (I 235 6) ∧ (I 235 6) ≤ 64 := Rg.f6 hR
    refine ⟨⟨15, (by decide), rfl⟩, ?_⟩
    refine Call_wp (lv := [some (vr 4121)]) (by decide) ckJ0_length_8abf5 [] rfl rfl ?_
    refine ⟨15, (by decide), rfl, ?_⟩
    refine Or.inr (Or.inr ⟨15, (by decide), rfl, ?_⟩)
    refine ⟨⟨15, (by decide), rfl⟩, ?_⟩
    refine Call_wp (lv := [some (vr 4121)]) (by decide) ckJ0_coder_7d493 [] rfl rfl ?_
    refine ⟨fun c => absurd c (show (¬ ((1 : Int) = 0)) from by decide), fun _ => ?_⟩
    refine ⟨15, (by decide), rfl, ?_⟩
    refine ⟨rfl, (by decide), ?_⟩
    refine ⟨rfl, ?_⟩
    have a11 : -2147483648 ≤ (I 235 7) ∧ (I 235 7) < 2147483648 := hA.1 _ _
    have a12 : -2147483648 ≤ (I 235 6) ∧ (I 235 6) < 2147483648 := hA.1 _ _
    have n13 : (wr ((I 235 7) - (I 235 6))) = (I 235 7) - (I 235 6) := wr_id (show -2147483648 ≤ ((I 235 7) - (I 235 6) : Int) ∧ ((I 235 7) - (I 235 6) : Int) < 2147483648 from by omega)
    refine ⟨fun (c14 : (¬ ((wr ((I 235 7) - (I 235 6))) : Int) = 1)) => ?_, fun (c14 : (((wr ((I 235 7) - (I 235 6))) : Int) = 1)) => ?_⟩
    ·
      refine ⟨fun _ => ?_, fun c => absurd (show ((0 : Int) = 0) from by decide) c⟩
      refine ⟨fun _ => ?_, fun c => absurd (show ((0 : Int) = 0) from by decide) c⟩
      have r15 : 0 ≤ (I 236 2) ∧ (I 236 2) ≤ 64 := Rg.n2 hR
      have a16 : -2147483648 ≤ (I 236 2) ∧ (I 236 2) < 2147483648 := hA.1 _ _
      exact ⟨rfl, (by decide), fun hv hA' => hQ _ _ hR hA' (hv _ rfl) (fun _ _ _ => rfl) (show 0 = 1 → (I 235 6) + 1 ≤ (I 235 6) from by first | omega | (simp only [wr, wl] at *; omega)) (show (I 235 6) ≤ (I 235 7) from by first | omega | (simp only [wr, wl] at *; omega)) (show (I 235 7) ≤ (I 236 2) from by first | omega | (simp only [wr, wl] at *; omega)) (show (I 235 6) < (I 236 2) → (I 235 6) < (I 235 7) from by first | omega | (simp only [wr, wl] at *; omega)) (show (I 235 6) ≤ (I 235 6) from by first | omega | (simp only [wr, wl] at *; omega)) (show 0 = 1 → (I 235 8) = 0 from by first | omega | (simp only [wr, wl] at *; omega)) (show 0 ≤ 0 ∧ 0 ≤ 1 from by first | omega | (simp only [wr, wl] at *; omega))⟩
    ·
      refine ⟨fun c => absurd c (show (¬ ((1 : Int) = 0)) from by decide), fun _ => ?_⟩
      refine ⟨⟨15, (by decide), rfl⟩, ?_⟩
      refine Call_wp (lv := [some (vr 4121)]) (by decide) ckJ0_length_8abf5 [] rfl rfl ?_
      refine ⟨15, (by decide), rfl, ?_⟩
      refine Or.inr (Or.inr ⟨15, (by decide), rfl, ?_⟩)
      refine ⟨⟨15, (by decide), rfl⟩, ?_⟩
      refine Call_wp (lv := [some (vr 4121)]) (by decide) ckJ0_coder_7d493 [] rfl rfl ?_
      refine ⟨fun c => absurd c (show (¬ ((1 : Int) = 0)) from by decide), fun _ => ?_⟩
      refine ⟨15, (by decide), rfl, ?_⟩
      refine ⟨rfl, (by decide), ?_⟩
      refine ⟨rfl, ?_⟩
      refine ⟨fun c => absurd c (show (¬ ((1 : Int) ≤ 0)) from by decide), fun _ => ?_⟩
      refine ⟨_, rfl, (by decide), ?_⟩
      refine fun w0 hw0 => ?_; obtain rfl : w0 = some 236 := hw0.symm.trans (FS.g hF rfl)
      refine ⟨_, rfl, (by decide), ?_⟩
      have n17 : (wr (1228 + (I 235 6))) = 1228 + (I 235 6) := wr_id (show -2147483648 ≤ (1228 + (I 235 6) : Int) ∧ (1228 + (I 235 6) : Int) < 2147483648 from by omega)
      have n18 : (wr ((wr (1228 + (I 235 6))) + 0)) = (wr (1228 + (I 235 6))) + 0 := wr_id (show -2147483648 ≤ ((wr (1228 + (I 235 6))) + 0 : Int) ∧ ((wr (1228 + (I 235 6))) + 0 : Int) < 2147483648 from by omega)
      refine ⟨_, rfl, (by decide), (show (0 : Int) ≤ (wr ((wr (1228 + (I 235 6))) + 0)) from by first | omega | (simp only [wr, wl] at *; omega)), (show (wr ((wr (1228 + (I 235 6))) + 0)) < (1340 : Int) from by first | omega | (simp only [wr, wl] at *; omega)), ?_⟩
      have r19 : 0 ≤ (I 236 (Int.toNat (wr ((wr (1228 + (I 235 6))) + 0)))) ∧ (I 236 (Int.toNat (wr ((wr (1228 + (I 235 6))) + 0)))) ≤ 255 := Pn_t (by omega) (hR.n (Int.toNat (wr ((wr (1228 + (I 235 6))) + 0))) (by omega))
      refine ⟨⟨15, (by decide), rfl⟩, ?_⟩
      refine Call_wp (lv := [some (vr 4121), some (vi 0)]) (by decide) ckJ0_charAt_5068e [] rfl rfl ?_
      refine ⟨⟨15, (by decide), rfl⟩, ?_⟩
      refine Call_wp (lv := [some (vr 4121)]) (by decide) ckJ0_isLatin1_aae02 [] rfl rfl ?_
      refine ⟨fun c => absurd c (show (¬ ((1 : Int) = 0)) from by decide), fun _ => ?_⟩
      refine ⟨15, (by decide), rfl, ?_⟩
      refine ⟨fun c => absurd (show ((0 : Int) = 0) from by decide) c, fun _ => ?_⟩
      refine ⟨rfl, (by decide), ?_⟩
      refine ⟨fun c => absurd c (show (¬ ((1 : Int) = 0)) from by decide), fun _ => ?_⟩
      refine ⟨15, (by decide), rfl, ?_⟩
      refine Call_wp (lv := [some (vr 4151), some (vi 0)]) (by decide) ckJ1_charAt_3b067 [] rfl rfl ?_
      refine Or.inr (Or.inr ⟨15, (by decide), rfl, ?_⟩)
      refine j_check (i := 0) (n := 1) (by omega) ?_
      refine ⟨15, (by decide), rfl, (by decide), (by decide), ?_⟩
      refine ⟨rfl, (by decide), ?_⟩
      refine ⟨rfl, (by decide), ?_⟩
      have a20 : -2147483648 ≤ (I 236 (Int.toNat (wr ((wr (1228 + (I 235 6))) + 0)))) ∧ (I 236 (Int.toNat (wr ((wr (1228 + (I 235 6))) + 0)))) < 2147483648 := hA.1 _ _
      refine ⟨fun (c21 : (¬ ((I 236 (Int.toNat (wr ((wr (1228 + (I 235 6))) + 0)))) : Int) = 44)) => ?_, fun (c21 : (((I 236 (Int.toNat (wr ((wr (1228 + (I 235 6))) + 0)))) : Int) = 44)) => ?_⟩
      ·
        refine ⟨fun _ => ?_, fun c => absurd (show ((0 : Int) = 0) from by decide) c⟩
        refine ⟨fun _ => ?_, fun c => absurd (show ((0 : Int) = 0) from by decide) c⟩
        have r22 : 0 ≤ (I 236 2) ∧ (I 236 2) ≤ 64 := Rg.n2 hR
        have a23 : -2147483648 ≤ (I 236 2) ∧ (I 236 2) < 2147483648 := hA.1 _ _
        exact ⟨rfl, (by decide), fun hv hA' => hQ _ _ hR hA' (hv _ rfl) (fun _ _ _ => rfl) (show 0 = 1 → (I 235 6) + 1 ≤ (I 235 6) from by first | omega | (simp only [wr, wl] at *; omega)) (show (I 235 6) ≤ (I 235 7) from by first | omega | (simp only [wr, wl] at *; omega)) (show (I 235 7) ≤ (I 236 2) from by first | omega | (simp only [wr, wl] at *; omega)) (show (I 235 6) < (I 236 2) → (I 235 6) < (I 235 7) from by first | omega | (simp only [wr, wl] at *; omega)) (show (I 235 6) ≤ (I 235 6) from by first | omega | (simp only [wr, wl] at *; omega)) (show 0 = 1 → (I 235 8) = 0 from by first | omega | (simp only [wr, wl] at *; omega)) (show 0 ≤ 0 ∧ 0 ≤ 1 from by first | omega | (simp only [wr, wl] at *; omega))⟩
      ·
        refine ⟨fun c => absurd c (show (¬ ((1 : Int) = 0)) from by decide), fun _ => ?_⟩
        refine ⟨⟨15, (by decide), rfl⟩, ?_⟩
        refine Call_wp (lv := [some (vr 4121)]) (by decide) ckJ0_length_8abf5 [] rfl rfl ?_
        refine ⟨15, (by decide), rfl, ?_⟩
        refine Or.inr (Or.inr ⟨15, (by decide), rfl, ?_⟩)
        refine ⟨⟨15, (by decide), rfl⟩, ?_⟩
        refine Call_wp (lv := [some (vr 4121)]) (by decide) ckJ0_coder_7d493 [] rfl rfl ?_
        refine ⟨fun c => absurd c (show (¬ ((1 : Int) = 0)) from by decide), fun _ => ?_⟩
        refine ⟨15, (by decide), rfl, ?_⟩
        refine ⟨rfl, (by decide), ?_⟩
        refine ⟨rfl, ?_⟩
        refine ⟨fun _ => ?_, fun c => absurd (show ((1 : Int) ≤ 1) from by decide) c⟩
        refine ⟨fun c => absurd c (show (¬ ((1 : Int) = 0)) from by decide), fun _ => ?_⟩
        refine ⟨⟨_, rfl, (by decide)⟩, ?_⟩
        have r24 : 0 ≤ (I 236 2) ∧ (I 236 2) ≤ 64 := Rg.n2 hR
        have a25 : -2147483648 ≤ (I 236 2) ∧ (I 236 2) < 2147483648 := hA.1 _ _
        refine r_goOn  hF hR (show (I 235 7) ≤ (I 236 2) from by first | omega | (simp only [wr, wl] at *; omega)) (fun I26 hR27 hA28 hW29 q30 q31 q32 q33 => ?_)
        have q30 : (I 235 7) ≤ (I26 235 6) := q30
        have q31 : (I26 235 6) ≤ (I26 235 7) := q31
        have q32 : (I26 235 7) ≤ (I 236 2) := q32
        have q33 : (I26 235 6) < (I 236 2) → (I26 235 6) < (I26 235 7) := q33
        have r34 : 0 ≤ (I26 235 6) ∧ (I26 235 6) ≤ 64 := Rg.f6 hR27
        have a35 : -2147483648 ≤ (I26 235 6) ∧ (I26 235 6) < 2147483648 := hA28.1 _ _
        have r36 : 0 ≤ (I26 235 7) ∧ (I26 235 7) ≤ 64 := Rg.f7 hR27
        have a37 : -2147483648 ≤ (I26 235 7) ∧ (I26 235 7) < 2147483648 := hA28.1 _ _
        exact ⟨rfl, (by decide), fun hv hA' => hQ _ _ hR27 hA' (hv _ rfl) (fun ka ja hk => (hW29 ka ja (by omega))) (show 1 = 1 → (I 235 6) + 1 ≤ (I26 235 6) from by first | omega | (simp only [wr, wl] at *; omega)) (show (I26 235 6) ≤ (I26 235 7) from by first | omega | (simp only [wr, wl] at *; omega)) (show (I26 235 7) ≤ (I 236 2) from by first | omega | (simp only [wr, wl] at *; omega)) (show (I26 235 6) < (I 236 2) → (I26 235 6) < (I26 235 7) from by first | omega | (simp only [wr, wl] at *; omega)) (show (I 235 6) ≤ (I26 235 6) from by first | omega | (simp only [wr, wl] at *; omega)) (show 1 = 1 → (I 235 8) = 0 from by first | omega | (simp only [wr, wl] at *; omega)) (show 0 ≤ 1 ∧ 1 ≤ 1 from by first | omega | (simp only [wr, wl] at *; omega))⟩
theorem r_takes_16 (hF : FS F) (hR : Rg I) (h1 : I 235 6 ≤ I 235 7) (h2 : I 235 7 ≤ I 236 2) (h3 : I 235 6 < I 236 2 → I 235 6 < I 235 7) (hQ : ∀ (r : Int) (I' : pI), Rg I' → AR I' → iR r → (∀ k j, ¬ ((k = 235 ∧ (j = 6 ∨ j = 7))) → I' k j = I k j) → (r = 1 → (I 235 6) + 1 ≤ (I' 235 6)) → ((I' 235 6) ≤ (I' 235 7)) → ((I' 235 7) ≤ (I 236 2)) → ((I' 235 6) < (I 236 2) → (I' 235 6) < (I' 235 7)) → ((I 235 6) ≤ (I' 235 6)) → (r = 1 → (I 235 8) = 0) → (0 ≤ r ∧ r ≤ 1) → Q (some (vi r)) F I') : CallN G (d + 4) kX12_takes [vr 235, vr 4122] NP F I Q := by
  refine CallN_in (fun hok hA => CallN_out ?_)
  have g2 := Rg.n2 hR
  refine Call_wp (lv := [some (vr 235), some (vr 4122), none, none]) (by decide) ckX12_takes [] rfl rfl ?_
  refine ⟨_, rfl, (by decide), ?_⟩
  have a1 : -2147483648 ≤ (I 235 8) ∧ (I 235 8) < 2147483648 := hA.1 _ _
  refine ⟨fun (c2 : (¬ ((I 235 8) : Int) = 0)) => ?_, fun (c2 : (((I 235 8) : Int) = 0)) => ?_⟩
  ·
    refine ⟨fun _ => ?_, fun c => absurd (show ((0 : Int) = 0) from by decide) c⟩
    refine ⟨fun _ => ?_, fun c => absurd (show ((0 : Int) = 0) from by decide) c⟩
    have r3 : 0 ≤ (I 235 6) ∧ (I 235 6) ≤ 64 := Rg.f6 hR
    have a4 : -2147483648 ≤ (I 235 6) ∧ (I 235 6) < 2147483648 := hA.1 _ _
    have r5 : 0 ≤ (I 235 7) ∧ (I 235 7) ≤ 64 := Rg.f7 hR
    have a6 : -2147483648 ≤ (I 235 7) ∧ (I 235 7) < 2147483648 := hA.1 _ _
    have r7 : 0 ≤ (I 236 2) ∧ (I 236 2) ≤ 64 := Rg.n2 hR
    have a8 : -2147483648 ≤ (I 236 2) ∧ (I 236 2) < 2147483648 := hA.1 _ _
    exact ⟨rfl, (by decide), fun hv hA' => hQ _ _ hR hA' (hv _ rfl) (fun _ _ _ => rfl) (show 0 = 1 → (I 235 6) + 1 ≤ (I 235 6) from by first | omega | (simp only [wr, wl] at *; omega)) (show (I 235 6) ≤ (I 235 7) from by first | omega | (simp only [wr, wl] at *; omega)) (show (I 235 7) ≤ (I 236 2) from by first | omega | (simp only [wr, wl] at *; omega)) (show (I 235 6) < (I 236 2) → (I 235 6) < (I 235 7) from by first | omega | (simp only [wr, wl] at *; omega)) (show (I 235 6) ≤ (I 235 6) from by first | omega | (simp only [wr, wl] at *; omega)) (show 0 = 1 → (I 235 8) = 0 from by first | omega | (simp only [wr, wl] at *; omega)) (show 0 ≤ 0 ∧ 0 ≤ 1 from by first | omega | (simp only [wr, wl] at *; omega))⟩
  ·
    refine ⟨_, rfl, (by decide), ?_⟩
    have r9 : 0 ≤ (I 235 7) ∧ (I 235 7) ≤ 64 := Rg.f7 hR
    refine ⟨_, rfl, (by decide), ?_⟩
    have r10 : 0 ≤ (I 235 6) ∧ (I 235 6) ≤ 64 := Rg.f6 hR
    refine ⟨⟨16, (by decide), rfl⟩, ?_⟩
    refine Call_wp (lv := [some (vr 4122)]) (by decide) ckJ0_length_8abf5 [] rfl rfl ?_
    refine ⟨16, (by decide), rfl, ?_⟩
    refine Or.inr (Or.inr ⟨16, (by decide), rfl, ?_⟩)
    refine ⟨⟨16, (by decide), rfl⟩, ?_⟩
    refine Call_wp (lv := [some (vr 4122)]) (by decide) ckJ0_coder_7d493 [] rfl rfl ?_
    refine ⟨fun c => absurd c (show (¬ ((1 : Int) = 0)) from by decide), fun _ => ?_⟩
    refine ⟨16, (by decide), rfl, ?_⟩
    refine ⟨rfl, (by decide), ?_⟩
    refine ⟨rfl, ?_⟩
    have a11 : -2147483648 ≤ (I 235 7) ∧ (I 235 7) < 2147483648 := hA.1 _ _
    have a12 : -2147483648 ≤ (I 235 6) ∧ (I 235 6) < 2147483648 := hA.1 _ _
    have n13 : (wr ((I 235 7) - (I 235 6))) = (I 235 7) - (I 235 6) := wr_id (show -2147483648 ≤ ((I 235 7) - (I 235 6) : Int) ∧ ((I 235 7) - (I 235 6) : Int) < 2147483648 from by omega)
    refine ⟨fun (c14 : (¬ ((wr ((I 235 7) - (I 235 6))) : Int) = 1)) => ?_, fun (c14 : (((wr ((I 235 7) - (I 235 6))) : Int) = 1)) => ?_⟩
    ·
      refine ⟨fun _ => ?_, fun c => absurd (show ((0 : Int) = 0) from by decide) c⟩
      refine ⟨fun _ => ?_, fun c => absurd (show ((0 : Int) = 0) from by decide) c⟩
      have r15 : 0 ≤ (I 236 2) ∧ (I 236 2) ≤ 64 := Rg.n2 hR
      have a16 : -2147483648 ≤ (I 236 2) ∧ (I 236 2) < 2147483648 := hA.1 _ _
      exact ⟨rfl, (by decide), fun hv hA' => hQ _ _ hR hA' (hv _ rfl) (fun _ _ _ => rfl) (show 0 = 1 → (I 235 6) + 1 ≤ (I 235 6) from by first | omega | (simp only [wr, wl] at *; omega)) (show (I 235 6) ≤ (I 235 7) from by first | omega | (simp only [wr, wl] at *; omega)) (show (I 235 7) ≤ (I 236 2) from by first | omega | (simp only [wr, wl] at *; omega)) (show (I 235 6) < (I 236 2) → (I 235 6) < (I 235 7) from by first | omega | (simp only [wr, wl] at *; omega)) (show (I 235 6) ≤ (I 235 6) from by first | omega | (simp only [wr, wl] at *; omega)) (show 0 = 1 → (I 235 8) = 0 from by first | omega | (simp only [wr, wl] at *; omega)) (show 0 ≤ 0 ∧ 0 ≤ 1 from by first | omega | (simp only [wr, wl] at *; omega))⟩
    ·
      refine ⟨fun c => absurd c (show (¬ ((1 : Int) = 0)) from by decide), fun _ => ?_⟩
      refine ⟨⟨16, (by decide), rfl⟩, ?_⟩
      refine Call_wp (lv := [some (vr 4122)]) (by decide) ckJ0_length_8abf5 [] rfl rfl ?_
      refine ⟨16, (by decide), rfl, ?_⟩
      refine Or.inr (Or.inr ⟨16, (by decide), rfl, ?_⟩)
      refine ⟨⟨16, (by decide), rfl⟩, ?_⟩
      refine Call_wp (lv := [some (vr 4122)]) (by decide) ckJ0_coder_7d493 [] rfl rfl ?_
      refine ⟨fun c => absurd c (show (¬ ((1 : Int) = 0)) from by decide), fun _ => ?_⟩
      refine ⟨16, (by decide), rfl, ?_⟩
      refine ⟨rfl, (by decide), ?_⟩
      refine ⟨rfl, ?_⟩
      refine ⟨fun c => absurd c (show (¬ ((1 : Int) ≤ 0)) from by decide), fun _ => ?_⟩
      refine ⟨_, rfl, (by decide), ?_⟩
      refine fun w0 hw0 => ?_; obtain rfl : w0 = some 236 := hw0.symm.trans (FS.g hF rfl)
      refine ⟨_, rfl, (by decide), ?_⟩
      have n17 : (wr (1228 + (I 235 6))) = 1228 + (I 235 6) := wr_id (show -2147483648 ≤ (1228 + (I 235 6) : Int) ∧ (1228 + (I 235 6) : Int) < 2147483648 from by omega)
      have n18 : (wr ((wr (1228 + (I 235 6))) + 0)) = (wr (1228 + (I 235 6))) + 0 := wr_id (show -2147483648 ≤ ((wr (1228 + (I 235 6))) + 0 : Int) ∧ ((wr (1228 + (I 235 6))) + 0 : Int) < 2147483648 from by omega)
      refine ⟨_, rfl, (by decide), (show (0 : Int) ≤ (wr ((wr (1228 + (I 235 6))) + 0)) from by first | omega | (simp only [wr, wl] at *; omega)), (show (wr ((wr (1228 + (I 235 6))) + 0)) < (1340 : Int) from by first | omega | (simp only [wr, wl] at *; omega)), ?_⟩
      have r19 : 0 ≤ (I 236 (Int.toNat (wr ((wr (1228 + (I 235 6))) + 0)))) ∧ (I 236 (Int.toNat (wr ((wr (1228 + (I 235 6))) + 0)))) ≤ 255 := Pn_t (by omega) (hR.n (Int.toNat (wr ((wr (1228 + (I 235 6))) + 0))) (by omega))
      refine ⟨⟨16, (by decide), rfl⟩, ?_⟩
      refine Call_wp (lv := [some (vr 4122), some (vi 0)]) (by decide) ckJ0_charAt_5068e [] rfl rfl ?_
      refine ⟨⟨16, (by decide), rfl⟩, ?_⟩
      refine Call_wp (lv := [some (vr 4122)]) (by decide) ckJ0_isLatin1_aae02 [] rfl rfl ?_
      refine ⟨fun c => absurd c (show (¬ ((1 : Int) = 0)) from by decide), fun _ => ?_⟩
      refine ⟨16, (by decide), rfl, ?_⟩
      refine ⟨fun c => absurd (show ((0 : Int) = 0) from by decide) c, fun _ => ?_⟩
      refine ⟨rfl, (by decide), ?_⟩
      refine ⟨fun c => absurd c (show (¬ ((1 : Int) = 0)) from by decide), fun _ => ?_⟩
      refine ⟨16, (by decide), rfl, ?_⟩
      refine Call_wp (lv := [some (vr 4152), some (vi 0)]) (by decide) ckJ1_charAt_3b067 [] rfl rfl ?_
      refine Or.inr (Or.inr ⟨16, (by decide), rfl, ?_⟩)
      refine j_check (i := 0) (n := 1) (by omega) ?_
      refine ⟨16, (by decide), rfl, (by decide), (by decide), ?_⟩
      refine ⟨rfl, (by decide), ?_⟩
      refine ⟨rfl, (by decide), ?_⟩
      have a20 : -2147483648 ≤ (I 236 (Int.toNat (wr ((wr (1228 + (I 235 6))) + 0)))) ∧ (I 236 (Int.toNat (wr ((wr (1228 + (I 235 6))) + 0)))) < 2147483648 := hA.1 _ _
      refine ⟨fun (c21 : (¬ ((I 236 (Int.toNat (wr ((wr (1228 + (I 235 6))) + 0)))) : Int) = 59)) => ?_, fun (c21 : (((I 236 (Int.toNat (wr ((wr (1228 + (I 235 6))) + 0)))) : Int) = 59)) => ?_⟩
      ·
        refine ⟨fun _ => ?_, fun c => absurd (show ((0 : Int) = 0) from by decide) c⟩
        refine ⟨fun _ => ?_, fun c => absurd (show ((0 : Int) = 0) from by decide) c⟩
        have r22 : 0 ≤ (I 236 2) ∧ (I 236 2) ≤ 64 := Rg.n2 hR
        have a23 : -2147483648 ≤ (I 236 2) ∧ (I 236 2) < 2147483648 := hA.1 _ _
        exact ⟨rfl, (by decide), fun hv hA' => hQ _ _ hR hA' (hv _ rfl) (fun _ _ _ => rfl) (show 0 = 1 → (I 235 6) + 1 ≤ (I 235 6) from by first | omega | (simp only [wr, wl] at *; omega)) (show (I 235 6) ≤ (I 235 7) from by first | omega | (simp only [wr, wl] at *; omega)) (show (I 235 7) ≤ (I 236 2) from by first | omega | (simp only [wr, wl] at *; omega)) (show (I 235 6) < (I 236 2) → (I 235 6) < (I 235 7) from by first | omega | (simp only [wr, wl] at *; omega)) (show (I 235 6) ≤ (I 235 6) from by first | omega | (simp only [wr, wl] at *; omega)) (show 0 = 1 → (I 235 8) = 0 from by first | omega | (simp only [wr, wl] at *; omega)) (show 0 ≤ 0 ∧ 0 ≤ 1 from by first | omega | (simp only [wr, wl] at *; omega))⟩
      ·
        refine ⟨fun c => absurd c (show (¬ ((1 : Int) = 0)) from by decide), fun _ => ?_⟩
        refine ⟨⟨16, (by decide), rfl⟩, ?_⟩
        refine Call_wp (lv := [some (vr 4122)]) (by decide) ckJ0_length_8abf5 [] rfl rfl ?_
        refine ⟨16, (by decide), rfl, ?_⟩
        refine Or.inr (Or.inr ⟨16, (by decide), rfl, ?_⟩)
        refine ⟨⟨16, (by decide), rfl⟩, ?_⟩
        refine Call_wp (lv := [some (vr 4122)]) (by decide) ckJ0_coder_7d493 [] rfl rfl ?_
        refine ⟨fun c => absurd c (show (¬ ((1 : Int) = 0)) from by decide), fun _ => ?_⟩
        refine ⟨16, (by decide), rfl, ?_⟩
        refine ⟨rfl, (by decide), ?_⟩
        refine ⟨rfl, ?_⟩
        refine ⟨fun _ => ?_, fun c => absurd (show ((1 : Int) ≤ 1) from by decide) c⟩
        refine ⟨fun c => absurd c (show (¬ ((1 : Int) = 0)) from by decide), fun _ => ?_⟩
        refine ⟨⟨_, rfl, (by decide)⟩, ?_⟩
        have r24 : 0 ≤ (I 236 2) ∧ (I 236 2) ≤ 64 := Rg.n2 hR
        have a25 : -2147483648 ≤ (I 236 2) ∧ (I 236 2) < 2147483648 := hA.1 _ _
        refine r_goOn  hF hR (show (I 235 7) ≤ (I 236 2) from by first | omega | (simp only [wr, wl] at *; omega)) (fun I26 hR27 hA28 hW29 q30 q31 q32 q33 => ?_)
        have q30 : (I 235 7) ≤ (I26 235 6) := q30
        have q31 : (I26 235 6) ≤ (I26 235 7) := q31
        have q32 : (I26 235 7) ≤ (I 236 2) := q32
        have q33 : (I26 235 6) < (I 236 2) → (I26 235 6) < (I26 235 7) := q33
        have r34 : 0 ≤ (I26 235 6) ∧ (I26 235 6) ≤ 64 := Rg.f6 hR27
        have a35 : -2147483648 ≤ (I26 235 6) ∧ (I26 235 6) < 2147483648 := hA28.1 _ _
        have r36 : 0 ≤ (I26 235 7) ∧ (I26 235 7) ≤ 64 := Rg.f7 hR27
        have a37 : -2147483648 ≤ (I26 235 7) ∧ (I26 235 7) < 2147483648 := hA28.1 _ _
        exact ⟨rfl, (by decide), fun hv hA' => hQ _ _ hR27 hA' (hv _ rfl) (fun ka ja hk => (hW29 ka ja (by omega))) (show 1 = 1 → (I 235 6) + 1 ≤ (I26 235 6) from by first | omega | (simp only [wr, wl] at *; omega)) (show (I26 235 6) ≤ (I26 235 7) from by first | omega | (simp only [wr, wl] at *; omega)) (show (I26 235 7) ≤ (I 236 2) from by first | omega | (simp only [wr, wl] at *; omega)) (show (I26 235 6) < (I 236 2) → (I26 235 6) < (I26 235 7) from by first | omega | (simp only [wr, wl] at *; omega)) (show (I 235 6) ≤ (I26 235 6) from by first | omega | (simp only [wr, wl] at *; omega)) (show 1 = 1 → (I 235 8) = 0 from by first | omega | (simp only [wr, wl] at *; omega)) (show 0 ≤ 1 ∧ 1 ≤ 1 from by first | omega | (simp only [wr, wl] at *; omega))⟩
theorem r_takes_17 (hF : FS F) (hR : Rg I) (h1 : I 235 6 ≤ I 235 7) (h2 : I 235 7 ≤ I 236 2) (h3 : I 235 6 < I 236 2 → I 235 6 < I 235 7) (hQ : ∀ (r : Int) (I' : pI), Rg I' → AR I' → iR r → (∀ k j, ¬ ((k = 235 ∧ (j = 6 ∨ j = 7))) → I' k j = I k j) → (r = 1 → (I 235 6) + 4 ≤ (I' 235 6)) → ((I' 235 6) ≤ (I' 235 7)) → ((I' 235 7) ≤ (I 236 2)) → ((I' 235 6) < (I 236 2) → (I' 235 6) < (I' 235 7)) → ((I 235 6) ≤ (I' 235 6)) → (r = 1 → (I 235 8) = 0) → (0 ≤ r ∧ r ≤ 1) → Q (some (vi r)) F I') : CallN G (d + 4) kX12_takes [vr 235, vr 4123] NP F I Q := by
  refine CallN_in (fun hok hA => CallN_out ?_)
  have g2 := Rg.n2 hR
  refine Call_wp (lv := [some (vr 235), some (vr 4123), none, none]) (by decide) ckX12_takes [] rfl rfl ?_
  refine ⟨_, rfl, (by decide), ?_⟩
  have a1 : -2147483648 ≤ (I 235 8) ∧ (I 235 8) < 2147483648 := hA.1 _ _
  refine ⟨fun (c2 : (¬ ((I 235 8) : Int) = 0)) => ?_, fun (c2 : (((I 235 8) : Int) = 0)) => ?_⟩
  ·
    refine ⟨fun _ => ?_, fun c => absurd (show ((0 : Int) = 0) from by decide) c⟩
    refine ⟨fun _ => ?_, fun c => absurd (show ((0 : Int) = 0) from by decide) c⟩
    have r3 : 0 ≤ (I 235 6) ∧ (I 235 6) ≤ 64 := Rg.f6 hR
    have a4 : -2147483648 ≤ (I 235 6) ∧ (I 235 6) < 2147483648 := hA.1 _ _
    have r5 : 0 ≤ (I 235 7) ∧ (I 235 7) ≤ 64 := Rg.f7 hR
    have a6 : -2147483648 ≤ (I 235 7) ∧ (I 235 7) < 2147483648 := hA.1 _ _
    have r7 : 0 ≤ (I 236 2) ∧ (I 236 2) ≤ 64 := Rg.n2 hR
    have a8 : -2147483648 ≤ (I 236 2) ∧ (I 236 2) < 2147483648 := hA.1 _ _
    exact ⟨rfl, (by decide), fun hv hA' => hQ _ _ hR hA' (hv _ rfl) (fun _ _ _ => rfl) (show 0 = 1 → (I 235 6) + 4 ≤ (I 235 6) from by first | omega | (simp only [wr, wl] at *; omega)) (show (I 235 6) ≤ (I 235 7) from by first | omega | (simp only [wr, wl] at *; omega)) (show (I 235 7) ≤ (I 236 2) from by first | omega | (simp only [wr, wl] at *; omega)) (show (I 235 6) < (I 236 2) → (I 235 6) < (I 235 7) from by first | omega | (simp only [wr, wl] at *; omega)) (show (I 235 6) ≤ (I 235 6) from by first | omega | (simp only [wr, wl] at *; omega)) (show 0 = 1 → (I 235 8) = 0 from by first | omega | (simp only [wr, wl] at *; omega)) (show 0 ≤ 0 ∧ 0 ≤ 1 from by first | omega | (simp only [wr, wl] at *; omega))⟩
  ·
    refine ⟨_, rfl, (by decide), ?_⟩
    have r9 : 0 ≤ (I 235 7) ∧ (I 235 7) ≤ 64 := Rg.f7 hR
    refine ⟨_, rfl, (by decide), ?_⟩
    have r10 : 0 ≤ (I 235 6) ∧ (I 235 6) ≤ 64 := Rg.f6 hR
    refine ⟨⟨17, (by decide), rfl⟩, ?_⟩
    refine Call_wp (lv := [some (vr 4123)]) (by decide) ckJ0_length_8abf5 [] rfl rfl ?_
    refine ⟨17, (by decide), rfl, ?_⟩
    refine Or.inr (Or.inr ⟨17, (by decide), rfl, ?_⟩)
    refine ⟨⟨17, (by decide), rfl⟩, ?_⟩
    refine Call_wp (lv := [some (vr 4123)]) (by decide) ckJ0_coder_7d493 [] rfl rfl ?_
    refine ⟨fun c => absurd c (show (¬ ((1 : Int) = 0)) from by decide), fun _ => ?_⟩
    refine ⟨17, (by decide), rfl, ?_⟩
    refine ⟨rfl, (by decide), ?_⟩
    refine ⟨rfl, ?_⟩
    have a11 : -2147483648 ≤ (I 235 7) ∧ (I 235 7) < 2147483648 := hA.1 _ _
    have a12 : -2147483648 ≤ (I 235 6) ∧ (I 235 6) < 2147483648 := hA.1 _ _
    have n13 : (wr ((I 235 7) - (I 235 6))) = (I 235 7) - (I 235 6) := wr_id (show -2147483648 ≤ ((I 235 7) - (I 235 6) : Int) ∧ ((I 235 7) - (I 235 6) : Int) < 2147483648 from by omega)
    refine ⟨fun (c14 : (¬ ((wr ((I 235 7) - (I 235 6))) : Int) = 4)) => ?_, fun (c14 : (((wr ((I 235 7) - (I 235 6))) : Int) = 4)) => ?_⟩
    ·
      refine ⟨fun _ => ?_, fun c => absurd (show ((0 : Int) = 0) from by decide) c⟩
      refine ⟨fun _ => ?_, fun c => absurd (show ((0 : Int) = 0) from by decide) c⟩
      have r15 : 0 ≤ (I 236 2) ∧ (I 236 2) ≤ 64 := Rg.n2 hR
      have a16 : -2147483648 ≤ (I 236 2) ∧ (I 236 2) < 2147483648 := hA.1 _ _
      exact ⟨rfl, (by decide), fun hv hA' => hQ _ _ hR hA' (hv _ rfl) (fun _ _ _ => rfl) (show 0 = 1 → (I 235 6) + 4 ≤ (I 235 6) from by first | omega | (simp only [wr, wl] at *; omega)) (show (I 235 6) ≤ (I 235 7) from by first | omega | (simp only [wr, wl] at *; omega)) (show (I 235 7) ≤ (I 236 2) from by first | omega | (simp only [wr, wl] at *; omega)) (show (I 235 6) < (I 236 2) → (I 235 6) < (I 235 7) from by first | omega | (simp only [wr, wl] at *; omega)) (show (I 235 6) ≤ (I 235 6) from by first | omega | (simp only [wr, wl] at *; omega)) (show 0 = 1 → (I 235 8) = 0 from by first | omega | (simp only [wr, wl] at *; omega)) (show 0 ≤ 0 ∧ 0 ≤ 1 from by first | omega | (simp only [wr, wl] at *; omega))⟩
    ·
      refine ⟨fun c => absurd c (show (¬ ((1 : Int) = 0)) from by decide), fun _ => ?_⟩
      refine ⟨⟨17, (by decide), rfl⟩, ?_⟩
      refine Call_wp (lv := [some (vr 4123)]) (by decide) ckJ0_length_8abf5 [] rfl rfl ?_
      refine ⟨17, (by decide), rfl, ?_⟩
      refine Or.inr (Or.inr ⟨17, (by decide), rfl, ?_⟩)
      refine ⟨⟨17, (by decide), rfl⟩, ?_⟩
      refine Call_wp (lv := [some (vr 4123)]) (by decide) ckJ0_coder_7d493 [] rfl rfl ?_
      refine ⟨fun c => absurd c (show (¬ ((1 : Int) = 0)) from by decide), fun _ => ?_⟩
      refine ⟨17, (by decide), rfl, ?_⟩
      refine ⟨rfl, (by decide), ?_⟩
      refine ⟨rfl, ?_⟩
      refine ⟨fun c => absurd c (show (¬ ((4 : Int) ≤ 0)) from by decide), fun _ => ?_⟩
      refine ⟨_, rfl, (by decide), ?_⟩
      refine fun w0 hw0 => ?_; obtain rfl : w0 = some 236 := hw0.symm.trans (FS.g hF rfl)
      refine ⟨_, rfl, (by decide), ?_⟩
      have n17 : (wr (1228 + (I 235 6))) = 1228 + (I 235 6) := wr_id (show -2147483648 ≤ (1228 + (I 235 6) : Int) ∧ (1228 + (I 235 6) : Int) < 2147483648 from by omega)
      have n18 : (wr ((wr (1228 + (I 235 6))) + 0)) = (wr (1228 + (I 235 6))) + 0 := wr_id (show -2147483648 ≤ ((wr (1228 + (I 235 6))) + 0 : Int) ∧ ((wr (1228 + (I 235 6))) + 0 : Int) < 2147483648 from by omega)
      refine ⟨_, rfl, (by decide), (show (0 : Int) ≤ (wr ((wr (1228 + (I 235 6))) + 0)) from by first | omega | (simp only [wr, wl] at *; omega)), (show (wr ((wr (1228 + (I 235 6))) + 0)) < (1340 : Int) from by first | omega | (simp only [wr, wl] at *; omega)), ?_⟩
      have r19 : 0 ≤ (I 236 (Int.toNat (wr ((wr (1228 + (I 235 6))) + 0)))) ∧ (I 236 (Int.toNat (wr ((wr (1228 + (I 235 6))) + 0)))) ≤ 255 := Pn_t (by omega) (hR.n (Int.toNat (wr ((wr (1228 + (I 235 6))) + 0))) (by omega))
      refine ⟨⟨17, (by decide), rfl⟩, ?_⟩
      refine Call_wp (lv := [some (vr 4123), some (vi 0)]) (by decide) ckJ0_charAt_5068e [] rfl rfl ?_
      refine ⟨⟨17, (by decide), rfl⟩, ?_⟩
      refine Call_wp (lv := [some (vr 4123)]) (by decide) ckJ0_isLatin1_aae02 [] rfl rfl ?_
      refine ⟨fun c => absurd c (show (¬ ((1 : Int) = 0)) from by decide), fun _ => ?_⟩
      refine ⟨17, (by decide), rfl, ?_⟩
      refine ⟨fun c => absurd (show ((0 : Int) = 0) from by decide) c, fun _ => ?_⟩
      refine ⟨rfl, (by decide), ?_⟩
      refine ⟨fun c => absurd c (show (¬ ((1 : Int) = 0)) from by decide), fun _ => ?_⟩
      refine ⟨17, (by decide), rfl, ?_⟩
      refine Call_wp (lv := [some (vr 4153), some (vi 0)]) (by decide) ckJ1_charAt_3b067 [] rfl rfl ?_
      refine Or.inr (Or.inr ⟨17, (by decide), rfl, ?_⟩)
      refine j_check (i := 0) (n := 4) (by omega) ?_
      refine ⟨17, (by decide), rfl, (by decide), (by decide), ?_⟩
      refine ⟨rfl, (by decide), ?_⟩
      refine ⟨rfl, (by decide), ?_⟩
      have a20 : -2147483648 ≤ (I 236 (Int.toNat (wr ((wr (1228 + (I 235 6))) + 0)))) ∧ (I 236 (Int.toNat (wr ((wr (1228 + (I 235 6))) + 0)))) < 2147483648 := hA.1 _ _
      refine ⟨fun (c21 : (¬ ((I 236 (Int.toNat (wr ((wr (1228 + (I 235 6))) + 0)))) : Int) = 108)) => ?_, fun (c21 : (((I 236 (Int.toNat (wr ((wr (1228 + (I 235 6))) + 0)))) : Int) = 108)) => ?_⟩
      ·
        refine ⟨fun _ => ?_, fun c => absurd (show ((0 : Int) = 0) from by decide) c⟩
        refine ⟨fun _ => ?_, fun c => absurd (show ((0 : Int) = 0) from by decide) c⟩
        have r22 : 0 ≤ (I 236 2) ∧ (I 236 2) ≤ 64 := Rg.n2 hR
        have a23 : -2147483648 ≤ (I 236 2) ∧ (I 236 2) < 2147483648 := hA.1 _ _
        exact ⟨rfl, (by decide), fun hv hA' => hQ _ _ hR hA' (hv _ rfl) (fun _ _ _ => rfl) (show 0 = 1 → (I 235 6) + 4 ≤ (I 235 6) from by first | omega | (simp only [wr, wl] at *; omega)) (show (I 235 6) ≤ (I 235 7) from by first | omega | (simp only [wr, wl] at *; omega)) (show (I 235 7) ≤ (I 236 2) from by first | omega | (simp only [wr, wl] at *; omega)) (show (I 235 6) < (I 236 2) → (I 235 6) < (I 235 7) from by first | omega | (simp only [wr, wl] at *; omega)) (show (I 235 6) ≤ (I 235 6) from by first | omega | (simp only [wr, wl] at *; omega)) (show 0 = 1 → (I 235 8) = 0 from by first | omega | (simp only [wr, wl] at *; omega)) (show 0 ≤ 0 ∧ 0 ≤ 1 from by first | omega | (simp only [wr, wl] at *; omega))⟩
      ·
        refine ⟨fun c => absurd c (show (¬ ((1 : Int) = 0)) from by decide), fun _ => ?_⟩
        refine ⟨⟨17, (by decide), rfl⟩, ?_⟩
        refine Call_wp (lv := [some (vr 4123)]) (by decide) ckJ0_length_8abf5 [] rfl rfl ?_
        refine ⟨17, (by decide), rfl, ?_⟩
        refine Or.inr (Or.inr ⟨17, (by decide), rfl, ?_⟩)
        refine ⟨⟨17, (by decide), rfl⟩, ?_⟩
        refine Call_wp (lv := [some (vr 4123)]) (by decide) ckJ0_coder_7d493 [] rfl rfl ?_
        refine ⟨fun c => absurd c (show (¬ ((1 : Int) = 0)) from by decide), fun _ => ?_⟩
        refine ⟨17, (by decide), rfl, ?_⟩
        refine ⟨rfl, (by decide), ?_⟩
        refine ⟨rfl, ?_⟩
        refine ⟨fun c => absurd c (show (¬ ((4 : Int) ≤ 1)) from by decide), fun _ => ?_⟩
        refine ⟨_, rfl, (by decide), ?_⟩
        refine fun w0 hw0 => ?_; obtain rfl : w0 = some 236 := hw0.symm.trans (FS.g hF rfl)
        refine ⟨_, rfl, (by decide), ?_⟩
        have n24 : (wr ((wr (1228 + (I 235 6))) + 1)) = (wr (1228 + (I 235 6))) + 1 := wr_id (show -2147483648 ≤ ((wr (1228 + (I 235 6))) + 1 : Int) ∧ ((wr (1228 + (I 235 6))) + 1 : Int) < 2147483648 from by omega)
        refine ⟨_, rfl, (by decide), (show (0 : Int) ≤ (wr ((wr (1228 + (I 235 6))) + 1)) from by first | omega | (simp only [wr, wl] at *; omega)), (show (wr ((wr (1228 + (I 235 6))) + 1)) < (1340 : Int) from by first | omega | (simp only [wr, wl] at *; omega)), ?_⟩
        refine ⟨⟨17, (by decide), rfl⟩, ?_⟩
        refine Call_wp (lv := [some (vr 4123), some (vi 1)]) (by decide) ckJ0_charAt_5068e [] rfl rfl ?_
        refine ⟨⟨17, (by decide), rfl⟩, ?_⟩
        refine Call_wp (lv := [some (vr 4123)]) (by decide) ckJ0_isLatin1_aae02 [] rfl rfl ?_
        refine ⟨fun c => absurd c (show (¬ ((1 : Int) = 0)) from by decide), fun _ => ?_⟩
        refine ⟨17, (by decide), rfl, ?_⟩
        refine ⟨fun c => absurd (show ((0 : Int) = 0) from by decide) c, fun _ => ?_⟩
        refine ⟨rfl, (by decide), ?_⟩
        refine ⟨fun c => absurd c (show (¬ ((1 : Int) = 0)) from by decide), fun _ => ?_⟩
        refine ⟨17, (by decide), rfl, ?_⟩
        refine Call_wp (lv := [some (vr 4153), some (vi 1)]) (by decide) ckJ1_charAt_3b067 [] rfl rfl ?_
        refine Or.inr (Or.inr ⟨17, (by decide), rfl, ?_⟩)
        refine j_check (i := 1) (n := 4) (by omega) ?_
        refine ⟨17, (by decide), rfl, (by decide), (by decide), ?_⟩
        refine ⟨rfl, (by decide), ?_⟩
        refine ⟨rfl, (by decide), ?_⟩
        have a25 : -2147483648 ≤ (I 236 (Int.toNat (wr ((wr (1228 + (I 235 6))) + 1)))) ∧ (I 236 (Int.toNat (wr ((wr (1228 + (I 235 6))) + 1)))) < 2147483648 := hA.1 _ _
        refine ⟨fun (c26 : (¬ ((I 236 (Int.toNat (wr ((wr (1228 + (I 235 6))) + 1)))) : Int) = 97)) => ?_, fun (c26 : (((I 236 (Int.toNat (wr ((wr (1228 + (I 235 6))) + 1)))) : Int) = 97)) => ?_⟩
        ·
          refine ⟨fun _ => ?_, fun c => absurd (show ((0 : Int) = 0) from by decide) c⟩
          refine ⟨fun _ => ?_, fun c => absurd (show ((0 : Int) = 0) from by decide) c⟩
          have r27 : 0 ≤ (I 236 2) ∧ (I 236 2) ≤ 64 := Rg.n2 hR
          have a28 : -2147483648 ≤ (I 236 2) ∧ (I 236 2) < 2147483648 := hA.1 _ _
          exact ⟨rfl, (by decide), fun hv hA' => hQ _ _ hR hA' (hv _ rfl) (fun _ _ _ => rfl) (show 0 = 1 → (I 235 6) + 4 ≤ (I 235 6) from by first | omega | (simp only [wr, wl] at *; omega)) (show (I 235 6) ≤ (I 235 7) from by first | omega | (simp only [wr, wl] at *; omega)) (show (I 235 7) ≤ (I 236 2) from by first | omega | (simp only [wr, wl] at *; omega)) (show (I 235 6) < (I 236 2) → (I 235 6) < (I 235 7) from by first | omega | (simp only [wr, wl] at *; omega)) (show (I 235 6) ≤ (I 235 6) from by first | omega | (simp only [wr, wl] at *; omega)) (show 0 = 1 → (I 235 8) = 0 from by first | omega | (simp only [wr, wl] at *; omega)) (show 0 ≤ 0 ∧ 0 ≤ 1 from by first | omega | (simp only [wr, wl] at *; omega))⟩
        ·
          refine ⟨fun c => absurd c (show (¬ ((1 : Int) = 0)) from by decide), fun _ => ?_⟩
          refine ⟨⟨17, (by decide), rfl⟩, ?_⟩
          refine Call_wp (lv := [some (vr 4123)]) (by decide) ckJ0_length_8abf5 [] rfl rfl ?_
          refine ⟨17, (by decide), rfl, ?_⟩
          refine Or.inr (Or.inr ⟨17, (by decide), rfl, ?_⟩)
          refine ⟨⟨17, (by decide), rfl⟩, ?_⟩
          refine Call_wp (lv := [some (vr 4123)]) (by decide) ckJ0_coder_7d493 [] rfl rfl ?_
          refine ⟨fun c => absurd c (show (¬ ((1 : Int) = 0)) from by decide), fun _ => ?_⟩
          refine ⟨17, (by decide), rfl, ?_⟩
          refine ⟨rfl, (by decide), ?_⟩
          refine ⟨rfl, ?_⟩
          refine ⟨fun c => absurd c (show (¬ ((4 : Int) ≤ 2)) from by decide), fun _ => ?_⟩
          refine ⟨_, rfl, (by decide), ?_⟩
          refine fun w0 hw0 => ?_; obtain rfl : w0 = some 236 := hw0.symm.trans (FS.g hF rfl)
          refine ⟨_, rfl, (by decide), ?_⟩
          have n29 : (wr ((wr (1228 + (I 235 6))) + 2)) = (wr (1228 + (I 235 6))) + 2 := wr_id (show -2147483648 ≤ ((wr (1228 + (I 235 6))) + 2 : Int) ∧ ((wr (1228 + (I 235 6))) + 2 : Int) < 2147483648 from by omega)
          refine ⟨_, rfl, (by decide), (show (0 : Int) ≤ (wr ((wr (1228 + (I 235 6))) + 2)) from by first | omega | (simp only [wr, wl] at *; omega)), (show (wr ((wr (1228 + (I 235 6))) + 2)) < (1340 : Int) from by first | omega | (simp only [wr, wl] at *; omega)), ?_⟩
          refine ⟨⟨17, (by decide), rfl⟩, ?_⟩
          refine Call_wp (lv := [some (vr 4123), some (vi 2)]) (by decide) ckJ0_charAt_5068e [] rfl rfl ?_
          refine ⟨⟨17, (by decide), rfl⟩, ?_⟩
          refine Call_wp (lv := [some (vr 4123)]) (by decide) ckJ0_isLatin1_aae02 [] rfl rfl ?_
          refine ⟨fun c => absurd c (show (¬ ((1 : Int) = 0)) from by decide), fun _ => ?_⟩
          refine ⟨17, (by decide), rfl, ?_⟩
          refine ⟨fun c => absurd (show ((0 : Int) = 0) from by decide) c, fun _ => ?_⟩
          refine ⟨rfl, (by decide), ?_⟩
          refine ⟨fun c => absurd c (show (¬ ((1 : Int) = 0)) from by decide), fun _ => ?_⟩
          refine ⟨17, (by decide), rfl, ?_⟩
          refine Call_wp (lv := [some (vr 4153), some (vi 2)]) (by decide) ckJ1_charAt_3b067 [] rfl rfl ?_
          refine Or.inr (Or.inr ⟨17, (by decide), rfl, ?_⟩)
          refine j_check (i := 2) (n := 4) (by omega) ?_
          refine ⟨17, (by decide), rfl, (by decide), (by decide), ?_⟩
          refine ⟨rfl, (by decide), ?_⟩
          refine ⟨rfl, (by decide), ?_⟩
          have a30 : -2147483648 ≤ (I 236 (Int.toNat (wr ((wr (1228 + (I 235 6))) + 2)))) ∧ (I 236 (Int.toNat (wr ((wr (1228 + (I 235 6))) + 2)))) < 2147483648 := hA.1 _ _
          refine ⟨fun (c31 : (¬ ((I 236 (Int.toNat (wr ((wr (1228 + (I 235 6))) + 2)))) : Int) = 115)) => ?_, fun (c31 : (((I 236 (Int.toNat (wr ((wr (1228 + (I 235 6))) + 2)))) : Int) = 115)) => ?_⟩
          ·
            refine ⟨fun _ => ?_, fun c => absurd (show ((0 : Int) = 0) from by decide) c⟩
            refine ⟨fun _ => ?_, fun c => absurd (show ((0 : Int) = 0) from by decide) c⟩
            have r32 : 0 ≤ (I 236 2) ∧ (I 236 2) ≤ 64 := Rg.n2 hR
            have a33 : -2147483648 ≤ (I 236 2) ∧ (I 236 2) < 2147483648 := hA.1 _ _
            exact ⟨rfl, (by decide), fun hv hA' => hQ _ _ hR hA' (hv _ rfl) (fun _ _ _ => rfl) (show 0 = 1 → (I 235 6) + 4 ≤ (I 235 6) from by first | omega | (simp only [wr, wl] at *; omega)) (show (I 235 6) ≤ (I 235 7) from by first | omega | (simp only [wr, wl] at *; omega)) (show (I 235 7) ≤ (I 236 2) from by first | omega | (simp only [wr, wl] at *; omega)) (show (I 235 6) < (I 236 2) → (I 235 6) < (I 235 7) from by first | omega | (simp only [wr, wl] at *; omega)) (show (I 235 6) ≤ (I 235 6) from by first | omega | (simp only [wr, wl] at *; omega)) (show 0 = 1 → (I 235 8) = 0 from by first | omega | (simp only [wr, wl] at *; omega)) (show 0 ≤ 0 ∧ 0 ≤ 1 from by first | omega | (simp only [wr, wl] at *; omega))⟩
          ·
            refine ⟨fun c => absurd c (show (¬ ((1 : Int) = 0)) from by decide), fun _ => ?_⟩
            refine ⟨⟨17, (by decide), rfl⟩, ?_⟩
            refine Call_wp (lv := [some (vr 4123)]) (by decide) ckJ0_length_8abf5 [] rfl rfl ?_
            refine ⟨17, (by decide), rfl, ?_⟩
            refine Or.inr (Or.inr ⟨17, (by decide), rfl, ?_⟩)
            refine ⟨⟨17, (by decide), rfl⟩, ?_⟩
            refine Call_wp (lv := [some (vr 4123)]) (by decide) ckJ0_coder_7d493 [] rfl rfl ?_
            refine ⟨fun c => absurd c (show (¬ ((1 : Int) = 0)) from by decide), fun _ => ?_⟩
            refine ⟨17, (by decide), rfl, ?_⟩
            refine ⟨rfl, (by decide), ?_⟩
            refine ⟨rfl, ?_⟩
            refine ⟨fun c => absurd c (show (¬ ((4 : Int) ≤ 3)) from by decide), fun _ => ?_⟩
            refine ⟨_, rfl, (by decide), ?_⟩
            refine fun w0 hw0 => ?_; obtain rfl : w0 = some 236 := hw0.symm.trans (FS.g hF rfl)
            refine ⟨_, rfl, (by decide), ?_⟩
            have n34 : (wr ((wr (1228 + (I 235 6))) + 3)) = (wr (1228 + (I 235 6))) + 3 := wr_id (show -2147483648 ≤ ((wr (1228 + (I 235 6))) + 3 : Int) ∧ ((wr (1228 + (I 235 6))) + 3 : Int) < 2147483648 from by omega)
            refine ⟨_, rfl, (by decide), (show (0 : Int) ≤ (wr ((wr (1228 + (I 235 6))) + 3)) from by first | omega | (simp only [wr, wl] at *; omega)), (show (wr ((wr (1228 + (I 235 6))) + 3)) < (1340 : Int) from by first | omega | (simp only [wr, wl] at *; omega)), ?_⟩
            refine ⟨⟨17, (by decide), rfl⟩, ?_⟩
            refine Call_wp (lv := [some (vr 4123), some (vi 3)]) (by decide) ckJ0_charAt_5068e [] rfl rfl ?_
            refine ⟨⟨17, (by decide), rfl⟩, ?_⟩
            refine Call_wp (lv := [some (vr 4123)]) (by decide) ckJ0_isLatin1_aae02 [] rfl rfl ?_
            refine ⟨fun c => absurd c (show (¬ ((1 : Int) = 0)) from by decide), fun _ => ?_⟩
            refine ⟨17, (by decide), rfl, ?_⟩
            refine ⟨fun c => absurd (show ((0 : Int) = 0) from by decide) c, fun _ => ?_⟩
            refine ⟨rfl, (by decide), ?_⟩
            refine ⟨fun c => absurd c (show (¬ ((1 : Int) = 0)) from by decide), fun _ => ?_⟩
            refine ⟨17, (by decide), rfl, ?_⟩
            refine Call_wp (lv := [some (vr 4153), some (vi 3)]) (by decide) ckJ1_charAt_3b067 [] rfl rfl ?_
            refine Or.inr (Or.inr ⟨17, (by decide), rfl, ?_⟩)
            refine j_check (i := 3) (n := 4) (by omega) ?_
            refine ⟨17, (by decide), rfl, (by decide), (by decide), ?_⟩
            refine ⟨rfl, (by decide), ?_⟩
            refine ⟨rfl, (by decide), ?_⟩
            have a35 : -2147483648 ≤ (I 236 (Int.toNat (wr ((wr (1228 + (I 235 6))) + 3)))) ∧ (I 236 (Int.toNat (wr ((wr (1228 + (I 235 6))) + 3)))) < 2147483648 := hA.1 _ _
            refine ⟨fun (c36 : (¬ ((I 236 (Int.toNat (wr ((wr (1228 + (I 235 6))) + 3)))) : Int) = 116)) => ?_, fun (c36 : (((I 236 (Int.toNat (wr ((wr (1228 + (I 235 6))) + 3)))) : Int) = 116)) => ?_⟩
            ·
              refine ⟨fun _ => ?_, fun c => absurd (show ((0 : Int) = 0) from by decide) c⟩
              refine ⟨fun _ => ?_, fun c => absurd (show ((0 : Int) = 0) from by decide) c⟩
              have r37 : 0 ≤ (I 236 2) ∧ (I 236 2) ≤ 64 := Rg.n2 hR
              have a38 : -2147483648 ≤ (I 236 2) ∧ (I 236 2) < 2147483648 := hA.1 _ _
              exact ⟨rfl, (by decide), fun hv hA' => hQ _ _ hR hA' (hv _ rfl) (fun _ _ _ => rfl) (show 0 = 1 → (I 235 6) + 4 ≤ (I 235 6) from by first | omega | (simp only [wr, wl] at *; omega)) (show (I 235 6) ≤ (I 235 7) from by first | omega | (simp only [wr, wl] at *; omega)) (show (I 235 7) ≤ (I 236 2) from by first | omega | (simp only [wr, wl] at *; omega)) (show (I 235 6) < (I 236 2) → (I 235 6) < (I 235 7) from by first | omega | (simp only [wr, wl] at *; omega)) (show (I 235 6) ≤ (I 235 6) from by first | omega | (simp only [wr, wl] at *; omega)) (show 0 = 1 → (I 235 8) = 0 from by first | omega | (simp only [wr, wl] at *; omega)) (show 0 ≤ 0 ∧ 0 ≤ 1 from by first | omega | (simp only [wr, wl] at *; omega))⟩
            ·
              refine ⟨fun c => absurd c (show (¬ ((1 : Int) = 0)) from by decide), fun _ => ?_⟩
              refine ⟨⟨17, (by decide), rfl⟩, ?_⟩
              refine Call_wp (lv := [some (vr 4123)]) (by decide) ckJ0_length_8abf5 [] rfl rfl ?_
              refine ⟨17, (by decide), rfl, ?_⟩
              refine Or.inr (Or.inr ⟨17, (by decide), rfl, ?_⟩)
              refine ⟨⟨17, (by decide), rfl⟩, ?_⟩
              refine Call_wp (lv := [some (vr 4123)]) (by decide) ckJ0_coder_7d493 [] rfl rfl ?_
              refine ⟨fun c => absurd c (show (¬ ((1 : Int) = 0)) from by decide), fun _ => ?_⟩
              refine ⟨17, (by decide), rfl, ?_⟩
              refine ⟨rfl, (by decide), ?_⟩
              refine ⟨rfl, ?_⟩
              refine ⟨fun _ => ?_, fun c => absurd (show ((4 : Int) ≤ 4) from by decide) c⟩
              refine ⟨fun c => absurd c (show (¬ ((1 : Int) = 0)) from by decide), fun _ => ?_⟩
              refine ⟨⟨_, rfl, (by decide)⟩, ?_⟩
              have r39 : 0 ≤ (I 236 2) ∧ (I 236 2) ≤ 64 := Rg.n2 hR
              have a40 : -2147483648 ≤ (I 236 2) ∧ (I 236 2) < 2147483648 := hA.1 _ _
              refine r_goOn  hF hR (show (I 235 7) ≤ (I 236 2) from by first | omega | (simp only [wr, wl] at *; omega)) (fun I41 hR42 hA43 hW44 q45 q46 q47 q48 => ?_)
              have q45 : (I 235 7) ≤ (I41 235 6) := q45
              have q46 : (I41 235 6) ≤ (I41 235 7) := q46
              have q47 : (I41 235 7) ≤ (I 236 2) := q47
              have q48 : (I41 235 6) < (I 236 2) → (I41 235 6) < (I41 235 7) := q48
              have r49 : 0 ≤ (I41 235 6) ∧ (I41 235 6) ≤ 64 := Rg.f6 hR42
              have a50 : -2147483648 ≤ (I41 235 6) ∧ (I41 235 6) < 2147483648 := hA43.1 _ _
              have r51 : 0 ≤ (I41 235 7) ∧ (I41 235 7) ≤ 64 := Rg.f7 hR42
              have a52 : -2147483648 ≤ (I41 235 7) ∧ (I41 235 7) < 2147483648 := hA43.1 _ _
              exact ⟨rfl, (by decide), fun hv hA' => hQ _ _ hR42 hA' (hv _ rfl) (fun ka ja hk => (hW44 ka ja (by omega))) (show 1 = 1 → (I 235 6) + 4 ≤ (I41 235 6) from by first | omega | (simp only [wr, wl] at *; omega)) (show (I41 235 6) ≤ (I41 235 7) from by first | omega | (simp only [wr, wl] at *; omega)) (show (I41 235 7) ≤ (I 236 2) from by first | omega | (simp only [wr, wl] at *; omega)) (show (I41 235 6) < (I 236 2) → (I41 235 6) < (I41 235 7) from by first | omega | (simp only [wr, wl] at *; omega)) (show (I 235 6) ≤ (I41 235 6) from by first | omega | (simp only [wr, wl] at *; omega)) (show 1 = 1 → (I 235 8) = 0 from by first | omega | (simp only [wr, wl] at *; omega)) (show 0 ≤ 1 ∧ 1 ≤ 1 from by first | omega | (simp only [wr, wl] at *; omega))⟩
theorem r_number_l (hF : FS F) (hR : Rg I) (h1 : I 235 6 ≤ I 235 7) (h2 : I 235 7 ≤ I 236 2) (h3 : I 235 6 < I 236 2 → I 235 6 < I 235 7) (hQ : ∀ (r : Int) (I' : pI), Rg I' → (∀ k j, ¬ ((k = 235 ∧ (j = 6 ∨ j = 7 ∨ j = 8))) → I' k j = I k j) → (r ≤ 300000) → ((I' 235 6) ≤ (I' 235 7)) → ((I' 235 7) ≤ (I 236 2)) → ((I' 235 6) < (I 236 2) → (I' 235 6) < (I' 235 7)) → ((I 235 6) ≤ (I' 235 6)) → ((I' 235 8) = 0 → (I 235 6) + 1 ≤ (I' 235 6)) → Q (some (vi r)) F I') : ∀ (mz : Nat) (v k : Int) (J : pI), Rg J → (∀ k j, ¬ ((k = 235 ∧ (j = 6 ∨ j = 7 ∨ j = 8))) → J k j = I k j) → ((0 : Int) ≤ k) → ((k : Int) ≤ 64) → ((J 235 6) = I 235 6) → ((J 235 7) = I 235 7) → ((J 235 8) = 0 → (J 235 7) - (J 235 6) ≤ 4 ∧ (J 235 6) < (J 235 7)) → (¬ (J 235 8) = 0 → v = 0) → ((J 235 6) ≤ k) → (k ≤ (J 235 7)) → (k = (J 235 6) → v = 0) → (k = (J 235 6) + 1 → -48 ≤ v ∧ v ≤ 207) → (k = (J 235 6) + 2 → -528 ≤ v ∧ v ≤ 2277) → (k = (J 235 6) + 3 → -5328 ≤ v ∧ v ≤ 22977) → (k = (J 235 6) + 4 → -53328 ≤ v ∧ v ≤ 229977) → (64 - k).toNat < mz → GoN G (d + 3) kX12_number NP NP 44 [some (vr 235), some (vi v), some (vi k)] [] F J Q := by
  intro mz
  induction mz with
  | zero => intro v k J hJ hV _ _ _ _ _ _ _ _ _ _ _ _ _ h; exact absurd h (Nat.not_lt_zero _)
  | succ mz ih =>
    intro v k J hJ hV c100 c101 c102 c103 c104 c105 c106 c107 c108 c109 c110 c111 c112 hm
    refine GoN_in (fun hok hA => ?_)
    have iiv : -2147483648 ≤ v ∧ v < 2147483648 := hok 1 _ rfl
    have iik : -2147483648 ≤ k ∧ k < 2147483648 := hok 2 _ rfl
    have g2 := Rg.n2 hR
    have bv : -53328 ≤ v ∧ v ≤ 229977 := by omega
    have r1 : 0 ≤ (J 235 6) ∧ (J 235 6) ≤ 64 := Rg.f6 hJ
    have a2 : -2147483648 ≤ (J 235 6) ∧ (J 235 6) < 2147483648 := hA.1 _ _
    have r3 : 0 ≤ (J 235 7) ∧ (J 235 7) ≤ 64 := Rg.f7 hJ
    have a4 : -2147483648 ≤ (J 235 7) ∧ (J 235 7) < 2147483648 := hA.1 _ _
    have a5 : -2147483648 ≤ (J 235 8) ∧ (J 235 8) < 2147483648 := hA.1 _ _
    refine Go_wp (by decide) ckX12_number [44] ?_
    refine ⟨_, rfl, (by decide), ?_⟩
    refine ⟨fun (c6 : (((J 235 7) : Int) ≤ k)) => ?_, fun (c6 : (¬ (((J 235 7) : Int) ≤ k))) => ?_⟩
    ·
      refine ⟨_, rfl, (by decide), ?_⟩
      refine ⟨fun (c7 : (¬ ((J 235 8) : Int) = 0)) => ?_, fun (c7 : (((J 235 8) : Int) = 0)) => ?_⟩
      ·
        have r8 : 0 ≤ (I 236 2) ∧ (I 236 2) ≤ 64 := Rg.n2 hR
        have r9 : 0 ≤ (I 235 6) ∧ (I 235 6) ≤ 64 := Rg.f6 hR
        exact ⟨rfl, hQ _ _ hJ (fun ka ja hk => (hV ka ja (by omega))) (show v ≤ 300000 from by first | omega | (simp only [wr, wl] at *; omega)) (show (J 235 6) ≤ (J 235 7) from by first | omega | (simp only [wr, wl] at *; omega)) (show (J 235 7) ≤ (I 236 2) from by first | omega | (simp only [wr, wl] at *; omega)) (show (J 235 6) < (I 236 2) → (J 235 6) < (J 235 7) from by first | omega | (simp only [wr, wl] at *; omega)) (show (I 235 6) ≤ (J 235 6) from by first | omega | (simp only [wr, wl] at *; omega)) (show (J 235 8) = 0 → (I 235 6) + 1 ≤ (J 235 6) from by first | omega | (simp only [wr, wl] at *; omega))⟩
      ·
        refine ⟨⟨_, rfl, (by decide)⟩, ?_⟩
        have r10 : 0 ≤ (I 236 2) ∧ (I 236 2) ≤ 64 := Rg.n2 hR
        have u11 : (J 236 2) = (I 236 2) := hV _ _ (by first | omega | decide)
        have a12 : -2147483648 ≤ (J 236 2) ∧ (J 236 2) < 2147483648 := hA.1 _ _
        have r13 : 0 ≤ (J 236 2) ∧ (J 236 2) ≤ 64 := Rg.n2 hJ
        refine r_goOn  hF hJ (show (J 235 7) ≤ (J 236 2) from by first | omega | (simp only [wr, wl] at *; omega)) (fun I14 hR15 hA16 hW17 q18 q19 q20 q21 => ?_)
        have q18 : (J 235 7) ≤ (I14 235 6) := q18
        have q19 : (I14 235 6) ≤ (I14 235 7) := q19
        have q20 : (I14 235 7) ≤ (J 236 2) := q20
        have q21 : (I14 235 6) < (J 236 2) → (I14 235 6) < (I14 235 7) := q21
        have r22 : 0 ≤ (I14 235 6) ∧ (I14 235 6) ≤ 64 := Rg.f6 hR15
        have a23 : -2147483648 ≤ (I14 235 6) ∧ (I14 235 6) < 2147483648 := hA16.1 _ _
        have r24 : 0 ≤ (I14 235 7) ∧ (I14 235 7) ≤ 64 := Rg.f7 hR15
        have a25 : -2147483648 ≤ (I14 235 7) ∧ (I14 235 7) < 2147483648 := hA16.1 _ _
        have r26 : 0 ≤ (I 235 6) ∧ (I 235 6) ≤ 64 := Rg.f6 hR
        have u27 : (I14 235 8) = (J 235 8) := hW17 _ _ (by first | omega | decide)
        have a28 : -2147483648 ≤ (I14 235 8) ∧ (I14 235 8) < 2147483648 := hA16.1 _ _
        exact ⟨rfl, hQ _ _ hR15 (fun ka ja hk => ((hW17 ka ja (by omega))).trans ((hV ka ja (by omega)))) (show v ≤ 300000 from by first | omega | (simp only [wr, wl] at *; omega)) (show (I14 235 6) ≤ (I14 235 7) from by first | omega | (simp only [wr, wl] at *; omega)) (show (I14 235 7) ≤ (I 236 2) from by first | omega | (simp only [wr, wl] at *; omega)) (show (I14 235 6) < (I 236 2) → (I14 235 6) < (I14 235 7) from by first | omega | (simp only [wr, wl] at *; omega)) (show (I 235 6) ≤ (I14 235 6) from by first | omega | (simp only [wr, wl] at *; omega)) (show (I14 235 8) = 0 → (I 235 6) + 1 ≤ (I14 235 6) from by first | omega | (simp only [wr, wl] at *; omega))⟩
    ·
      refine ⟨_, rfl, (by decide), ?_⟩
      refine ⟨fun (c29 : (¬ ((J 235 8) : Int) = 0)) => ?_, fun (c29 : (((J 235 8) : Int) = 0)) => ?_⟩
      ·
        refine ⟨_, rfl, (by decide), ?_⟩
        refine ⟨fun _ => ?_, fun c => absurd c (show (¬ ((J 235 8) : Int) = 0) from by first | omega | (simp only [wr, wl] at *; omega))⟩
        have r30 : 0 ≤ (I 236 2) ∧ (I 236 2) ≤ 64 := Rg.n2 hR
        have r31 : 0 ≤ (I 235 6) ∧ (I 235 6) ≤ 64 := Rg.f6 hR
        exact ⟨rfl, hQ _ _ hJ (fun ka ja hk => (hV ka ja (by omega))) (show v ≤ 300000 from by first | omega | (simp only [wr, wl] at *; omega)) (show (J 235 6) ≤ (J 235 7) from by first | omega | (simp only [wr, wl] at *; omega)) (show (J 235 7) ≤ (I 236 2) from by first | omega | (simp only [wr, wl] at *; omega)) (show (J 235 6) < (I 236 2) → (J 235 6) < (J 235 7) from by first | omega | (simp only [wr, wl] at *; omega)) (show (I 235 6) ≤ (J 235 6) from by first | omega | (simp only [wr, wl] at *; omega)) (show (J 235 8) = 0 → (I 235 6) + 1 ≤ (J 235 6) from by first | omega | (simp only [wr, wl] at *; omega))⟩
      ·
        refine ⟨_, rfl, (by decide), ?_⟩
        refine fun w0 hw0 => ?_; obtain rfl : w0 = some 236 := hw0.symm.trans (FS.g hF rfl)
        have n32 : (wr (1228 + k)) = 1228 + k := wr_id (show -2147483648 ≤ (1228 + k : Int) ∧ (1228 + k : Int) < 2147483648 from by omega)
        refine ⟨_, rfl, (by decide), (show (0 : Int) ≤ (wr (1228 + k)) from by first | omega | (simp only [wr, wl] at *; omega)), (show (wr (1228 + k)) < (1340 : Int) from by first | omega | (simp only [wr, wl] at *; omega)), ?_⟩
        have r33 : 0 ≤ (I 236 (Int.toNat (wr (1228 + k)))) ∧ (I 236 (Int.toNat (wr (1228 + k)))) ≤ 255 := Pn_t (by omega) (hR.n (Int.toNat (wr (1228 + k))) (by omega))
        have u34 : (J 236 (Int.toNat (wr (1228 + k)))) = (I 236 (Int.toNat (wr (1228 + k)))) := hV _ _ (by first | omega | decide)
        have a35 : -2147483648 ≤ (J 236 (Int.toNat (wr (1228 + k)))) ∧ (J 236 (Int.toNat (wr (1228 + k)))) < 2147483648 := hA.1 _ _
        have r36 : 0 ≤ (J 236 (Int.toNat (wr (1228 + k)))) ∧ (J 236 (Int.toNat (wr (1228 + k)))) ≤ 255 := Pn_t (by omega) (hJ.n (Int.toNat (wr (1228 + k))) (by omega))
        have n37 : (wr (10 * v)) = 10 * v := wr_id (show -2147483648 ≤ (10 * v : Int) ∧ (10 * v : Int) < 2147483648 from by omega)
        have n38 : (wr ((wr (10 * v)) + (J 236 (Int.toNat (wr (1228 + k)))))) = (wr (10 * v)) + (J 236 (Int.toNat (wr (1228 + k)))) := wr_id (show -2147483648 ≤ ((wr (10 * v)) + (J 236 (Int.toNat (wr (1228 + k)))) : Int) ∧ ((wr (10 * v)) + (J 236 (Int.toNat (wr (1228 + k)))) : Int) < 2147483648 from by omega)
        have n39 : (wr ((wr ((wr (10 * v)) + (J 236 (Int.toNat (wr (1228 + k)))))) - 48)) = (wr ((wr (10 * v)) + (J 236 (Int.toNat (wr (1228 + k)))))) - 48 := wr_id (show -2147483648 ≤ ((wr ((wr (10 * v)) + (J 236 (Int.toNat (wr (1228 + k)))))) - 48 : Int) ∧ ((wr ((wr (10 * v)) + (J 236 (Int.toNat (wr (1228 + k)))))) - 48 : Int) < 2147483648 from by omega)
        have n40 : (wr (k + 1)) = k + 1 := wr_id (show -2147483648 ≤ (k + 1 : Int) ∧ (k + 1 : Int) < 2147483648 from by omega)
        exact ih (wr ((wr ((wr (10 * v)) + (J 236 (Int.toNat (wr (1228 + k)))))) - 48)) (wr (k + 1)) J hJ (fun ka ja hk => (hV ka ja (by omega))) (show (0 : Int) ≤ (wr (k + 1)) from by first | omega | (simp only [wr, wl] at *; omega)) (show ((wr (k + 1)) : Int) ≤ 64 from by first | omega | (simp only [wr, wl] at *; omega)) (show (J 235 6) = I 235 6 from by first | omega | (simp only [wr, wl] at *; omega)) (show (J 235 7) = I 235 7 from by first | omega | (simp only [wr, wl] at *; omega)) (show (J 235 8) = 0 → (J 235 7) - (J 235 6) ≤ 4 ∧ (J 235 6) < (J 235 7) from by first | omega | (simp only [wr, wl] at *; omega)) (show ¬ (J 235 8) = 0 → (wr ((wr ((wr (10 * v)) + (J 236 (Int.toNat (wr (1228 + k)))))) - 48)) = 0 from by first | omega | (simp only [wr, wl] at *; omega)) (show (J 235 6) ≤ (wr (k + 1)) from by first | omega | (simp only [wr, wl] at *; omega)) (show (wr (k + 1)) ≤ (J 235 7) from by first | omega | (simp only [wr, wl] at *; omega)) (show (wr (k + 1)) = (J 235 6) → (wr ((wr ((wr (10 * v)) + (J 236 (Int.toNat (wr (1228 + k)))))) - 48)) = 0 from by first | omega | (simp only [wr, wl] at *; omega)) (show (wr (k + 1)) = (J 235 6) + 1 → -48 ≤ (wr ((wr ((wr (10 * v)) + (J 236 (Int.toNat (wr (1228 + k)))))) - 48)) ∧ (wr ((wr ((wr (10 * v)) + (J 236 (Int.toNat (wr (1228 + k)))))) - 48)) ≤ 207 from by first | omega | (simp only [wr, wl] at *; omega)) (show (wr (k + 1)) = (J 235 6) + 2 → -528 ≤ (wr ((wr ((wr (10 * v)) + (J 236 (Int.toNat (wr (1228 + k)))))) - 48)) ∧ (wr ((wr ((wr (10 * v)) + (J 236 (Int.toNat (wr (1228 + k)))))) - 48)) ≤ 2277 from by first | omega | (simp only [wr, wl] at *; omega)) (show (wr (k + 1)) = (J 235 6) + 3 → -5328 ≤ (wr ((wr ((wr (10 * v)) + (J 236 (Int.toNat (wr (1228 + k)))))) - 48)) ∧ (wr ((wr ((wr (10 * v)) + (J 236 (Int.toNat (wr (1228 + k)))))) - 48)) ≤ 22977 from by first | omega | (simp only [wr, wl] at *; omega)) (show (wr (k + 1)) = (J 235 6) + 4 → -53328 ≤ (wr ((wr ((wr (10 * v)) + (J 236 (Int.toNat (wr (1228 + k)))))) - 48)) ∧ (wr ((wr ((wr (10 * v)) + (J 236 (Int.toNat (wr (1228 + k)))))) - 48)) ≤ 229977 from by first | omega | (simp only [wr, wl] at *; omega)) (show (64 - (wr (k + 1))).toNat < mz from by omega)
theorem r_number (hF : FS F) (hR : Rg I) (h1 : I 235 6 ≤ I 235 7) (h2 : I 235 7 ≤ I 236 2) (h3 : I 235 6 < I 236 2 → I 235 6 < I 235 7) (hQ : ∀ (r : Int) (I' : pI), Rg I' → AR I' → iR r → (∀ k j, ¬ ((k = 235 ∧ (j = 6 ∨ j = 7 ∨ j = 8))) → I' k j = I k j) → (r ≤ 300000) → ((I' 235 6) ≤ (I' 235 7)) → ((I' 235 7) ≤ (I 236 2)) → ((I' 235 6) < (I 236 2) → (I' 235 6) < (I' 235 7)) → ((I 235 6) ≤ (I' 235 6)) → ((I' 235 8) = 0 → (I 235 6) + 1 ≤ (I' 235 6)) → Q (some (vi r)) F I') : CallN G (d + 3) kX12_number [vr 235] NP F I Q := by
  refine CallN_in (fun hok hA => CallN_out ?_)
  have g2 := Rg.n2 hR
  refine Call_wp (lv := [some (vr 235), none, none]) (by decide) ckX12_number [44] rfl rfl ?_
  refine ⟨_, rfl, (by decide), ?_⟩
  have r1 : 0 ≤ (I 235 6) ∧ (I 235 6) ≤ 64 := Rg.f6 hR
  refine ⟨⟨_, rfl, (by decide)⟩, ?_⟩
  refine Call_wp (lv := [some (vr 235), some (vi (I 235 6)), some (vi 48), some (vi 57)]) (by decide) ckX12_isByte [] rfl rfl ?_
  refine ⟨_, rfl, (by decide), ?_⟩
  refine fun w0 hw0 => ?_; obtain rfl : w0 = some 236 := hw0.symm.trans (FS.g hF rfl)
  refine ⟨_, rfl, (by decide), (by decide), (by decide), ?_⟩
  have r2 : 0 ≤ (I 236 2) ∧ (I 236 2) ≤ 64 := Rg.n2 hR
  have a3 : -2147483648 ≤ (I 235 6) ∧ (I 235 6) < 2147483648 := hA.1 _ _
  have a4 : -2147483648 ≤ (I 236 2) ∧ (I 236 2) < 2147483648 := hA.1 _ _
  refine ⟨fun (c5 : (((I 236 2) : Int) ≤ (I 235 6))) => ?_, fun (c5 : (¬ (((I 236 2) : Int) ≤ (I 235 6)))) => ?_⟩
  ·
    refine ⟨rfl, (by decide), ?_⟩
    refine ⟨fun _ => ?_, fun c => absurd (show ((0 : Int) = 0) from by decide) c⟩
    refine ⟨_, rfl, (by decide), (by decide), ?_⟩
    refine ⟨_, rfl, (by decide), ?_⟩
    have r6 : 0 ≤ (I 235 7) ∧ (I 235 7) ≤ 64 := Rg.f7 hR
    have a7 : -2147483648 ≤ (I 235 7) ∧ (I 235 7) < 2147483648 := hA.1 _ _
    refine r_number_l hF hR h1 h2 h3 (fun r I' g1 g2 g3 g4 g5 g6 g7 g8 hv hA' => hQ _ _ g1 hA' (hv _ rfl) g2 g3 g4 g5 g6 g7 g8) _ 0 (I 235 6) (uI I 235 8 1) (Rg.u hR (Pr_f rfl)) (fun ka ja hk => (uI_o (show ¬ (ka = 235 ∧ ja = 8) from by omega))) (show (0 : Int) ≤ (I 235 6) from by first | omega | (simp only [wr, wl] at *; omega)) (show ((I 235 6) : Int) ≤ 64 from by first | omega | (simp only [wr, wl] at *; omega)) (show (I 235 6) = I 235 6 from by first | omega | (simp only [wr, wl] at *; omega)) (show (I 235 7) = I 235 7 from by first | omega | (simp only [wr, wl] at *; omega)) (show (1 : Int) = 0 → (I 235 7) - (I 235 6) ≤ 4 ∧ (I 235 6) < (I 235 7) from by first | omega | (simp only [wr, wl] at *; omega)) (show ¬ (1 : Int) = 0 → (0 : Int) = 0 from by first | omega | (simp only [wr, wl] at *; omega)) (show (I 235 6) ≤ (I 235 6) from by first | omega | (simp only [wr, wl] at *; omega)) (show (I 235 6) ≤ (I 235 7) from by first | omega | (simp only [wr, wl] at *; omega)) (show (I 235 6) = (I 235 6) → (0 : Int) = 0 from by first | omega | (simp only [wr, wl] at *; omega)) (show (I 235 6) = (I 235 6) + 1 → -48 ≤ (0 : Int) ∧ (0 : Int) ≤ 207 from by first | omega | (simp only [wr, wl] at *; omega)) (show (I 235 6) = (I 235 6) + 2 → -528 ≤ (0 : Int) ∧ (0 : Int) ≤ 2277 from by first | omega | (simp only [wr, wl] at *; omega)) (show (I 235 6) = (I 235 6) + 3 → -5328 ≤ (0 : Int) ∧ (0 : Int) ≤ 22977 from by first | omega | (simp only [wr, wl] at *; omega)) (show (I 235 6) = (I 235 6) + 4 → -53328 ≤ (0 : Int) ∧ (0 : Int) ≤ 229977 from by first | omega | (simp only [wr, wl] at *; omega)) (Nat.lt_succ_self _)
  ·
    refine ⟨_, rfl, (by decide), ?_⟩
    refine fun w0 hw0 => ?_; obtain rfl : w0 = some 236 := hw0.symm.trans (FS.g hF rfl)
    have n8 : (wr (1228 + (I 235 6))) = 1228 + (I 235 6) := wr_id (show -2147483648 ≤ (1228 + (I 235 6) : Int) ∧ (1228 + (I 235 6) : Int) < 2147483648 from by omega)
    refine ⟨_, rfl, (by decide), (show (0 : Int) ≤ (wr (1228 + (I 235 6))) from by first | omega | (simp only [wr, wl] at *; omega)), (show (wr (1228 + (I 235 6))) < (1340 : Int) from by first | omega | (simp only [wr, wl] at *; omega)), ?_⟩
    have r9 : 0 ≤ (I 236 (Int.toNat (wr (1228 + (I 235 6))))) ∧ (I 236 (Int.toNat (wr (1228 + (I 235 6))))) ≤ 255 := Pn_t (by omega) (hR.n (Int.toNat (wr (1228 + (I 235 6)))) (by omega))
    have a10 : -2147483648 ≤ (I 236 (Int.toNat (wr (1228 + (I 235 6))))) ∧ (I 236 (Int.toNat (wr (1228 + (I 235 6))))) < 2147483648 := hA.1 _ _
    refine s_X12_within (fun (w11 : ((48 : Int) ≤ (I 236 (Int.toNat (wr (1228 + (I 235 6))))) ∧ ((I 236 (Int.toNat (wr (1228 + (I 235 6))))) : Int) ≤ 57)) => ?_) (fun (w11 : ¬ ((48 : Int) ≤ (I 236 (Int.toNat (wr (1228 + (I 235 6))))) ∧ ((I 236 (Int.toNat (wr (1228 + (I 235 6))))) : Int) ≤ 57)) => ?_)
    ·
      refine ⟨fun c => absurd c (show (¬ ((1 : Int) = 0)) from by decide), fun _ => ?_⟩
      refine ⟨rfl, (by decide), ?_⟩
      refine ⟨fun c => absurd c (show (¬ ((1 : Int) = 0)) from by decide), fun _ => ?_⟩
      refine ⟨_, rfl, (by decide), ?_⟩
      have r12 : 0 ≤ (I 235 7) ∧ (I 235 7) ≤ 64 := Rg.f7 hR
      refine ⟨_, rfl, (by decide), ?_⟩
      have a13 : -2147483648 ≤ (I 235 7) ∧ (I 235 7) < 2147483648 := hA.1 _ _
      have n14 : (wr ((I 235 7) - (I 235 6))) = (I 235 7) - (I 235 6) := wr_id (show -2147483648 ≤ ((I 235 7) - (I 235 6) : Int) ∧ ((I 235 7) - (I 235 6) : Int) < 2147483648 from by omega)
      refine ⟨fun (c15 : (((wr ((I 235 7) - (I 235 6))) : Int) ≤ 4)) => ?_, fun (c15 : (¬ (((wr ((I 235 7) - (I 235 6))) : Int) ≤ 4))) => ?_⟩
      ·
        refine ⟨_, rfl, (by decide), (by decide), ?_⟩
        refine ⟨_, rfl, (by decide), ?_⟩
        refine r_number_l hF hR h1 h2 h3 (fun r I' g1 g2 g3 g4 g5 g6 g7 g8 hv hA' => hQ _ _ g1 hA' (hv _ rfl) g2 g3 g4 g5 g6 g7 g8) _ 0 (I 235 6) (uI I 235 8 0) (Rg.u hR (Pr_f rfl)) (fun ka ja hk => (uI_o (show ¬ (ka = 235 ∧ ja = 8) from by omega))) (show (0 : Int) ≤ (I 235 6) from by first | omega | (simp only [wr, wl] at *; omega)) (show ((I 235 6) : Int) ≤ 64 from by first | omega | (simp only [wr, wl] at *; omega)) (show (I 235 6) = I 235 6 from by first | omega | (simp only [wr, wl] at *; omega)) (show (I 235 7) = I 235 7 from by first | omega | (simp only [wr, wl] at *; omega)) (show (0 : Int) = 0 → (I 235 7) - (I 235 6) ≤ 4 ∧ (I 235 6) < (I 235 7) from by first | omega | (simp only [wr, wl] at *; omega)) (show ¬ (0 : Int) = 0 → (0 : Int) = 0 from by first | omega | (simp only [wr, wl] at *; omega)) (show (I 235 6) ≤ (I 235 6) from by first | omega | (simp only [wr, wl] at *; omega)) (show (I 235 6) ≤ (I 235 7) from by first | omega | (simp only [wr, wl] at *; omega)) (show (I 235 6) = (I 235 6) → (0 : Int) = 0 from by first | omega | (simp only [wr, wl] at *; omega)) (show (I 235 6) = (I 235 6) + 1 → -48 ≤ (0 : Int) ∧ (0 : Int) ≤ 207 from by first | omega | (simp only [wr, wl] at *; omega)) (show (I 235 6) = (I 235 6) + 2 → -528 ≤ (0 : Int) ∧ (0 : Int) ≤ 2277 from by first | omega | (simp only [wr, wl] at *; omega)) (show (I 235 6) = (I 235 6) + 3 → -5328 ≤ (0 : Int) ∧ (0 : Int) ≤ 22977 from by first | omega | (simp only [wr, wl] at *; omega)) (show (I 235 6) = (I 235 6) + 4 → -53328 ≤ (0 : Int) ∧ (0 : Int) ≤ 229977 from by first | omega | (simp only [wr, wl] at *; omega)) (Nat.lt_succ_self _)
      ·
        refine ⟨_, rfl, (by decide), (by decide), ?_⟩
        refine ⟨_, rfl, (by decide), ?_⟩
        refine r_number_l hF hR h1 h2 h3 (fun r I' g1 g2 g3 g4 g5 g6 g7 g8 hv hA' => hQ _ _ g1 hA' (hv _ rfl) g2 g3 g4 g5 g6 g7 g8) _ 0 (I 235 6) (uI I 235 8 1) (Rg.u hR (Pr_f rfl)) (fun ka ja hk => (uI_o (show ¬ (ka = 235 ∧ ja = 8) from by omega))) (show (0 : Int) ≤ (I 235 6) from by first | omega | (simp only [wr, wl] at *; omega)) (show ((I 235 6) : Int) ≤ 64 from by first | omega | (simp only [wr, wl] at *; omega)) (show (I 235 6) = I 235 6 from by first | omega | (simp only [wr, wl] at *; omega)) (show (I 235 7) = I 235 7 from by first | omega | (simp only [wr, wl] at *; omega)) (show (1 : Int) = 0 → (I 235 7) - (I 235 6) ≤ 4 ∧ (I 235 6) < (I 235 7) from by first | omega | (simp only [wr, wl] at *; omega)) (show ¬ (1 : Int) = 0 → (0 : Int) = 0 from by first | omega | (simp only [wr, wl] at *; omega)) (show (I 235 6) ≤ (I 235 6) from by first | omega | (simp only [wr, wl] at *; omega)) (show (I 235 6) ≤ (I 235 7) from by first | omega | (simp only [wr, wl] at *; omega)) (show (I 235 6) = (I 235 6) → (0 : Int) = 0 from by first | omega | (simp only [wr, wl] at *; omega)) (show (I 235 6) = (I 235 6) + 1 → -48 ≤ (0 : Int) ∧ (0 : Int) ≤ 207 from by first | omega | (simp only [wr, wl] at *; omega)) (show (I 235 6) = (I 235 6) + 2 → -528 ≤ (0 : Int) ∧ (0 : Int) ≤ 2277 from by first | omega | (simp only [wr, wl] at *; omega)) (show (I 235 6) = (I 235 6) + 3 → -5328 ≤ (0 : Int) ∧ (0 : Int) ≤ 22977 from by first | omega | (simp only [wr, wl] at *; omega)) (show (I 235 6) = (I 235 6) + 4 → -53328 ≤ (0 : Int) ∧ (0 : Int) ≤ 229977 from by first | omega | (simp only [wr, wl] at *; omega)) (Nat.lt_succ_self _)
    ·
      refine ⟨fun _ => ?_, fun c => absurd (show ((0 : Int) = 0) from by decide) c⟩
      refine ⟨rfl, (by decide), ?_⟩
      refine ⟨fun _ => ?_, fun c => absurd (show ((0 : Int) = 0) from by decide) c⟩
      refine ⟨_, rfl, (by decide), (by decide), ?_⟩
      refine ⟨_, rfl, (by decide), ?_⟩
      have r16 : 0 ≤ (I 235 7) ∧ (I 235 7) ≤ 64 := Rg.f7 hR
      have a17 : -2147483648 ≤ (I 235 7) ∧ (I 235 7) < 2147483648 := hA.1 _ _
      refine r_number_l hF hR h1 h2 h3 (fun r I' g1 g2 g3 g4 g5 g6 g7 g8 hv hA' => hQ _ _ g1 hA' (hv _ rfl) g2 g3 g4 g5 g6 g7 g8) _ 0 (I 235 6) (uI I 235 8 1) (Rg.u hR (Pr_f rfl)) (fun ka ja hk => (uI_o (show ¬ (ka = 235 ∧ ja = 8) from by omega))) (show (0 : Int) ≤ (I 235 6) from by first | omega | (simp only [wr, wl] at *; omega)) (show ((I 235 6) : Int) ≤ 64 from by first | omega | (simp only [wr, wl] at *; omega)) (show (I 235 6) = I 235 6 from by first | omega | (simp only [wr, wl] at *; omega)) (show (I 235 7) = I 235 7 from by first | omega | (simp only [wr, wl] at *; omega)) (show (1 : Int) = 0 → (I 235 7) - (I 235 6) ≤ 4 ∧ (I 235 6) < (I 235 7) from by first | omega | (simp only [wr, wl] at *; omega)) (show ¬ (1 : Int) = 0 → (0 : Int) = 0 from by first | omega | (simp only [wr, wl] at *; omega)) (show (I 235 6) ≤ (I 235 6) from by first | omega | (simp only [wr, wl] at *; omega)) (show (I 235 6) ≤ (I 235 7) from by first | omega | (simp only [wr, wl] at *; omega)) (show (I 235 6) = (I 235 6) → (0 : Int) = 0 from by first | omega | (simp only [wr, wl] at *; omega)) (show (I 235 6) = (I 235 6) + 1 → -48 ≤ (0 : Int) ∧ (0 : Int) ≤ 207 from by first | omega | (simp only [wr, wl] at *; omega)) (show (I 235 6) = (I 235 6) + 2 → -528 ≤ (0 : Int) ∧ (0 : Int) ≤ 2277 from by first | omega | (simp only [wr, wl] at *; omega)) (show (I 235 6) = (I 235 6) + 3 → -5328 ≤ (0 : Int) ∧ (0 : Int) ≤ 22977 from by first | omega | (simp only [wr, wl] at *; omega)) (show (I 235 6) = (I 235 6) + 4 → -53328 ≤ (0 : Int) ∧ (0 : Int) ≤ 229977 from by first | omega | (simp only [wr, wl] at *; omega)) (Nat.lt_succ_self _)
theorem r_part (hF : FS F) (hR : Rg I) (h1 : I 235 6 ≤ I 235 7) (h2 : I 235 7 ≤ I 236 2) (h3 : I 235 6 < I 236 2 → I 235 6 < I 235 7) (h4 : I 235 9 ≤ 16) (hQ : ∀ (I' : pI), Rg I' → AR I' → (∀ k j, ¬ ((k = 235 ∧ (j = 6 ∨ j = 7 ∨ j = 8 ∨ j = 9)) ∨ k = 241) → I' k j = I k j) → ((I' 235 6) ≤ (I' 235 7)) → ((I' 235 7) ≤ (I 236 2)) → ((I' 235 6) < (I 236 2) → (I' 235 6) < (I' 235 7)) → ((I 235 6) ≤ (I' 235 6)) → ((I' 235 8) = 0 → (I' 235 9) = (I 235 9) + 1 ∧ (I 235 6) + 3 ≤ (I' 235 6)) → (¬ (I' 235 8) = 0 → (I' 235 9) = (I 235 9)) → Q none F I') : CallN G (d + 5) kX12_part [vr 235] NP F I Q := by
  refine CallN_in (fun hok hA => CallN_out ?_)
  have g2 := Rg.n2 hR
  refine Call_wp (lv := [some (vr 235), none, none]) (by decide) ckX12_part [] rfl rfl ?_
  refine ⟨fun c => absurd c (show (¬ ((5 : Int) < 0)) from by decide), fun _ => ?_⟩
  refine ⟨_, rfl, (by decide), ?_⟩
  refine fun w0 hw0 => ?_; obtain rfl : w0 = some 240 := hw0.symm.trans (FS.g hF rfl)
  refine ⟨_, _, (by decide), rfl, (by decide), (by decide), (by decide), ?_⟩
  refine fun w0 hw0 => ?_; obtain rfl : w0 = some 4115 := hw0.symm.trans (FS.g hF rfl)
  refine ⟨⟨_, rfl, (by decide)⟩, ?_⟩
  have r1 : 0 ≤ (I 235 6) ∧ (I 235 6) ≤ 64 := Rg.f6 hR
  have a2 : -2147483648 ≤ (I 235 6) ∧ (I 235 6) < 2147483648 := hA.1 _ _
  have r3 : 0 ≤ (I 235 7) ∧ (I 235 7) ≤ 64 := Rg.f7 hR
  have a4 : -2147483648 ≤ (I 235 7) ∧ (I 235 7) < 2147483648 := hA.1 _ _
  have r5 : 0 ≤ (I 236 2) ∧ (I 236 2) ≤ 64 := Rg.n2 hR
  have a6 : -2147483648 ≤ (I 236 2) ∧ (I 236 2) < 2147483648 := hA.1 _ _
  refine r_takes_9  hF hR (show (I 235 6) ≤ (I 235 7) from by first | omega | (simp only [wr, wl] at *; omega)) (show (I 235 7) ≤ (I 236 2) from by first | omega | (simp only [wr, wl] at *; omega)) (show (I 235 6) < (I 236 2) → (I 235 6) < (I 235 7) from by first | omega | (simp only [wr, wl] at *; omega)) (fun vr7 I8 hR9 hA10 hr12 hW11 q13 q14 q15 q16 q17 q18 q19 => ?_)
  have hr12 : -2147483648 ≤ vr7 ∧ vr7 < 2147483648 := hr12
  have q13 : vr7 = 1 → (I 235 6) + 2 ≤ (I8 235 6) := q13
  have q14 : (I8 235 6) ≤ (I8 235 7) := q14
  have q15 : (I8 235 7) ≤ (I 236 2) := q15
  have q16 : (I8 235 6) < (I 236 2) → (I8 235 6) < (I8 235 7) := q16
  have q17 : (I 235 6) ≤ (I8 235 6) := q17
  have a20 : -2147483648 ≤ (I 235 8) ∧ (I 235 8) < 2147483648 := hA.1 _ _
  have q18 : vr7 = 1 → (I 235 8) = 0 := q18
  have q19 : 0 ≤ vr7 ∧ vr7 ≤ 1 := q19
  refine ⟨fun (c21 : (¬ (vr7 : Int) = 0)) => ?_, fun (c21 : ((vr7 : Int) = 0)) => ?_⟩
  ·
    refine ⟨_, rfl, (by decide), ?_⟩
    have u22 : (I8 235 8) = (I 235 8) := hW11 _ _ (by first | omega | decide)
    have a23 : -2147483648 ≤ (I8 235 8) ∧ (I8 235 8) < 2147483648 := hA10.1 _ _
    refine ⟨fun (c24 : (¬ ((I8 235 8) : Int) = 0)) => ?_, fun (c24 : (((I8 235 8) : Int) = 0)) => ?_⟩
    ·
      refine ⟨_, rfl, (by decide), (by decide), ?_⟩
      refine ⟨_, rfl, (by decide), ?_⟩
      refine ⟨fun _ => ?_, fun c => absurd c (show (¬ (1 : Int) = 0) from by decide)⟩
      refine ⟨_, rfl, (by decide), ?_⟩
      refine ⟨fun _ => ?_, fun c => absurd c (show (¬ (1 : Int) = 0) from by decide)⟩
      have r25 : 0 ≤ (I8 235 6) ∧ (I8 235 6) ≤ 64 := Rg.f6 hR9
      have a26 : -2147483648 ≤ (I8 235 6) ∧ (I8 235 6) < 2147483648 := hA10.1 _ _
      have r27 : 0 ≤ (I8 235 7) ∧ (I8 235 7) ≤ 64 := Rg.f7 hR9
      have a28 : -2147483648 ≤ (I8 235 7) ∧ (I8 235 7) < 2147483648 := hA10.1 _ _
      have r29 : 0 ≤ (I 235 9) ∧ (I 235 9) ≤ 17 := Rg.f9 hR
      have u30 : (I8 235 9) = (I 235 9) := hW11 _ _ (by first | omega | decide)
      have a31 : -2147483648 ≤ (I 235 9) ∧ (I 235 9) < 2147483648 := hA.1 _ _
      have a32 : -2147483648 ≤ (I8 235 9) ∧ (I8 235 9) < 2147483648 := hA10.1 _ _
      have r33 : 0 ≤ (I8 235 9) ∧ (I8 235 9) ≤ 17 := Rg.f9 hR9
      exact ⟨rfl, fun hv hA' => hQ _ (Rg.u hR9 (Pr_f rfl)) hA' (fun ka ja hk => ((uI_o (show ¬ (ka = 235 ∧ ja = 8) from by omega))).trans ((hW11 ka ja (by omega)))) (show (I8 235 6) ≤ (I8 235 7) from by first | omega | (simp only [wr, wl] at *; omega)) (show (I8 235 7) ≤ (I 236 2) from by first | omega | (simp only [wr, wl] at *; omega)) (show (I8 235 6) < (I 236 2) → (I8 235 6) < (I8 235 7) from by first | omega | (simp only [wr, wl] at *; omega)) (show (I 235 6) ≤ (I8 235 6) from by first | omega | (simp only [wr, wl] at *; omega)) (show 1 = 0 → (I8 235 9) = (I 235 9) + 1 ∧ (I 235 6) + 3 ≤ (I8 235 6) from by first | omega | (simp only [wr, wl] at *; omega)) (show ¬ 1 = 0 → (I8 235 9) = (I 235 9) from by first | omega | (simp only [wr, wl] at *; omega))⟩
    ·
      refine ⟨fun _ => ?_, fun c => absurd (show ((0 : Int) ≤ 5) from by decide) c⟩
      refine ⟨_, rfl, (by decide), (by decide), ?_⟩
      refine ⟨_, rfl, (by decide), ?_⟩
      refine ⟨fun c => absurd (show ((0 : Int) = 0) from by decide) c, fun _ => ?_⟩
      refine ⟨fun _ => ?_, fun c => absurd c (show (¬ (0 : Int) = 4) from by decide)⟩
      refine ⟨⟨_, rfl, (by decide)⟩, ?_⟩
      have r34 : 0 ≤ (I8 235 6) ∧ (I8 235 6) ≤ 64 := Rg.f6 hR9
      have a35 : -2147483648 ≤ (I8 235 6) ∧ (I8 235 6) < 2147483648 := hA10.1 _ _
      have r36 : 0 ≤ (I8 235 7) ∧ (I8 235 7) ≤ 64 := Rg.f7 hR9
      have a37 : -2147483648 ≤ (I8 235 7) ∧ (I8 235 7) < 2147483648 := hA10.1 _ _
      have u38 : (I8 236 2) = (I 236 2) := hW11 _ _ (by first | omega | decide)
      have a39 : -2147483648 ≤ (I8 236 2) ∧ (I8 236 2) < 2147483648 := hA10.1 _ _
      have r40 : 0 ≤ (I8 236 2) ∧ (I8 236 2) ≤ 64 := Rg.n2 hR9
      refine r_number  hF (Rg.u hR9 (Pr_f rfl)) (show (I8 235 6) ≤ (I8 235 7) from by first | omega | (simp only [wr, wl] at *; omega)) (show (I8 235 7) ≤ (I8 236 2) from by first | omega | (simp only [wr, wl] at *; omega)) (show (I8 235 6) < (I8 236 2) → (I8 235 6) < (I8 235 7) from by first | omega | (simp only [wr, wl] at *; omega)) (fun vr41 I42 hR43 hA44 hr46 hW45 q47 q48 q49 q50 q51 q52 => ?_)
      have hr46 : -2147483648 ≤ vr41 ∧ vr41 < 2147483648 := hr46
      have q47 : vr41 ≤ 300000 := q47
      have q48 : (I42 235 6) ≤ (I42 235 7) := q48
      have q49 : (I42 235 7) ≤ (I8 236 2) := q49
      have q50 : (I42 235 6) < (I8 236 2) → (I42 235 6) < (I42 235 7) := q50
      have q51 : (I8 235 6) ≤ (I42 235 6) := q51
      have q52 : (I42 235 8) = 0 → (I8 235 6) + 1 ≤ (I42 235 6) := q52
      refine ⟨_, rfl, (by decide), ?_⟩
      have a53 : -2147483648 ≤ (I42 235 8) ∧ (I42 235 8) < 2147483648 := hA44.1 _ _
      refine ⟨fun (c54 : (¬ ((I42 235 8) : Int) = 0)) => ?_, fun (c54 : (((I42 235 8) : Int) = 0)) => ?_⟩
      ·
        have r55 : 0 ≤ (I42 235 6) ∧ (I42 235 6) ≤ 64 := Rg.f6 hR43
        have a56 : -2147483648 ≤ (I42 235 6) ∧ (I42 235 6) < 2147483648 := hA44.1 _ _
        have r57 : 0 ≤ (I42 235 7) ∧ (I42 235 7) ≤ 64 := Rg.f7 hR43
        have a58 : -2147483648 ≤ (I42 235 7) ∧ (I42 235 7) < 2147483648 := hA44.1 _ _
        have r59 : 0 ≤ (I 235 9) ∧ (I 235 9) ≤ 17 := Rg.f9 hR
        have u60 : (I8 235 9) = (I 235 9) := hW11 _ _ (by first | omega | decide)
        have a61 : -2147483648 ≤ (I 235 9) ∧ (I 235 9) < 2147483648 := hA.1 _ _
        have a62 : -2147483648 ≤ (I8 235 9) ∧ (I8 235 9) < 2147483648 := hA10.1 _ _
        have r63 : 0 ≤ (I8 235 9) ∧ (I8 235 9) ≤ 17 := Rg.f9 hR9
        have u64 : (I42 235 9) = ((uI I8 235 8 0) 235 9) := hW45 _ _ (by first | omega | decide)
        have u65 : ((uI I8 235 8 0) 235 9) = (I8 235 9) := rfl
        have a66 : -2147483648 ≤ (I42 235 9) ∧ (I42 235 9) < 2147483648 := hA44.1 _ _
        have r67 : 0 ≤ (I42 235 9) ∧ (I42 235 9) ≤ 17 := Rg.f9 hR43
        exact ⟨rfl, fun hv hA' => hQ _ hR43 hA' (fun ka ja hk => ((hW45 ka ja (by omega))).trans (((uI_o (show ¬ (ka = 235 ∧ ja = 8) from by omega))).trans ((hW11 ka ja (by omega))))) (show (I42 235 6) ≤ (I42 235 7) from by first | omega | (simp only [wr, wl] at *; omega)) (show (I42 235 7) ≤ (I 236 2) from by first | omega | (simp only [wr, wl] at *; omega)) (show (I42 235 6) < (I 236 2) → (I42 235 6) < (I42 235 7) from by first | omega | (simp only [wr, wl] at *; omega)) (show (I 235 6) ≤ (I42 235 6) from by first | omega | (simp only [wr, wl] at *; omega)) (show (I42 235 8) = 0 → (I42 235 9) = (I 235 9) + 1 ∧ (I 235 6) + 3 ≤ (I42 235 6) from by first | omega | (simp only [wr, wl] at *; omega)) (show ¬ (I42 235 8) = 0 → (I42 235 9) = (I 235 9) from by first | omega | (simp only [wr, wl] at *; omega))⟩
      ·
        refine ⟨_, rfl, (by decide), ?_⟩
        refine fun w0 hw0 => ?_; obtain rfl : w0 = some 241 := hw0.symm.trans (FS.g hF rfl)
        refine ⟨_, rfl, (by decide), ?_⟩
        have r68 : 0 ≤ (I 235 9) ∧ (I 235 9) ≤ 17 := Rg.f9 hR
        have u69 : (I8 235 9) = (I 235 9) := hW11 _ _ (by first | omega | decide)
        have a70 : -2147483648 ≤ (I 235 9) ∧ (I 235 9) < 2147483648 := hA.1 _ _
        have a71 : -2147483648 ≤ (I8 235 9) ∧ (I8 235 9) < 2147483648 := hA10.1 _ _
        have r72 : 0 ≤ (I8 235 9) ∧ (I8 235 9) ≤ 17 := Rg.f9 hR9
        have u73 : (I42 235 9) = ((uI I8 235 8 0) 235 9) := hW45 _ _ (by first | omega | decide)
        have u74 : ((uI I8 235 8 0) 235 9) = (I8 235 9) := rfl
        have a75 : -2147483648 ≤ (I42 235 9) ∧ (I42 235 9) < 2147483648 := hA44.1 _ _
        have r76 : 0 ≤ (I42 235 9) ∧ (I42 235 9) ≤ 17 := Rg.f9 hR43
        have n77 : (wr (2 * (I42 235 9))) = 2 * (I42 235 9) := wr_id (show -2147483648 ≤ (2 * (I42 235 9) : Int) ∧ (2 * (I42 235 9) : Int) < 2147483648 from by omega)
        have n78 : (wr (2 + (wr (2 * (I42 235 9))))) = 2 + (wr (2 * (I42 235 9))) := wr_id (show -2147483648 ≤ (2 + (wr (2 * (I42 235 9))) : Int) ∧ (2 + (wr (2 * (I42 235 9))) : Int) < 2147483648 from by omega)
        refine ⟨_, rfl, (by decide), (show (0 : Int) ≤ (wr (2 + (wr (2 * (I42 235 9))))) from by first | omega | (simp only [wr, wl] at *; omega)), (show (wr (2 + (wr (2 * (I42 235 9))))) < (36 : Int) from by first | omega | (simp only [wr, wl] at *; omega)), ?_⟩
        have p79 : Pn (40 + (Int.toNat (wr (2 + (wr (2 * (I42 235 9))))))) 0 := by apply Pn_w <;> omega
        refine ⟨_, rfl, (by decide), ?_⟩
        refine fun w0 hw0 => ?_; obtain rfl : w0 = some 241 := hw0.symm.trans (FS.g hF rfl)
        refine ⟨_, rfl, (by decide), ?_⟩
        have n80 : (wr ((wr (2 + (wr (2 * (I42 235 9))))) + 1)) = (wr (2 + (wr (2 * (I42 235 9))))) + 1 := wr_id (show -2147483648 ≤ ((wr (2 + (wr (2 * (I42 235 9))))) + 1 : Int) ∧ ((wr (2 + (wr (2 * (I42 235 9))))) + 1 : Int) < 2147483648 from by omega)
        refine ⟨_, rfl, (by decide), (show (0 : Int) ≤ (wr ((wr (2 + (wr (2 * (I42 235 9))))) + 1)) from by first | omega | (simp only [wr, wl] at *; omega)), (show (wr ((wr (2 + (wr (2 * (I42 235 9))))) + 1)) < (36 : Int) from by first | omega | (simp only [wr, wl] at *; omega)), ?_⟩
        have p81 : Pn (40 + (Int.toNat (wr ((wr (2 + (wr (2 * (I42 235 9))))) + 1)))) vr41 := by apply Pn_w <;> omega
        refine ⟨_, rfl, (by decide), ?_⟩
        refine ⟨_, rfl, (by decide), ?_⟩
        have n82 : (wr ((I42 235 9) + 1)) = (I42 235 9) + 1 := wr_id (show -2147483648 ≤ ((I42 235 9) + 1 : Int) ∧ ((I42 235 9) + 1 : Int) < 2147483648 from by omega)
        have p83 : (0 : Int) ≤ (wr ((I42 235 9) + 1)) ∧ ((wr ((I42 235 9) + 1)) : Int) ≤ 17 := by first | omega | (simp only [wr, wl] at *; omega)
        have r84 : 0 ≤ (I42 235 6) ∧ (I42 235 6) ≤ 64 := Rg.f6 hR43
        have a85 : -2147483648 ≤ (I42 235 6) ∧ (I42 235 6) < 2147483648 := hA44.1 _ _
        have r86 : 0 ≤ (I42 235 7) ∧ (I42 235 7) ≤ 64 := Rg.f7 hR43
        have a87 : -2147483648 ≤ (I42 235 7) ∧ (I42 235 7) < 2147483648 := hA44.1 _ _
        exact ⟨rfl, fun hv hA' => hQ _ (Rg.u (Rg.u (Rg.u hR43 (Pr_r p79)) (Pr_r p81)) (Pr_x9 p83)) hA' (fun ka ja hk => ((uI_o (show ¬ (ka = 235 ∧ ja = 9) from by omega))).trans (((uI_o (show ¬ (ka = 241 ∧ ja = (Int.toNat (wr ((wr (2 + (wr (2 * (I42 235 9))))) + 1)))) from by omega))).trans (((uI_o (show ¬ (ka = 241 ∧ ja = (Int.toNat (wr (2 + (wr (2 * (I42 235 9))))))) from by omega))).trans (((hW45 ka ja (by omega))).trans (((uI_o (show ¬ (ka = 235 ∧ ja = 8) from by omega))).trans ((hW11 ka ja (by omega)))))))) (show (I42 235 6) ≤ (I42 235 7) from by first | omega | (simp only [wr, wl] at *; omega)) (show (I42 235 7) ≤ (I 236 2) from by first | omega | (simp only [wr, wl] at *; omega)) (show (I42 235 6) < (I 236 2) → (I42 235 6) < (I42 235 7) from by first | omega | (simp only [wr, wl] at *; omega)) (show (I 235 6) ≤ (I42 235 6) from by first | omega | (simp only [wr, wl] at *; omega)) (show (I42 235 8) = 0 → (wr ((I42 235 9) + 1)) = (I 235 9) + 1 ∧ (I 235 6) + 3 ≤ (I42 235 6) from by first | omega | (simp only [wr, wl] at *; omega)) (show ¬ (I42 235 8) = 0 → (wr ((I42 235 9) + 1)) = (I 235 9) from by first | omega | (simp only [wr, wl] at *; omega))⟩
  ·
    refine ⟨fun c => absurd c (show (¬ ((5 : Int) < 1)) from by decide), fun _ => ?_⟩
    refine ⟨_, rfl, (by decide), ?_⟩
    refine fun w0 hw0 => ?_; obtain rfl : w0 = some 240 := hw0.symm.trans (FS.g hF rfl)
    refine ⟨_, _, (by decide), rfl, (by decide), (by decide), (by decide), ?_⟩
    refine fun w0 hw0 => ?_; obtain rfl : w0 = some 4116 := hw0.symm.trans (FS.g hF rfl)
    refine ⟨⟨_, rfl, (by decide)⟩, ?_⟩
    have r88 : 0 ≤ (I8 235 6) ∧ (I8 235 6) ≤ 64 := Rg.f6 hR9
    have a89 : -2147483648 ≤ (I8 235 6) ∧ (I8 235 6) < 2147483648 := hA10.1 _ _
    have r90 : 0 ≤ (I8 235 7) ∧ (I8 235 7) ≤ 64 := Rg.f7 hR9
    have a91 : -2147483648 ≤ (I8 235 7) ∧ (I8 235 7) < 2147483648 := hA10.1 _ _
    have u92 : (I8 236 2) = (I 236 2) := hW11 _ _ (by first | omega | decide)
    have a93 : -2147483648 ≤ (I8 236 2) ∧ (I8 236 2) < 2147483648 := hA10.1 _ _
    have r94 : 0 ≤ (I8 236 2) ∧ (I8 236 2) ≤ 64 := Rg.n2 hR9
    refine r_takes_10  hF hR9 (show (I8 235 6) ≤ (I8 235 7) from by first | omega | (simp only [wr, wl] at *; omega)) (show (I8 235 7) ≤ (I8 236 2) from by first | omega | (simp only [wr, wl] at *; omega)) (show (I8 235 6) < (I8 236 2) → (I8 235 6) < (I8 235 7) from by first | omega | (simp only [wr, wl] at *; omega)) (fun vr95 I96 hR97 hA98 hr100 hW99 q101 q102 q103 q104 q105 q106 q107 => ?_)
    have hr100 : -2147483648 ≤ vr95 ∧ vr95 < 2147483648 := hr100
    have q101 : vr95 = 1 → (I8 235 6) + 4 ≤ (I96 235 6) := q101
    have q102 : (I96 235 6) ≤ (I96 235 7) := q102
    have q103 : (I96 235 7) ≤ (I8 236 2) := q103
    have q104 : (I96 235 6) < (I8 236 2) → (I96 235 6) < (I96 235 7) := q104
    have q105 : (I8 235 6) ≤ (I96 235 6) := q105
    have u108 : (I8 235 8) = (I 235 8) := hW11 _ _ (by first | omega | decide)
    have a109 : -2147483648 ≤ (I8 235 8) ∧ (I8 235 8) < 2147483648 := hA10.1 _ _
    have q106 : vr95 = 1 → (I8 235 8) = 0 := q106
    have q107 : 0 ≤ vr95 ∧ vr95 ≤ 1 := q107
    refine ⟨fun (c110 : (¬ (vr95 : Int) = 0)) => ?_, fun (c110 : ((vr95 : Int) = 0)) => ?_⟩
    ·
      refine ⟨_, rfl, (by decide), ?_⟩
      have u111 : (I96 235 8) = (I8 235 8) := hW99 _ _ (by first | omega | decide)
      have a112 : -2147483648 ≤ (I96 235 8) ∧ (I96 235 8) < 2147483648 := hA98.1 _ _
      refine ⟨fun (c113 : (¬ ((I96 235 8) : Int) = 0)) => ?_, fun (c113 : (((I96 235 8) : Int) = 0)) => ?_⟩
      ·
        refine ⟨_, rfl, (by decide), (by decide), ?_⟩
        refine ⟨_, rfl, (by decide), ?_⟩
        refine ⟨fun _ => ?_, fun c => absurd c (show (¬ (1 : Int) = 0) from by decide)⟩
        refine ⟨_, rfl, (by decide), ?_⟩
        refine ⟨fun _ => ?_, fun c => absurd c (show (¬ (1 : Int) = 0) from by decide)⟩
        have r114 : 0 ≤ (I96 235 6) ∧ (I96 235 6) ≤ 64 := Rg.f6 hR97
        have a115 : -2147483648 ≤ (I96 235 6) ∧ (I96 235 6) < 2147483648 := hA98.1 _ _
        have r116 : 0 ≤ (I96 235 7) ∧ (I96 235 7) ≤ 64 := Rg.f7 hR97
        have a117 : -2147483648 ≤ (I96 235 7) ∧ (I96 235 7) < 2147483648 := hA98.1 _ _
        have r118 : 0 ≤ (I 235 9) ∧ (I 235 9) ≤ 17 := Rg.f9 hR
        have u119 : (I8 235 9) = (I 235 9) := hW11 _ _ (by first | omega | decide)
        have a120 : -2147483648 ≤ (I 235 9) ∧ (I 235 9) < 2147483648 := hA.1 _ _
        have a121 : -2147483648 ≤ (I8 235 9) ∧ (I8 235 9) < 2147483648 := hA10.1 _ _
        have r122 : 0 ≤ (I8 235 9) ∧ (I8 235 9) ≤ 17 := Rg.f9 hR9
        have u123 : (I96 235 9) = (I8 235 9) := hW99 _ _ (by first | omega | decide)
        have a124 : -2147483648 ≤ (I96 235 9) ∧ (I96 235 9) < 2147483648 := hA98.1 _ _
        have r125 : 0 ≤ (I96 235 9) ∧ (I96 235 9) ≤ 17 := Rg.f9 hR97
        exact ⟨rfl, fun hv hA' => hQ _ (Rg.u hR97 (Pr_f rfl)) hA' (fun ka ja hk => ((uI_o (show ¬ (ka = 235 ∧ ja = 8) from by omega))).trans (((hW99 ka ja (by omega))).trans ((hW11 ka ja (by omega))))) (show (I96 235 6) ≤ (I96 235 7) from by first | omega | (simp only [wr, wl] at *; omega)) (show (I96 235 7) ≤ (I 236 2) from by first | omega | (simp only [wr, wl] at *; omega)) (show (I96 235 6) < (I 236 2) → (I96 235 6) < (I96 235 7) from by first | omega | (simp only [wr, wl] at *; omega)) (show (I 235 6) ≤ (I96 235 6) from by first | omega | (simp only [wr, wl] at *; omega)) (show 1 = 0 → (I96 235 9) = (I 235 9) + 1 ∧ (I 235 6) + 3 ≤ (I96 235 6) from by first | omega | (simp only [wr, wl] at *; omega)) (show ¬ 1 = 0 → (I96 235 9) = (I 235 9) from by first | omega | (simp only [wr, wl] at *; omega))⟩
      ·
        refine ⟨fun _ => ?_, fun c => absurd (show ((1 : Int) ≤ 5) from by decide) c⟩
        refine ⟨_, rfl, (by decide), (by decide), ?_⟩
        refine ⟨_, rfl, (by decide), ?_⟩
        refine ⟨fun c => absurd (show ((0 : Int) = 0) from by decide) c, fun _ => ?_⟩
        refine ⟨fun _ => ?_, fun c => absurd c (show (¬ (1 : Int) = 4) from by decide)⟩
        refine ⟨⟨_, rfl, (by decide)⟩, ?_⟩
        have r126 : 0 ≤ (I96 235 6) ∧ (I96 235 6) ≤ 64 := Rg.f6 hR97
        have a127 : -2147483648 ≤ (I96 235 6) ∧ (I96 235 6) < 2147483648 := hA98.1 _ _
        have r128 : 0 ≤ (I96 235 7) ∧ (I96 235 7) ≤ 64 := Rg.f7 hR97
        have a129 : -2147483648 ≤ (I96 235 7) ∧ (I96 235 7) < 2147483648 := hA98.1 _ _
        have u130 : (I96 236 2) = (I8 236 2) := hW99 _ _ (by first | omega | decide)
        have a131 : -2147483648 ≤ (I96 236 2) ∧ (I96 236 2) < 2147483648 := hA98.1 _ _
        have r132 : 0 ≤ (I96 236 2) ∧ (I96 236 2) ≤ 64 := Rg.n2 hR97
        refine r_number  hF (Rg.u hR97 (Pr_f rfl)) (show (I96 235 6) ≤ (I96 235 7) from by first | omega | (simp only [wr, wl] at *; omega)) (show (I96 235 7) ≤ (I96 236 2) from by first | omega | (simp only [wr, wl] at *; omega)) (show (I96 235 6) < (I96 236 2) → (I96 235 6) < (I96 235 7) from by first | omega | (simp only [wr, wl] at *; omega)) (fun vr133 I134 hR135 hA136 hr138 hW137 q139 q140 q141 q142 q143 q144 => ?_)
        have hr138 : -2147483648 ≤ vr133 ∧ vr133 < 2147483648 := hr138
        have q139 : vr133 ≤ 300000 := q139
        have q140 : (I134 235 6) ≤ (I134 235 7) := q140
        have q141 : (I134 235 7) ≤ (I96 236 2) := q141
        have q142 : (I134 235 6) < (I96 236 2) → (I134 235 6) < (I134 235 7) := q142
        have q143 : (I96 235 6) ≤ (I134 235 6) := q143
        have q144 : (I134 235 8) = 0 → (I96 235 6) + 1 ≤ (I134 235 6) := q144
        refine ⟨_, rfl, (by decide), ?_⟩
        have a145 : -2147483648 ≤ (I134 235 8) ∧ (I134 235 8) < 2147483648 := hA136.1 _ _
        refine ⟨fun (c146 : (¬ ((I134 235 8) : Int) = 0)) => ?_, fun (c146 : (((I134 235 8) : Int) = 0)) => ?_⟩
        ·
          have r147 : 0 ≤ (I134 235 6) ∧ (I134 235 6) ≤ 64 := Rg.f6 hR135
          have a148 : -2147483648 ≤ (I134 235 6) ∧ (I134 235 6) < 2147483648 := hA136.1 _ _
          have r149 : 0 ≤ (I134 235 7) ∧ (I134 235 7) ≤ 64 := Rg.f7 hR135
          have a150 : -2147483648 ≤ (I134 235 7) ∧ (I134 235 7) < 2147483648 := hA136.1 _ _
          have r151 : 0 ≤ (I 235 9) ∧ (I 235 9) ≤ 17 := Rg.f9 hR
          have u152 : (I8 235 9) = (I 235 9) := hW11 _ _ (by first | omega | decide)
          have a153 : -2147483648 ≤ (I 235 9) ∧ (I 235 9) < 2147483648 := hA.1 _ _
          have a154 : -2147483648 ≤ (I8 235 9) ∧ (I8 235 9) < 2147483648 := hA10.1 _ _
          have r155 : 0 ≤ (I8 235 9) ∧ (I8 235 9) ≤ 17 := Rg.f9 hR9
          have u156 : (I96 235 9) = (I8 235 9) := hW99 _ _ (by first | omega | decide)
          have a157 : -2147483648 ≤ (I96 235 9) ∧ (I96 235 9) < 2147483648 := hA98.1 _ _
          have r158 : 0 ≤ (I96 235 9) ∧ (I96 235 9) ≤ 17 := Rg.f9 hR97
          have u159 : (I134 235 9) = ((uI I96 235 8 0) 235 9) := hW137 _ _ (by first | omega | decide)
          have u160 : ((uI I96 235 8 0) 235 9) = (I96 235 9) := rfl
          have a161 : -2147483648 ≤ (I134 235 9) ∧ (I134 235 9) < 2147483648 := hA136.1 _ _
          have r162 : 0 ≤ (I134 235 9) ∧ (I134 235 9) ≤ 17 := Rg.f9 hR135
          exact ⟨rfl, fun hv hA' => hQ _ hR135 hA' (fun ka ja hk => ((hW137 ka ja (by omega))).trans (((uI_o (show ¬ (ka = 235 ∧ ja = 8) from by omega))).trans (((hW99 ka ja (by omega))).trans ((hW11 ka ja (by omega)))))) (show (I134 235 6) ≤ (I134 235 7) from by first | omega | (simp only [wr, wl] at *; omega)) (show (I134 235 7) ≤ (I 236 2) from by first | omega | (simp only [wr, wl] at *; omega)) (show (I134 235 6) < (I 236 2) → (I134 235 6) < (I134 235 7) from by first | omega | (simp only [wr, wl] at *; omega)) (show (I 235 6) ≤ (I134 235 6) from by first | omega | (simp only [wr, wl] at *; omega)) (show (I134 235 8) = 0 → (I134 235 9) = (I 235 9) + 1 ∧ (I 235 6) + 3 ≤ (I134 235 6) from by first | omega | (simp only [wr, wl] at *; omega)) (show ¬ (I134 235 8) = 0 → (I134 235 9) = (I 235 9) from by first | omega | (simp only [wr, wl] at *; omega))⟩
        ·
          refine ⟨_, rfl, (by decide), ?_⟩
          refine fun w0 hw0 => ?_; obtain rfl : w0 = some 241 := hw0.symm.trans (FS.g hF rfl)
          refine ⟨_, rfl, (by decide), ?_⟩
          have r163 : 0 ≤ (I 235 9) ∧ (I 235 9) ≤ 17 := Rg.f9 hR
          have u164 : (I8 235 9) = (I 235 9) := hW11 _ _ (by first | omega | decide)
          have a165 : -2147483648 ≤ (I 235 9) ∧ (I 235 9) < 2147483648 := hA.1 _ _
          have a166 : -2147483648 ≤ (I8 235 9) ∧ (I8 235 9) < 2147483648 := hA10.1 _ _
          have r167 : 0 ≤ (I8 235 9) ∧ (I8 235 9) ≤ 17 := Rg.f9 hR9
          have u168 : (I96 235 9) = (I8 235 9) := hW99 _ _ (by first | omega | decide)
          have a169 : -2147483648 ≤ (I96 235 9) ∧ (I96 235 9) < 2147483648 := hA98.1 _ _
          have r170 : 0 ≤ (I96 235 9) ∧ (I96 235 9) ≤ 17 := Rg.f9 hR97
          have u171 : (I134 235 9) = ((uI I96 235 8 0) 235 9) := hW137 _ _ (by first | omega | decide)
          have u172 : ((uI I96 235 8 0) 235 9) = (I96 235 9) := rfl
          have a173 : -2147483648 ≤ (I134 235 9) ∧ (I134 235 9) < 2147483648 := hA136.1 _ _
          have r174 : 0 ≤ (I134 235 9) ∧ (I134 235 9) ≤ 17 := Rg.f9 hR135
          have n175 : (wr (2 * (I134 235 9))) = 2 * (I134 235 9) := wr_id (show -2147483648 ≤ (2 * (I134 235 9) : Int) ∧ (2 * (I134 235 9) : Int) < 2147483648 from by omega)
          have n176 : (wr (2 + (wr (2 * (I134 235 9))))) = 2 + (wr (2 * (I134 235 9))) := wr_id (show -2147483648 ≤ (2 + (wr (2 * (I134 235 9))) : Int) ∧ (2 + (wr (2 * (I134 235 9))) : Int) < 2147483648 from by omega)
          refine ⟨_, rfl, (by decide), (show (0 : Int) ≤ (wr (2 + (wr (2 * (I134 235 9))))) from by first | omega | (simp only [wr, wl] at *; omega)), (show (wr (2 + (wr (2 * (I134 235 9))))) < (36 : Int) from by first | omega | (simp only [wr, wl] at *; omega)), ?_⟩
          have p177 : Pn (40 + (Int.toNat (wr (2 + (wr (2 * (I134 235 9))))))) 1 := by apply Pn_w <;> omega
          refine ⟨_, rfl, (by decide), ?_⟩
          refine fun w0 hw0 => ?_; obtain rfl : w0 = some 241 := hw0.symm.trans (FS.g hF rfl)
          refine ⟨_, rfl, (by decide), ?_⟩
          have n178 : (wr ((wr (2 + (wr (2 * (I134 235 9))))) + 1)) = (wr (2 + (wr (2 * (I134 235 9))))) + 1 := wr_id (show -2147483648 ≤ ((wr (2 + (wr (2 * (I134 235 9))))) + 1 : Int) ∧ ((wr (2 + (wr (2 * (I134 235 9))))) + 1 : Int) < 2147483648 from by omega)
          refine ⟨_, rfl, (by decide), (show (0 : Int) ≤ (wr ((wr (2 + (wr (2 * (I134 235 9))))) + 1)) from by first | omega | (simp only [wr, wl] at *; omega)), (show (wr ((wr (2 + (wr (2 * (I134 235 9))))) + 1)) < (36 : Int) from by first | omega | (simp only [wr, wl] at *; omega)), ?_⟩
          have p179 : Pn (40 + (Int.toNat (wr ((wr (2 + (wr (2 * (I134 235 9))))) + 1)))) vr133 := by apply Pn_w <;> omega
          refine ⟨_, rfl, (by decide), ?_⟩
          refine ⟨_, rfl, (by decide), ?_⟩
          have n180 : (wr ((I134 235 9) + 1)) = (I134 235 9) + 1 := wr_id (show -2147483648 ≤ ((I134 235 9) + 1 : Int) ∧ ((I134 235 9) + 1 : Int) < 2147483648 from by omega)
          have p181 : (0 : Int) ≤ (wr ((I134 235 9) + 1)) ∧ ((wr ((I134 235 9) + 1)) : Int) ≤ 17 := by first | omega | (simp only [wr, wl] at *; omega)
          have r182 : 0 ≤ (I134 235 6) ∧ (I134 235 6) ≤ 64 := Rg.f6 hR135
          have a183 : -2147483648 ≤ (I134 235 6) ∧ (I134 235 6) < 2147483648 := hA136.1 _ _
          have r184 : 0 ≤ (I134 235 7) ∧ (I134 235 7) ≤ 64 := Rg.f7 hR135
          have a185 : -2147483648 ≤ (I134 235 7) ∧ (I134 235 7) < 2147483648 := hA136.1 _ _
          exact ⟨rfl, fun hv hA' => hQ _ (Rg.u (Rg.u (Rg.u hR135 (Pr_r p177)) (Pr_r p179)) (Pr_x9 p181)) hA' (fun ka ja hk => ((uI_o (show ¬ (ka = 235 ∧ ja = 9) from by omega))).trans (((uI_o (show ¬ (ka = 241 ∧ ja = (Int.toNat (wr ((wr (2 + (wr (2 * (I134 235 9))))) + 1)))) from by omega))).trans (((uI_o (show ¬ (ka = 241 ∧ ja = (Int.toNat (wr (2 + (wr (2 * (I134 235 9))))))) from by omega))).trans (((hW137 ka ja (by omega))).trans (((uI_o (show ¬ (ka = 235 ∧ ja = 8) from by omega))).trans (((hW99 ka ja (by omega))).trans ((hW11 ka ja (by omega))))))))) (show (I134 235 6) ≤ (I134 235 7) from by first | omega | (simp only [wr, wl] at *; omega)) (show (I134 235 7) ≤ (I 236 2) from by first | omega | (simp only [wr, wl] at *; omega)) (show (I134 235 6) < (I 236 2) → (I134 235 6) < (I134 235 7) from by first | omega | (simp only [wr, wl] at *; omega)) (show (I 235 6) ≤ (I134 235 6) from by first | omega | (simp only [wr, wl] at *; omega)) (show (I134 235 8) = 0 → (wr ((I134 235 9) + 1)) = (I 235 9) + 1 ∧ (I 235 6) + 3 ≤ (I134 235 6) from by first | omega | (simp only [wr, wl] at *; omega)) (show ¬ (I134 235 8) = 0 → (wr ((I134 235 9) + 1)) = (I 235 9) from by first | omega | (simp only [wr, wl] at *; omega))⟩
    ·
      refine ⟨fun c => absurd c (show (¬ ((5 : Int) < 2)) from by decide), fun _ => ?_⟩
      refine ⟨_, rfl, (by decide), ?_⟩
      refine fun w0 hw0 => ?_; obtain rfl : w0 = some 240 := hw0.symm.trans (FS.g hF rfl)
      refine ⟨_, _, (by decide), rfl, (by decide), (by decide), (by decide), ?_⟩
      refine fun w0 hw0 => ?_; obtain rfl : w0 = some 4117 := hw0.symm.trans (FS.g hF rfl)
      refine ⟨⟨_, rfl, (by decide)⟩, ?_⟩
      have r186 : 0 ≤ (I96 235 6) ∧ (I96 235 6) ≤ 64 := Rg.f6 hR97
      have a187 : -2147483648 ≤ (I96 235 6) ∧ (I96 235 6) < 2147483648 := hA98.1 _ _
      have r188 : 0 ≤ (I96 235 7) ∧ (I96 235 7) ≤ 64 := Rg.f7 hR97
      have a189 : -2147483648 ≤ (I96 235 7) ∧ (I96 235 7) < 2147483648 := hA98.1 _ _
      have u190 : (I96 236 2) = (I8 236 2) := hW99 _ _ (by first | omega | decide)
      have a191 : -2147483648 ≤ (I96 236 2) ∧ (I96 236 2) < 2147483648 := hA98.1 _ _
      have r192 : 0 ≤ (I96 236 2) ∧ (I96 236 2) ≤ 64 := Rg.n2 hR97
      refine r_takes_11  hF hR97 (show (I96 235 6) ≤ (I96 235 7) from by first | omega | (simp only [wr, wl] at *; omega)) (show (I96 235 7) ≤ (I96 236 2) from by first | omega | (simp only [wr, wl] at *; omega)) (show (I96 235 6) < (I96 236 2) → (I96 235 6) < (I96 235 7) from by first | omega | (simp only [wr, wl] at *; omega)) (fun vr193 I194 hR195 hA196 hr198 hW197 q199 q200 q201 q202 q203 q204 q205 => ?_)
      have hr198 : -2147483648 ≤ vr193 ∧ vr193 < 2147483648 := hr198
      have q199 : vr193 = 1 → (I96 235 6) + 4 ≤ (I194 235 6) := q199
      have q200 : (I194 235 6) ≤ (I194 235 7) := q200
      have q201 : (I194 235 7) ≤ (I96 236 2) := q201
      have q202 : (I194 235 6) < (I96 236 2) → (I194 235 6) < (I194 235 7) := q202
      have q203 : (I96 235 6) ≤ (I194 235 6) := q203
      have u206 : (I96 235 8) = (I8 235 8) := hW99 _ _ (by first | omega | decide)
      have a207 : -2147483648 ≤ (I96 235 8) ∧ (I96 235 8) < 2147483648 := hA98.1 _ _
      have q204 : vr193 = 1 → (I96 235 8) = 0 := q204
      have q205 : 0 ≤ vr193 ∧ vr193 ≤ 1 := q205
      refine ⟨fun (c208 : (¬ (vr193 : Int) = 0)) => ?_, fun (c208 : ((vr193 : Int) = 0)) => ?_⟩
      ·
        refine ⟨_, rfl, (by decide), ?_⟩
        have u209 : (I194 235 8) = (I96 235 8) := hW197 _ _ (by first | omega | decide)
        have a210 : -2147483648 ≤ (I194 235 8) ∧ (I194 235 8) < 2147483648 := hA196.1 _ _
        refine ⟨fun (c211 : (¬ ((I194 235 8) : Int) = 0)) => ?_, fun (c211 : (((I194 235 8) : Int) = 0)) => ?_⟩
        ·
          refine ⟨_, rfl, (by decide), (by decide), ?_⟩
          refine ⟨_, rfl, (by decide), ?_⟩
          refine ⟨fun _ => ?_, fun c => absurd c (show (¬ (1 : Int) = 0) from by decide)⟩
          refine ⟨_, rfl, (by decide), ?_⟩
          refine ⟨fun _ => ?_, fun c => absurd c (show (¬ (1 : Int) = 0) from by decide)⟩
          have r212 : 0 ≤ (I194 235 6) ∧ (I194 235 6) ≤ 64 := Rg.f6 hR195
          have a213 : -2147483648 ≤ (I194 235 6) ∧ (I194 235 6) < 2147483648 := hA196.1 _ _
          have r214 : 0 ≤ (I194 235 7) ∧ (I194 235 7) ≤ 64 := Rg.f7 hR195
          have a215 : -2147483648 ≤ (I194 235 7) ∧ (I194 235 7) < 2147483648 := hA196.1 _ _
          have r216 : 0 ≤ (I 235 9) ∧ (I 235 9) ≤ 17 := Rg.f9 hR
          have u217 : (I8 235 9) = (I 235 9) := hW11 _ _ (by first | omega | decide)
          have a218 : -2147483648 ≤ (I 235 9) ∧ (I 235 9) < 2147483648 := hA.1 _ _
          have a219 : -2147483648 ≤ (I8 235 9) ∧ (I8 235 9) < 2147483648 := hA10.1 _ _
          have r220 : 0 ≤ (I8 235 9) ∧ (I8 235 9) ≤ 17 := Rg.f9 hR9
          have u221 : (I96 235 9) = (I8 235 9) := hW99 _ _ (by first | omega | decide)
          have a222 : -2147483648 ≤ (I96 235 9) ∧ (I96 235 9) < 2147483648 := hA98.1 _ _
          have r223 : 0 ≤ (I96 235 9) ∧ (I96 235 9) ≤ 17 := Rg.f9 hR97
          have u224 : (I194 235 9) = (I96 235 9) := hW197 _ _ (by first | omega | decide)
          have a225 : -2147483648 ≤ (I194 235 9) ∧ (I194 235 9) < 2147483648 := hA196.1 _ _
          have r226 : 0 ≤ (I194 235 9) ∧ (I194 235 9) ≤ 17 := Rg.f9 hR195
          exact ⟨rfl, fun hv hA' => hQ _ (Rg.u hR195 (Pr_f rfl)) hA' (fun ka ja hk => ((uI_o (show ¬ (ka = 235 ∧ ja = 8) from by omega))).trans (((hW197 ka ja (by omega))).trans (((hW99 ka ja (by omega))).trans ((hW11 ka ja (by omega)))))) (show (I194 235 6) ≤ (I194 235 7) from by first | omega | (simp only [wr, wl] at *; omega)) (show (I194 235 7) ≤ (I 236 2) from by first | omega | (simp only [wr, wl] at *; omega)) (show (I194 235 6) < (I 236 2) → (I194 235 6) < (I194 235 7) from by first | omega | (simp only [wr, wl] at *; omega)) (show (I 235 6) ≤ (I194 235 6) from by first | omega | (simp only [wr, wl] at *; omega)) (show 1 = 0 → (I194 235 9) = (I 235 9) + 1 ∧ (I 235 6) + 3 ≤ (I194 235 6) from by first | omega | (simp only [wr, wl] at *; omega)) (show ¬ 1 = 0 → (I194 235 9) = (I 235 9) from by first | omega | (simp only [wr, wl] at *; omega))⟩
        ·
          refine ⟨fun _ => ?_, fun c => absurd (show ((2 : Int) ≤ 5) from by decide) c⟩
          refine ⟨_, rfl, (by decide), (by decide), ?_⟩
          refine ⟨_, rfl, (by decide), ?_⟩
          refine ⟨fun c => absurd (show ((0 : Int) = 0) from by decide) c, fun _ => ?_⟩
          refine ⟨fun _ => ?_, fun c => absurd c (show (¬ (2 : Int) = 4) from by decide)⟩
          refine ⟨⟨_, rfl, (by decide)⟩, ?_⟩
          have r227 : 0 ≤ (I194 235 6) ∧ (I194 235 6) ≤ 64 := Rg.f6 hR195
          have a228 : -2147483648 ≤ (I194 235 6) ∧ (I194 235 6) < 2147483648 := hA196.1 _ _
          have r229 : 0 ≤ (I194 235 7) ∧ (I194 235 7) ≤ 64 := Rg.f7 hR195
          have a230 : -2147483648 ≤ (I194 235 7) ∧ (I194 235 7) < 2147483648 := hA196.1 _ _
          have u231 : (I194 236 2) = (I96 236 2) := hW197 _ _ (by first | omega | decide)
          have a232 : -2147483648 ≤ (I194 236 2) ∧ (I194 236 2) < 2147483648 := hA196.1 _ _
          have r233 : 0 ≤ (I194 236 2) ∧ (I194 236 2) ≤ 64 := Rg.n2 hR195
          refine r_number  hF (Rg.u hR195 (Pr_f rfl)) (show (I194 235 6) ≤ (I194 235 7) from by first | omega | (simp only [wr, wl] at *; omega)) (show (I194 235 7) ≤ (I194 236 2) from by first | omega | (simp only [wr, wl] at *; omega)) (show (I194 235 6) < (I194 236 2) → (I194 235 6) < (I194 235 7) from by first | omega | (simp only [wr, wl] at *; omega)) (fun vr234 I235 hR236 hA237 hr239 hW238 q240 q241 q242 q243 q244 q245 => ?_)
          have hr239 : -2147483648 ≤ vr234 ∧ vr234 < 2147483648 := hr239
          have q240 : vr234 ≤ 300000 := q240
          have q241 : (I235 235 6) ≤ (I235 235 7) := q241
          have q242 : (I235 235 7) ≤ (I194 236 2) := q242
          have q243 : (I235 235 6) < (I194 236 2) → (I235 235 6) < (I235 235 7) := q243
          have q244 : (I194 235 6) ≤ (I235 235 6) := q244
          have q245 : (I235 235 8) = 0 → (I194 235 6) + 1 ≤ (I235 235 6) := q245
          refine ⟨_, rfl, (by decide), ?_⟩
          have a246 : -2147483648 ≤ (I235 235 8) ∧ (I235 235 8) < 2147483648 := hA237.1 _ _
          refine ⟨fun (c247 : (¬ ((I235 235 8) : Int) = 0)) => ?_, fun (c247 : (((I235 235 8) : Int) = 0)) => ?_⟩
          ·
            have r248 : 0 ≤ (I235 235 6) ∧ (I235 235 6) ≤ 64 := Rg.f6 hR236
            have a249 : -2147483648 ≤ (I235 235 6) ∧ (I235 235 6) < 2147483648 := hA237.1 _ _
            have r250 : 0 ≤ (I235 235 7) ∧ (I235 235 7) ≤ 64 := Rg.f7 hR236
            have a251 : -2147483648 ≤ (I235 235 7) ∧ (I235 235 7) < 2147483648 := hA237.1 _ _
            have r252 : 0 ≤ (I 235 9) ∧ (I 235 9) ≤ 17 := Rg.f9 hR
            have u253 : (I8 235 9) = (I 235 9) := hW11 _ _ (by first | omega | decide)
            have a254 : -2147483648 ≤ (I 235 9) ∧ (I 235 9) < 2147483648 := hA.1 _ _
            have a255 : -2147483648 ≤ (I8 235 9) ∧ (I8 235 9) < 2147483648 := hA10.1 _ _
            have r256 : 0 ≤ (I8 235 9) ∧ (I8 235 9) ≤ 17 := Rg.f9 hR9
            have u257 : (I96 235 9) = (I8 235 9) := hW99 _ _ (by first | omega | decide)
            have a258 : -2147483648 ≤ (I96 235 9) ∧ (I96 235 9) < 2147483648 := hA98.1 _ _
            have r259 : 0 ≤ (I96 235 9) ∧ (I96 235 9) ≤ 17 := Rg.f9 hR97
            have u260 : (I194 235 9) = (I96 235 9) := hW197 _ _ (by first | omega | decide)
            have a261 : -2147483648 ≤ (I194 235 9) ∧ (I194 235 9) < 2147483648 := hA196.1 _ _
            have r262 : 0 ≤ (I194 235 9) ∧ (I194 235 9) ≤ 17 := Rg.f9 hR195
            have u263 : (I235 235 9) = ((uI I194 235 8 0) 235 9) := hW238 _ _ (by first | omega | decide)
            have u264 : ((uI I194 235 8 0) 235 9) = (I194 235 9) := rfl
            have a265 : -2147483648 ≤ (I235 235 9) ∧ (I235 235 9) < 2147483648 := hA237.1 _ _
            have r266 : 0 ≤ (I235 235 9) ∧ (I235 235 9) ≤ 17 := Rg.f9 hR236
            exact ⟨rfl, fun hv hA' => hQ _ hR236 hA' (fun ka ja hk => ((hW238 ka ja (by omega))).trans (((uI_o (show ¬ (ka = 235 ∧ ja = 8) from by omega))).trans (((hW197 ka ja (by omega))).trans (((hW99 ka ja (by omega))).trans ((hW11 ka ja (by omega))))))) (show (I235 235 6) ≤ (I235 235 7) from by first | omega | (simp only [wr, wl] at *; omega)) (show (I235 235 7) ≤ (I 236 2) from by first | omega | (simp only [wr, wl] at *; omega)) (show (I235 235 6) < (I 236 2) → (I235 235 6) < (I235 235 7) from by first | omega | (simp only [wr, wl] at *; omega)) (show (I 235 6) ≤ (I235 235 6) from by first | omega | (simp only [wr, wl] at *; omega)) (show (I235 235 8) = 0 → (I235 235 9) = (I 235 9) + 1 ∧ (I 235 6) + 3 ≤ (I235 235 6) from by first | omega | (simp only [wr, wl] at *; omega)) (show ¬ (I235 235 8) = 0 → (I235 235 9) = (I 235 9) from by first | omega | (simp only [wr, wl] at *; omega))⟩
          ·
            refine ⟨_, rfl, (by decide), ?_⟩
            refine fun w0 hw0 => ?_; obtain rfl : w0 = some 241 := hw0.symm.trans (FS.g hF rfl)
            refine ⟨_, rfl, (by decide), ?_⟩
            have r267 : 0 ≤ (I 235 9) ∧ (I 235 9) ≤ 17 := Rg.f9 hR
            have u268 : (I8 235 9) = (I 235 9) := hW11 _ _ (by first | omega | decide)
            have a269 : -2147483648 ≤ (I 235 9) ∧ (I 235 9) < 2147483648 := hA.1 _ _
            have a270 : -2147483648 ≤ (I8 235 9) ∧ (I8 235 9) < 2147483648 := hA10.1 _ _
            have r271 : 0 ≤ (I8 235 9) ∧ (I8 235 9) ≤ 17 := Rg.f9 hR9
            have u272 : (I96 235 9) = (I8 235 9) := hW99 _ _ (by first | omega | decide)
            have a273 : -2147483648 ≤ (I96 235 9) ∧ (I96 235 9) < 2147483648 := hA98.1 _ _
            have r274 : 0 ≤ (I96 235 9) ∧ (I96 235 9) ≤ 17 := Rg.f9 hR97
            have u275 : (I194 235 9) = (I96 235 9) := hW197 _ _ (by first | omega | decide)
            have a276 : -2147483648 ≤ (I194 235 9) ∧ (I194 235 9) < 2147483648 := hA196.1 _ _
            have r277 : 0 ≤ (I194 235 9) ∧ (I194 235 9) ≤ 17 := Rg.f9 hR195
            have u278 : (I235 235 9) = ((uI I194 235 8 0) 235 9) := hW238 _ _ (by first | omega | decide)
            have u279 : ((uI I194 235 8 0) 235 9) = (I194 235 9) := rfl
            have a280 : -2147483648 ≤ (I235 235 9) ∧ (I235 235 9) < 2147483648 := hA237.1 _ _
            have r281 : 0 ≤ (I235 235 9) ∧ (I235 235 9) ≤ 17 := Rg.f9 hR236
            have n282 : (wr (2 * (I235 235 9))) = 2 * (I235 235 9) := wr_id (show -2147483648 ≤ (2 * (I235 235 9) : Int) ∧ (2 * (I235 235 9) : Int) < 2147483648 from by omega)
            have n283 : (wr (2 + (wr (2 * (I235 235 9))))) = 2 + (wr (2 * (I235 235 9))) := wr_id (show -2147483648 ≤ (2 + (wr (2 * (I235 235 9))) : Int) ∧ (2 + (wr (2 * (I235 235 9))) : Int) < 2147483648 from by omega)
            refine ⟨_, rfl, (by decide), (show (0 : Int) ≤ (wr (2 + (wr (2 * (I235 235 9))))) from by first | omega | (simp only [wr, wl] at *; omega)), (show (wr (2 + (wr (2 * (I235 235 9))))) < (36 : Int) from by first | omega | (simp only [wr, wl] at *; omega)), ?_⟩
            have p284 : Pn (40 + (Int.toNat (wr (2 + (wr (2 * (I235 235 9))))))) 2 := by apply Pn_w <;> omega
            refine ⟨_, rfl, (by decide), ?_⟩
            refine fun w0 hw0 => ?_; obtain rfl : w0 = some 241 := hw0.symm.trans (FS.g hF rfl)
            refine ⟨_, rfl, (by decide), ?_⟩
            have n285 : (wr ((wr (2 + (wr (2 * (I235 235 9))))) + 1)) = (wr (2 + (wr (2 * (I235 235 9))))) + 1 := wr_id (show -2147483648 ≤ ((wr (2 + (wr (2 * (I235 235 9))))) + 1 : Int) ∧ ((wr (2 + (wr (2 * (I235 235 9))))) + 1 : Int) < 2147483648 from by omega)
            refine ⟨_, rfl, (by decide), (show (0 : Int) ≤ (wr ((wr (2 + (wr (2 * (I235 235 9))))) + 1)) from by first | omega | (simp only [wr, wl] at *; omega)), (show (wr ((wr (2 + (wr (2 * (I235 235 9))))) + 1)) < (36 : Int) from by first | omega | (simp only [wr, wl] at *; omega)), ?_⟩
            have p286 : Pn (40 + (Int.toNat (wr ((wr (2 + (wr (2 * (I235 235 9))))) + 1)))) vr234 := by apply Pn_w <;> omega
            refine ⟨_, rfl, (by decide), ?_⟩
            refine ⟨_, rfl, (by decide), ?_⟩
            have n287 : (wr ((I235 235 9) + 1)) = (I235 235 9) + 1 := wr_id (show -2147483648 ≤ ((I235 235 9) + 1 : Int) ∧ ((I235 235 9) + 1 : Int) < 2147483648 from by omega)
            have p288 : (0 : Int) ≤ (wr ((I235 235 9) + 1)) ∧ ((wr ((I235 235 9) + 1)) : Int) ≤ 17 := by first | omega | (simp only [wr, wl] at *; omega)
            have r289 : 0 ≤ (I235 235 6) ∧ (I235 235 6) ≤ 64 := Rg.f6 hR236
            have a290 : -2147483648 ≤ (I235 235 6) ∧ (I235 235 6) < 2147483648 := hA237.1 _ _
            have r291 : 0 ≤ (I235 235 7) ∧ (I235 235 7) ≤ 64 := Rg.f7 hR236
            have a292 : -2147483648 ≤ (I235 235 7) ∧ (I235 235 7) < 2147483648 := hA237.1 _ _
            exact ⟨rfl, fun hv hA' => hQ _ (Rg.u (Rg.u (Rg.u hR236 (Pr_r p284)) (Pr_r p286)) (Pr_x9 p288)) hA' (fun ka ja hk => ((uI_o (show ¬ (ka = 235 ∧ ja = 9) from by omega))).trans (((uI_o (show ¬ (ka = 241 ∧ ja = (Int.toNat (wr ((wr (2 + (wr (2 * (I235 235 9))))) + 1)))) from by omega))).trans (((uI_o (show ¬ (ka = 241 ∧ ja = (Int.toNat (wr (2 + (wr (2 * (I235 235 9))))))) from by omega))).trans (((hW238 ka ja (by omega))).trans (((uI_o (show ¬ (ka = 235 ∧ ja = 8) from by omega))).trans (((hW197 ka ja (by omega))).trans (((hW99 ka ja (by omega))).trans ((hW11 ka ja (by omega)))))))))) (show (I235 235 6) ≤ (I235 235 7) from by first | omega | (simp only [wr, wl] at *; omega)) (show (I235 235 7) ≤ (I 236 2) from by first | omega | (simp only [wr, wl] at *; omega)) (show (I235 235 6) < (I 236 2) → (I235 235 6) < (I235 235 7) from by first | omega | (simp only [wr, wl] at *; omega)) (show (I 235 6) ≤ (I235 235 6) from by first | omega | (simp only [wr, wl] at *; omega)) (show (I235 235 8) = 0 → (wr ((I235 235 9) + 1)) = (I 235 9) + 1 ∧ (I 235 6) + 3 ≤ (I235 235 6) from by first | omega | (simp only [wr, wl] at *; omega)) (show ¬ (I235 235 8) = 0 → (wr ((I235 235 9) + 1)) = (I 235 9) from by first | omega | (simp only [wr, wl] at *; omega))⟩
      ·
        refine ⟨fun c => absurd c (show (¬ ((5 : Int) < 3)) from by decide), fun _ => ?_⟩
        refine ⟨_, rfl, (by decide), ?_⟩
        refine fun w0 hw0 => ?_; obtain rfl : w0 = some 240 := hw0.symm.trans (FS.g hF rfl)
        refine ⟨_, _, (by decide), rfl, (by decide), (by decide), (by decide), ?_⟩
        refine fun w0 hw0 => ?_; obtain rfl : w0 = some 4118 := hw0.symm.trans (FS.g hF rfl)
        refine ⟨⟨_, rfl, (by decide)⟩, ?_⟩
        have r293 : 0 ≤ (I194 235 6) ∧ (I194 235 6) ≤ 64 := Rg.f6 hR195
        have a294 : -2147483648 ≤ (I194 235 6) ∧ (I194 235 6) < 2147483648 := hA196.1 _ _
        have r295 : 0 ≤ (I194 235 7) ∧ (I194 235 7) ≤ 64 := Rg.f7 hR195
        have a296 : -2147483648 ≤ (I194 235 7) ∧ (I194 235 7) < 2147483648 := hA196.1 _ _
        have u297 : (I194 236 2) = (I96 236 2) := hW197 _ _ (by first | omega | decide)
        have a298 : -2147483648 ≤ (I194 236 2) ∧ (I194 236 2) < 2147483648 := hA196.1 _ _
        have r299 : 0 ≤ (I194 236 2) ∧ (I194 236 2) ≤ 64 := Rg.n2 hR195
        refine r_takes_12  hF hR195 (show (I194 235 6) ≤ (I194 235 7) from by first | omega | (simp only [wr, wl] at *; omega)) (show (I194 235 7) ≤ (I194 236 2) from by first | omega | (simp only [wr, wl] at *; omega)) (show (I194 235 6) < (I194 236 2) → (I194 235 6) < (I194 235 7) from by first | omega | (simp only [wr, wl] at *; omega)) (fun vr300 I301 hR302 hA303 hr305 hW304 q306 q307 q308 q309 q310 q311 q312 => ?_)
        have hr305 : -2147483648 ≤ vr300 ∧ vr300 < 2147483648 := hr305
        have q306 : vr300 = 1 → (I194 235 6) + 4 ≤ (I301 235 6) := q306
        have q307 : (I301 235 6) ≤ (I301 235 7) := q307
        have q308 : (I301 235 7) ≤ (I194 236 2) := q308
        have q309 : (I301 235 6) < (I194 236 2) → (I301 235 6) < (I301 235 7) := q309
        have q310 : (I194 235 6) ≤ (I301 235 6) := q310
        have u313 : (I194 235 8) = (I96 235 8) := hW197 _ _ (by first | omega | decide)
        have a314 : -2147483648 ≤ (I194 235 8) ∧ (I194 235 8) < 2147483648 := hA196.1 _ _
        have q311 : vr300 = 1 → (I194 235 8) = 0 := q311
        have q312 : 0 ≤ vr300 ∧ vr300 ≤ 1 := q312
        refine ⟨fun (c315 : (¬ (vr300 : Int) = 0)) => ?_, fun (c315 : ((vr300 : Int) = 0)) => ?_⟩
        ·
          refine ⟨_, rfl, (by decide), ?_⟩
          have u316 : (I301 235 8) = (I194 235 8) := hW304 _ _ (by first | omega | decide)
          have a317 : -2147483648 ≤ (I301 235 8) ∧ (I301 235 8) < 2147483648 := hA303.1 _ _
          refine ⟨fun (c318 : (¬ ((I301 235 8) : Int) = 0)) => ?_, fun (c318 : (((I301 235 8) : Int) = 0)) => ?_⟩
          ·
            refine ⟨_, rfl, (by decide), (by decide), ?_⟩
            refine ⟨_, rfl, (by decide), ?_⟩
            refine ⟨fun _ => ?_, fun c => absurd c (show (¬ (1 : Int) = 0) from by decide)⟩
            refine ⟨_, rfl, (by decide), ?_⟩
            refine ⟨fun _ => ?_, fun c => absurd c (show (¬ (1 : Int) = 0) from by decide)⟩
            have r319 : 0 ≤ (I301 235 6) ∧ (I301 235 6) ≤ 64 := Rg.f6 hR302
            have a320 : -2147483648 ≤ (I301 235 6) ∧ (I301 235 6) < 2147483648 := hA303.1 _ _
            have r321 : 0 ≤ (I301 235 7) ∧ (I301 235 7) ≤ 64 := Rg.f7 hR302
            have a322 : -2147483648 ≤ (I301 235 7) ∧ (I301 235 7) < 2147483648 := hA303.1 _ _
            have r323 : 0 ≤ (I 235 9) ∧ (I 235 9) ≤ 17 := Rg.f9 hR
            have u324 : (I8 235 9) = (I 235 9) := hW11 _ _ (by first | omega | decide)
            have a325 : -2147483648 ≤ (I 235 9) ∧ (I 235 9) < 2147483648 := hA.1 _ _
            have a326 : -2147483648 ≤ (I8 235 9) ∧ (I8 235 9) < 2147483648 := hA10.1 _ _
            have r327 : 0 ≤ (I8 235 9) ∧ (I8 235 9) ≤ 17 := Rg.f9 hR9
            have u328 : (I96 235 9) = (I8 235 9) := hW99 _ _ (by first | omega | decide)
            have a329 : -2147483648 ≤ (I96 235 9) ∧ (I96 235 9) < 2147483648 := hA98.1 _ _
            have r330 : 0 ≤ (I96 235 9) ∧ (I96 235 9) ≤ 17 := Rg.f9 hR97
            have u331 : (I194 235 9) = (I96 235 9) := hW197 _ _ (by first | omega | decide)
            have a332 : -2147483648 ≤ (I194 235 9) ∧ (I194 235 9) < 2147483648 := hA196.1 _ _
            have r333 : 0 ≤ (I194 235 9) ∧ (I194 235 9) ≤ 17 := Rg.f9 hR195
            have u334 : (I301 235 9) = (I194 235 9) := hW304 _ _ (by first | omega | decide)
            have a335 : -2147483648 ≤ (I301 235 9) ∧ (I301 235 9) < 2147483648 := hA303.1 _ _
            have r336 : 0 ≤ (I301 235 9) ∧ (I301 235 9) ≤ 17 := Rg.f9 hR302
            exact ⟨rfl, fun hv hA' => hQ _ (Rg.u hR302 (Pr_f rfl)) hA' (fun ka ja hk => ((uI_o (show ¬ (ka = 235 ∧ ja = 8) from by omega))).trans (((hW304 ka ja (by omega))).trans (((hW197 ka ja (by omega))).trans (((hW99 ka ja (by omega))).trans ((hW11 ka ja (by omega))))))) (show (I301 235 6) ≤ (I301 235 7) from by first | omega | (simp only [wr, wl] at *; omega)) (show (I301 235 7) ≤ (I 236 2) from by first | omega | (simp only [wr, wl] at *; omega)) (show (I301 235 6) < (I 236 2) → (I301 235 6) < (I301 235 7) from by first | omega | (simp only [wr, wl] at *; omega)) (show (I 235 6) ≤ (I301 235 6) from by first | omega | (simp only [wr, wl] at *; omega)) (show 1 = 0 → (I301 235 9) = (I 235 9) + 1 ∧ (I 235 6) + 3 ≤ (I301 235 6) from by first | omega | (simp only [wr, wl] at *; omega)) (show ¬ 1 = 0 → (I301 235 9) = (I 235 9) from by first | omega | (simp only [wr, wl] at *; omega))⟩
          ·
            refine ⟨fun _ => ?_, fun c => absurd (show ((3 : Int) ≤ 5) from by decide) c⟩
            refine ⟨_, rfl, (by decide), (by decide), ?_⟩
            refine ⟨_, rfl, (by decide), ?_⟩
            refine ⟨fun c => absurd (show ((0 : Int) = 0) from by decide) c, fun _ => ?_⟩
            refine ⟨fun _ => ?_, fun c => absurd c (show (¬ (3 : Int) = 4) from by decide)⟩
            refine ⟨⟨_, rfl, (by decide)⟩, ?_⟩
            have r337 : 0 ≤ (I301 235 6) ∧ (I301 235 6) ≤ 64 := Rg.f6 hR302
            have a338 : -2147483648 ≤ (I301 235 6) ∧ (I301 235 6) < 2147483648 := hA303.1 _ _
            have r339 : 0 ≤ (I301 235 7) ∧ (I301 235 7) ≤ 64 := Rg.f7 hR302
            have a340 : -2147483648 ≤ (I301 235 7) ∧ (I301 235 7) < 2147483648 := hA303.1 _ _
            have u341 : (I301 236 2) = (I194 236 2) := hW304 _ _ (by first | omega | decide)
            have a342 : -2147483648 ≤ (I301 236 2) ∧ (I301 236 2) < 2147483648 := hA303.1 _ _
            have r343 : 0 ≤ (I301 236 2) ∧ (I301 236 2) ≤ 64 := Rg.n2 hR302
            refine r_number  hF (Rg.u hR302 (Pr_f rfl)) (show (I301 235 6) ≤ (I301 235 7) from by first | omega | (simp only [wr, wl] at *; omega)) (show (I301 235 7) ≤ (I301 236 2) from by first | omega | (simp only [wr, wl] at *; omega)) (show (I301 235 6) < (I301 236 2) → (I301 235 6) < (I301 235 7) from by first | omega | (simp only [wr, wl] at *; omega)) (fun vr344 I345 hR346 hA347 hr349 hW348 q350 q351 q352 q353 q354 q355 => ?_)
            have hr349 : -2147483648 ≤ vr344 ∧ vr344 < 2147483648 := hr349
            have q350 : vr344 ≤ 300000 := q350
            have q351 : (I345 235 6) ≤ (I345 235 7) := q351
            have q352 : (I345 235 7) ≤ (I301 236 2) := q352
            have q353 : (I345 235 6) < (I301 236 2) → (I345 235 6) < (I345 235 7) := q353
            have q354 : (I301 235 6) ≤ (I345 235 6) := q354
            have q355 : (I345 235 8) = 0 → (I301 235 6) + 1 ≤ (I345 235 6) := q355
            refine ⟨_, rfl, (by decide), ?_⟩
            have a356 : -2147483648 ≤ (I345 235 8) ∧ (I345 235 8) < 2147483648 := hA347.1 _ _
            refine ⟨fun (c357 : (¬ ((I345 235 8) : Int) = 0)) => ?_, fun (c357 : (((I345 235 8) : Int) = 0)) => ?_⟩
            ·
              have r358 : 0 ≤ (I345 235 6) ∧ (I345 235 6) ≤ 64 := Rg.f6 hR346
              have a359 : -2147483648 ≤ (I345 235 6) ∧ (I345 235 6) < 2147483648 := hA347.1 _ _
              have r360 : 0 ≤ (I345 235 7) ∧ (I345 235 7) ≤ 64 := Rg.f7 hR346
              have a361 : -2147483648 ≤ (I345 235 7) ∧ (I345 235 7) < 2147483648 := hA347.1 _ _
              have r362 : 0 ≤ (I 235 9) ∧ (I 235 9) ≤ 17 := Rg.f9 hR
              have u363 : (I8 235 9) = (I 235 9) := hW11 _ _ (by first | omega | decide)
              have a364 : -2147483648 ≤ (I 235 9) ∧ (I 235 9) < 2147483648 := hA.1 _ _
              have a365 : -2147483648 ≤ (I8 235 9) ∧ (I8 235 9) < 2147483648 := hA10.1 _ _
              have r366 : 0 ≤ (I8 235 9) ∧ (I8 235 9) ≤ 17 := Rg.f9 hR9
              have u367 : (I96 235 9) = (I8 235 9) := hW99 _ _ (by first | omega | decide)
              have a368 : -2147483648 ≤ (I96 235 9) ∧ (I96 235 9) < 2147483648 := hA98.1 _ _
              have r369 : 0 ≤ (I96 235 9) ∧ (I96 235 9) ≤ 17 := Rg.f9 hR97
              have u370 : (I194 235 9) = (I96 235 9) := hW197 _ _ (by first | omega | decide)
              have a371 : -2147483648 ≤ (I194 235 9) ∧ (I194 235 9) < 2147483648 := hA196.1 _ _
              have r372 : 0 ≤ (I194 235 9) ∧ (I194 235 9) ≤ 17 := Rg.f9 hR195
              have u373 : (I301 235 9) = (I194 235 9) := hW304 _ _ (by first | omega | decide)
              have a374 : -2147483648 ≤ (I301 235 9) ∧ (I301 235 9) < 2147483648 := hA303.1 _ _
              have r375 : 0 ≤ (I301 235 9) ∧ (I301 235 9) ≤ 17 := Rg.f9 hR302
              have u376 : (I345 235 9) = ((uI I301 235 8 0) 235 9) := hW348 _ _ (by first | omega | decide)
              have u377 : ((uI I301 235 8 0) 235 9) = (I301 235 9) := rfl
              have a378 : -2147483648 ≤ (I345 235 9) ∧ (I345 235 9) < 2147483648 := hA347.1 _ _
              have r379 : 0 ≤ (I345 235 9) ∧ (I345 235 9) ≤ 17 := Rg.f9 hR346
              exact ⟨rfl, fun hv hA' => hQ _ hR346 hA' (fun ka ja hk => ((hW348 ka ja (by omega))).trans (((uI_o (show ¬ (ka = 235 ∧ ja = 8) from by omega))).trans (((hW304 ka ja (by omega))).trans (((hW197 ka ja (by omega))).trans (((hW99 ka ja (by omega))).trans ((hW11 ka ja (by omega)))))))) (show (I345 235 6) ≤ (I345 235 7) from by first | omega | (simp only [wr, wl] at *; omega)) (show (I345 235 7) ≤ (I 236 2) from by first | omega | (simp only [wr, wl] at *; omega)) (show (I345 235 6) < (I 236 2) → (I345 235 6) < (I345 235 7) from by first | omega | (simp only [wr, wl] at *; omega)) (show (I 235 6) ≤ (I345 235 6) from by first | omega | (simp only [wr, wl] at *; omega)) (show (I345 235 8) = 0 → (I345 235 9) = (I 235 9) + 1 ∧ (I 235 6) + 3 ≤ (I345 235 6) from by first | omega | (simp only [wr, wl] at *; omega)) (show ¬ (I345 235 8) = 0 → (I345 235 9) = (I 235 9) from by first | omega | (simp only [wr, wl] at *; omega))⟩
            ·
              refine ⟨_, rfl, (by decide), ?_⟩
              refine fun w0 hw0 => ?_; obtain rfl : w0 = some 241 := hw0.symm.trans (FS.g hF rfl)
              refine ⟨_, rfl, (by decide), ?_⟩
              have r380 : 0 ≤ (I 235 9) ∧ (I 235 9) ≤ 17 := Rg.f9 hR
              have u381 : (I8 235 9) = (I 235 9) := hW11 _ _ (by first | omega | decide)
              have a382 : -2147483648 ≤ (I 235 9) ∧ (I 235 9) < 2147483648 := hA.1 _ _
              have a383 : -2147483648 ≤ (I8 235 9) ∧ (I8 235 9) < 2147483648 := hA10.1 _ _
              have r384 : 0 ≤ (I8 235 9) ∧ (I8 235 9) ≤ 17 := Rg.f9 hR9
              have u385 : (I96 235 9) = (I8 235 9) := hW99 _ _ (by first | omega | decide)
              have a386 : -2147483648 ≤ (I96 235 9) ∧ (I96 235 9) < 2147483648 := hA98.1 _ _
              have r387 : 0 ≤ (I96 235 9) ∧ (I96 235 9) ≤ 17 := Rg.f9 hR97
              have u388 : (I194 235 9) = (I96 235 9) := hW197 _ _ (by first | omega | decide)
              have a389 : -2147483648 ≤ (I194 235 9) ∧ (I194 235 9) < 2147483648 := hA196.1 _ _
              have r390 : 0 ≤ (I194 235 9) ∧ (I194 235 9) ≤ 17 := Rg.f9 hR195
              have u391 : (I301 235 9) = (I194 235 9) := hW304 _ _ (by first | omega | decide)
              have a392 : -2147483648 ≤ (I301 235 9) ∧ (I301 235 9) < 2147483648 := hA303.1 _ _
              have r393 : 0 ≤ (I301 235 9) ∧ (I301 235 9) ≤ 17 := Rg.f9 hR302
              have u394 : (I345 235 9) = ((uI I301 235 8 0) 235 9) := hW348 _ _ (by first | omega | decide)
              have u395 : ((uI I301 235 8 0) 235 9) = (I301 235 9) := rfl
              have a396 : -2147483648 ≤ (I345 235 9) ∧ (I345 235 9) < 2147483648 := hA347.1 _ _
              have r397 : 0 ≤ (I345 235 9) ∧ (I345 235 9) ≤ 17 := Rg.f9 hR346
              have n398 : (wr (2 * (I345 235 9))) = 2 * (I345 235 9) := wr_id (show -2147483648 ≤ (2 * (I345 235 9) : Int) ∧ (2 * (I345 235 9) : Int) < 2147483648 from by omega)
              have n399 : (wr (2 + (wr (2 * (I345 235 9))))) = 2 + (wr (2 * (I345 235 9))) := wr_id (show -2147483648 ≤ (2 + (wr (2 * (I345 235 9))) : Int) ∧ (2 + (wr (2 * (I345 235 9))) : Int) < 2147483648 from by omega)
              refine ⟨_, rfl, (by decide), (show (0 : Int) ≤ (wr (2 + (wr (2 * (I345 235 9))))) from by first | omega | (simp only [wr, wl] at *; omega)), (show (wr (2 + (wr (2 * (I345 235 9))))) < (36 : Int) from by first | omega | (simp only [wr, wl] at *; omega)), ?_⟩
              have p400 : Pn (40 + (Int.toNat (wr (2 + (wr (2 * (I345 235 9))))))) 3 := by apply Pn_w <;> omega
              refine ⟨_, rfl, (by decide), ?_⟩
              refine fun w0 hw0 => ?_; obtain rfl : w0 = some 241 := hw0.symm.trans (FS.g hF rfl)
              refine ⟨_, rfl, (by decide), ?_⟩
              have n401 : (wr ((wr (2 + (wr (2 * (I345 235 9))))) + 1)) = (wr (2 + (wr (2 * (I345 235 9))))) + 1 := wr_id (show -2147483648 ≤ ((wr (2 + (wr (2 * (I345 235 9))))) + 1 : Int) ∧ ((wr (2 + (wr (2 * (I345 235 9))))) + 1 : Int) < 2147483648 from by omega)
              refine ⟨_, rfl, (by decide), (show (0 : Int) ≤ (wr ((wr (2 + (wr (2 * (I345 235 9))))) + 1)) from by first | omega | (simp only [wr, wl] at *; omega)), (show (wr ((wr (2 + (wr (2 * (I345 235 9))))) + 1)) < (36 : Int) from by first | omega | (simp only [wr, wl] at *; omega)), ?_⟩
              have p402 : Pn (40 + (Int.toNat (wr ((wr (2 + (wr (2 * (I345 235 9))))) + 1)))) vr344 := by apply Pn_w <;> omega
              refine ⟨_, rfl, (by decide), ?_⟩
              refine ⟨_, rfl, (by decide), ?_⟩
              have n403 : (wr ((I345 235 9) + 1)) = (I345 235 9) + 1 := wr_id (show -2147483648 ≤ ((I345 235 9) + 1 : Int) ∧ ((I345 235 9) + 1 : Int) < 2147483648 from by omega)
              have p404 : (0 : Int) ≤ (wr ((I345 235 9) + 1)) ∧ ((wr ((I345 235 9) + 1)) : Int) ≤ 17 := by first | omega | (simp only [wr, wl] at *; omega)
              have r405 : 0 ≤ (I345 235 6) ∧ (I345 235 6) ≤ 64 := Rg.f6 hR346
              have a406 : -2147483648 ≤ (I345 235 6) ∧ (I345 235 6) < 2147483648 := hA347.1 _ _
              have r407 : 0 ≤ (I345 235 7) ∧ (I345 235 7) ≤ 64 := Rg.f7 hR346
              have a408 : -2147483648 ≤ (I345 235 7) ∧ (I345 235 7) < 2147483648 := hA347.1 _ _
              exact ⟨rfl, fun hv hA' => hQ _ (Rg.u (Rg.u (Rg.u hR346 (Pr_r p400)) (Pr_r p402)) (Pr_x9 p404)) hA' (fun ka ja hk => ((uI_o (show ¬ (ka = 235 ∧ ja = 9) from by omega))).trans (((uI_o (show ¬ (ka = 241 ∧ ja = (Int.toNat (wr ((wr (2 + (wr (2 * (I345 235 9))))) + 1)))) from by omega))).trans (((uI_o (show ¬ (ka = 241 ∧ ja = (Int.toNat (wr (2 + (wr (2 * (I345 235 9))))))) from by omega))).trans (((hW348 ka ja (by omega))).trans (((uI_o (show ¬ (ka = 235 ∧ ja = 8) from by omega))).trans (((hW304 ka ja (by omega))).trans (((hW197 ka ja (by omega))).trans (((hW99 ka ja (by omega))).trans ((hW11 ka ja (by omega))))))))))) (show (I345 235 6) ≤ (I345 235 7) from by first | omega | (simp only [wr, wl] at *; omega)) (show (I345 235 7) ≤ (I 236 2) from by first | omega | (simp only [wr, wl] at *; omega)) (show (I345 235 6) < (I 236 2) → (I345 235 6) < (I345 235 7) from by first | omega | (simp only [wr, wl] at *; omega)) (show (I 235 6) ≤ (I345 235 6) from by first | omega | (simp only [wr, wl] at *; omega)) (show (I345 235 8) = 0 → (wr ((I345 235 9) + 1)) = (I 235 9) + 1 ∧ (I 235 6) + 3 ≤ (I345 235 6) from by first | omega | (simp only [wr, wl] at *; omega)) (show ¬ (I345 235 8) = 0 → (wr ((I345 235 9) + 1)) = (I 235 9) from by first | omega | (simp only [wr, wl] at *; omega))⟩
        ·
          refine ⟨fun c => absurd c (show (¬ ((5 : Int) < 4)) from by decide), fun _ => ?_⟩
          refine ⟨_, rfl, (by decide), ?_⟩
          refine fun w0 hw0 => ?_; obtain rfl : w0 = some 240 := hw0.symm.trans (FS.g hF rfl)
          refine ⟨_, _, (by decide), rfl, (by decide), (by decide), (by decide), ?_⟩
          refine fun w0 hw0 => ?_; obtain rfl : w0 = some 4119 := hw0.symm.trans (FS.g hF rfl)
          refine ⟨⟨_, rfl, (by decide)⟩, ?_⟩
          have r409 : 0 ≤ (I301 235 6) ∧ (I301 235 6) ≤ 64 := Rg.f6 hR302
          have a410 : -2147483648 ≤ (I301 235 6) ∧ (I301 235 6) < 2147483648 := hA303.1 _ _
          have r411 : 0 ≤ (I301 235 7) ∧ (I301 235 7) ≤ 64 := Rg.f7 hR302
          have a412 : -2147483648 ≤ (I301 235 7) ∧ (I301 235 7) < 2147483648 := hA303.1 _ _
          have u413 : (I301 236 2) = (I194 236 2) := hW304 _ _ (by first | omega | decide)
          have a414 : -2147483648 ≤ (I301 236 2) ∧ (I301 236 2) < 2147483648 := hA303.1 _ _
          have r415 : 0 ≤ (I301 236 2) ∧ (I301 236 2) ≤ 64 := Rg.n2 hR302
          refine r_takes_13  hF hR302 (show (I301 235 6) ≤ (I301 235 7) from by first | omega | (simp only [wr, wl] at *; omega)) (show (I301 235 7) ≤ (I301 236 2) from by first | omega | (simp only [wr, wl] at *; omega)) (show (I301 235 6) < (I301 236 2) → (I301 235 6) < (I301 235 7) from by first | omega | (simp only [wr, wl] at *; omega)) (fun vr416 I417 hR418 hA419 hr421 hW420 q422 q423 q424 q425 q426 q427 q428 => ?_)
          have hr421 : -2147483648 ≤ vr416 ∧ vr416 < 2147483648 := hr421
          have q422 : vr416 = 1 → (I301 235 6) + 4 ≤ (I417 235 6) := q422
          have q423 : (I417 235 6) ≤ (I417 235 7) := q423
          have q424 : (I417 235 7) ≤ (I301 236 2) := q424
          have q425 : (I417 235 6) < (I301 236 2) → (I417 235 6) < (I417 235 7) := q425
          have q426 : (I301 235 6) ≤ (I417 235 6) := q426
          have u429 : (I301 235 8) = (I194 235 8) := hW304 _ _ (by first | omega | decide)
          have a430 : -2147483648 ≤ (I301 235 8) ∧ (I301 235 8) < 2147483648 := hA303.1 _ _
          have q427 : vr416 = 1 → (I301 235 8) = 0 := q427
          have q428 : 0 ≤ vr416 ∧ vr416 ≤ 1 := q428
          refine ⟨fun (c431 : (¬ (vr416 : Int) = 0)) => ?_, fun (c431 : ((vr416 : Int) = 0)) => ?_⟩
          ·
            refine ⟨_, rfl, (by decide), ?_⟩
            have u432 : (I417 235 8) = (I301 235 8) := hW420 _ _ (by first | omega | decide)
            have a433 : -2147483648 ≤ (I417 235 8) ∧ (I417 235 8) < 2147483648 := hA419.1 _ _
            refine ⟨fun (c434 : (¬ ((I417 235 8) : Int) = 0)) => ?_, fun (c434 : (((I417 235 8) : Int) = 0)) => ?_⟩
            ·
              refine ⟨_, rfl, (by decide), (by decide), ?_⟩
              refine ⟨_, rfl, (by decide), ?_⟩
              refine ⟨fun _ => ?_, fun c => absurd c (show (¬ (1 : Int) = 0) from by decide)⟩
              refine ⟨_, rfl, (by decide), ?_⟩
              refine ⟨fun _ => ?_, fun c => absurd c (show (¬ (1 : Int) = 0) from by decide)⟩
              have r435 : 0 ≤ (I417 235 6) ∧ (I417 235 6) ≤ 64 := Rg.f6 hR418
              have a436 : -2147483648 ≤ (I417 235 6) ∧ (I417 235 6) < 2147483648 := hA419.1 _ _
              have r437 : 0 ≤ (I417 235 7) ∧ (I417 235 7) ≤ 64 := Rg.f7 hR418
              have a438 : -2147483648 ≤ (I417 235 7) ∧ (I417 235 7) < 2147483648 := hA419.1 _ _
              have r439 : 0 ≤ (I 235 9) ∧ (I 235 9) ≤ 17 := Rg.f9 hR
              have u440 : (I8 235 9) = (I 235 9) := hW11 _ _ (by first | omega | decide)
              have a441 : -2147483648 ≤ (I 235 9) ∧ (I 235 9) < 2147483648 := hA.1 _ _
              have a442 : -2147483648 ≤ (I8 235 9) ∧ (I8 235 9) < 2147483648 := hA10.1 _ _
              have r443 : 0 ≤ (I8 235 9) ∧ (I8 235 9) ≤ 17 := Rg.f9 hR9
              have u444 : (I96 235 9) = (I8 235 9) := hW99 _ _ (by first | omega | decide)
              have a445 : -2147483648 ≤ (I96 235 9) ∧ (I96 235 9) < 2147483648 := hA98.1 _ _
              have r446 : 0 ≤ (I96 235 9) ∧ (I96 235 9) ≤ 17 := Rg.f9 hR97
              have u447 : (I194 235 9) = (I96 235 9) := hW197 _ _ (by first | omega | decide)
              have a448 : -2147483648 ≤ (I194 235 9) ∧ (I194 235 9) < 2147483648 := hA196.1 _ _
              have r449 : 0 ≤ (I194 235 9) ∧ (I194 235 9) ≤ 17 := Rg.f9 hR195
              have u450 : (I301 235 9) = (I194 235 9) := hW304 _ _ (by first | omega | decide)
              have a451 : -2147483648 ≤ (I301 235 9) ∧ (I301 235 9) < 2147483648 := hA303.1 _ _
              have r452 : 0 ≤ (I301 235 9) ∧ (I301 235 9) ≤ 17 := Rg.f9 hR302
              have u453 : (I417 235 9) = (I301 235 9) := hW420 _ _ (by first | omega | decide)
              have a454 : -2147483648 ≤ (I417 235 9) ∧ (I417 235 9) < 2147483648 := hA419.1 _ _
              have r455 : 0 ≤ (I417 235 9) ∧ (I417 235 9) ≤ 17 := Rg.f9 hR418
              exact ⟨rfl, fun hv hA' => hQ _ (Rg.u hR418 (Pr_f rfl)) hA' (fun ka ja hk => ((uI_o (show ¬ (ka = 235 ∧ ja = 8) from by omega))).trans (((hW420 ka ja (by omega))).trans (((hW304 ka ja (by omega))).trans (((hW197 ka ja (by omega))).trans (((hW99 ka ja (by omega))).trans ((hW11 ka ja (by omega)))))))) (show (I417 235 6) ≤ (I417 235 7) from by first | omega | (simp only [wr, wl] at *; omega)) (show (I417 235 7) ≤ (I 236 2) from by first | omega | (simp only [wr, wl] at *; omega)) (show (I417 235 6) < (I 236 2) → (I417 235 6) < (I417 235 7) from by first | omega | (simp only [wr, wl] at *; omega)) (show (I 235 6) ≤ (I417 235 6) from by first | omega | (simp only [wr, wl] at *; omega)) (show 1 = 0 → (I417 235 9) = (I 235 9) + 1 ∧ (I 235 6) + 3 ≤ (I417 235 6) from by first | omega | (simp only [wr, wl] at *; omega)) (show ¬ 1 = 0 → (I417 235 9) = (I 235 9) from by first | omega | (simp only [wr, wl] at *; omega))⟩
            ·
              refine ⟨fun _ => ?_, fun c => absurd (show ((4 : Int) ≤ 5) from by decide) c⟩
              refine ⟨_, rfl, (by decide), (by decide), ?_⟩
              refine ⟨_, rfl, (by decide), ?_⟩
              refine ⟨fun c => absurd (show ((0 : Int) = 0) from by decide) c, fun _ => ?_⟩
              refine ⟨fun c => absurd (show ((4 : Int) = 4) from by decide) c, fun _ => ?_⟩
              refine ⟨_, rfl, (by decide), ?_⟩
              refine ⟨fun c => absurd (show ((0 : Int) = 0) from by decide) c, fun _ => ?_⟩
              refine ⟨_, rfl, (by decide), ?_⟩
              refine fun w0 hw0 => ?_; obtain rfl : w0 = some 241 := hw0.symm.trans (FS.g hF rfl)
              refine ⟨_, rfl, (by decide), ?_⟩
              have r456 : 0 ≤ (I 235 9) ∧ (I 235 9) ≤ 17 := Rg.f9 hR
              have u457 : (I8 235 9) = (I 235 9) := hW11 _ _ (by first | omega | decide)
              have a458 : -2147483648 ≤ (I 235 9) ∧ (I 235 9) < 2147483648 := hA.1 _ _
              have a459 : -2147483648 ≤ (I8 235 9) ∧ (I8 235 9) < 2147483648 := hA10.1 _ _
              have r460 : 0 ≤ (I8 235 9) ∧ (I8 235 9) ≤ 17 := Rg.f9 hR9
              have u461 : (I96 235 9) = (I8 235 9) := hW99 _ _ (by first | omega | decide)
              have a462 : -2147483648 ≤ (I96 235 9) ∧ (I96 235 9) < 2147483648 := hA98.1 _ _
              have r463 : 0 ≤ (I96 235 9) ∧ (I96 235 9) ≤ 17 := Rg.f9 hR97
              have u464 : (I194 235 9) = (I96 235 9) := hW197 _ _ (by first | omega | decide)
              have a465 : -2147483648 ≤ (I194 235 9) ∧ (I194 235 9) < 2147483648 := hA196.1 _ _
              have r466 : 0 ≤ (I194 235 9) ∧ (I194 235 9) ≤ 17 := Rg.f9 hR195
              have u467 : (I301 235 9) = (I194 235 9) := hW304 _ _ (by first | omega | decide)
              have a468 : -2147483648 ≤ (I301 235 9) ∧ (I301 235 9) < 2147483648 := hA303.1 _ _
              have r469 : 0 ≤ (I301 235 9) ∧ (I301 235 9) ≤ 17 := Rg.f9 hR302
              have u470 : (I417 235 9) = (I301 235 9) := hW420 _ _ (by first | omega | decide)
              have a471 : -2147483648 ≤ (I417 235 9) ∧ (I417 235 9) < 2147483648 := hA419.1 _ _
              have r472 : 0 ≤ (I417 235 9) ∧ (I417 235 9) ≤ 17 := Rg.f9 hR418
              have n473 : (wr (2 * (I417 235 9))) = 2 * (I417 235 9) := wr_id (show -2147483648 ≤ (2 * (I417 235 9) : Int) ∧ (2 * (I417 235 9) : Int) < 2147483648 from by omega)
              have n474 : (wr (2 + (wr (2 * (I417 235 9))))) = 2 + (wr (2 * (I417 235 9))) := wr_id (show -2147483648 ≤ (2 + (wr (2 * (I417 235 9))) : Int) ∧ (2 + (wr (2 * (I417 235 9))) : Int) < 2147483648 from by omega)
              refine ⟨_, rfl, (by decide), (show (0 : Int) ≤ (wr (2 + (wr (2 * (I417 235 9))))) from by first | omega | (simp only [wr, wl] at *; omega)), (show (wr (2 + (wr (2 * (I417 235 9))))) < (36 : Int) from by first | omega | (simp only [wr, wl] at *; omega)), ?_⟩
              have p475 : Pn (40 + (Int.toNat (wr (2 + (wr (2 * (I417 235 9))))))) 4 := by apply Pn_w <;> omega
              refine ⟨_, rfl, (by decide), ?_⟩
              refine fun w0 hw0 => ?_; obtain rfl : w0 = some 241 := hw0.symm.trans (FS.g hF rfl)
              refine ⟨_, rfl, (by decide), ?_⟩
              have n476 : (wr ((wr (2 + (wr (2 * (I417 235 9))))) + 1)) = (wr (2 + (wr (2 * (I417 235 9))))) + 1 := wr_id (show -2147483648 ≤ ((wr (2 + (wr (2 * (I417 235 9))))) + 1 : Int) ∧ ((wr (2 + (wr (2 * (I417 235 9))))) + 1 : Int) < 2147483648 from by omega)
              refine ⟨_, rfl, (by decide), (show (0 : Int) ≤ (wr ((wr (2 + (wr (2 * (I417 235 9))))) + 1)) from by first | omega | (simp only [wr, wl] at *; omega)), (show (wr ((wr (2 + (wr (2 * (I417 235 9))))) + 1)) < (36 : Int) from by first | omega | (simp only [wr, wl] at *; omega)), ?_⟩
              have p477 : Pn (40 + (Int.toNat (wr ((wr (2 + (wr (2 * (I417 235 9))))) + 1)))) 0 := by apply Pn_w <;> omega
              refine ⟨_, rfl, (by decide), ?_⟩
              refine ⟨_, rfl, (by decide), ?_⟩
              have n478 : (wr ((I417 235 9) + 1)) = (I417 235 9) + 1 := wr_id (show -2147483648 ≤ ((I417 235 9) + 1 : Int) ∧ ((I417 235 9) + 1 : Int) < 2147483648 from by omega)
              have p479 : (0 : Int) ≤ (wr ((I417 235 9) + 1)) ∧ ((wr ((I417 235 9) + 1)) : Int) ≤ 17 := by first | omega | (simp only [wr, wl] at *; omega)
              have r480 : 0 ≤ (I417 235 6) ∧ (I417 235 6) ≤ 64 := Rg.f6 hR418
              have a481 : -2147483648 ≤ (I417 235 6) ∧ (I417 235 6) < 2147483648 := hA419.1 _ _
              have r482 : 0 ≤ (I417 235 7) ∧ (I417 235 7) ≤ 64 := Rg.f7 hR418
              have a483 : -2147483648 ≤ (I417 235 7) ∧ (I417 235 7) < 2147483648 := hA419.1 _ _
              exact ⟨rfl, fun hv hA' => hQ _ (Rg.u (Rg.u (Rg.u (Rg.u hR418 (Pr_f rfl)) (Pr_r p475)) (Pr_r p477)) (Pr_x9 p479)) hA' (fun ka ja hk => ((uI_o (show ¬ (ka = 235 ∧ ja = 9) from by omega))).trans (((uI_o (show ¬ (ka = 241 ∧ ja = (Int.toNat (wr ((wr (2 + (wr (2 * (I417 235 9))))) + 1)))) from by omega))).trans (((uI_o (show ¬ (ka = 241 ∧ ja = (Int.toNat (wr (2 + (wr (2 * (I417 235 9))))))) from by omega))).trans (((uI_o (show ¬ (ka = 235 ∧ ja = 8) from by omega))).trans (((hW420 ka ja (by omega))).trans (((hW304 ka ja (by omega))).trans (((hW197 ka ja (by omega))).trans (((hW99 ka ja (by omega))).trans ((hW11 ka ja (by omega))))))))))) (show (I417 235 6) ≤ (I417 235 7) from by first | omega | (simp only [wr, wl] at *; omega)) (show (I417 235 7) ≤ (I 236 2) from by first | omega | (simp only [wr, wl] at *; omega)) (show (I417 235 6) < (I 236 2) → (I417 235 6) < (I417 235 7) from by first | omega | (simp only [wr, wl] at *; omega)) (show (I 235 6) ≤ (I417 235 6) from by first | omega | (simp only [wr, wl] at *; omega)) (show 0 = 0 → (wr ((I417 235 9) + 1)) = (I 235 9) + 1 ∧ (I 235 6) + 3 ≤ (I417 235 6) from by first | omega | (simp only [wr, wl] at *; omega)) (show ¬ 0 = 0 → (wr ((I417 235 9) + 1)) = (I 235 9) from by first | omega | (simp only [wr, wl] at *; omega))⟩
          ·
            refine ⟨fun c => absurd c (show (¬ ((5 : Int) < 5)) from by decide), fun _ => ?_⟩
            refine ⟨_, rfl, (by decide), ?_⟩
            refine fun w0 hw0 => ?_; obtain rfl : w0 = some 240 := hw0.symm.trans (FS.g hF rfl)
            refine ⟨_, _, (by decide), rfl, (by decide), (by decide), (by decide), ?_⟩
            refine fun w0 hw0 => ?_; obtain rfl : w0 = some 4120 := hw0.symm.trans (FS.g hF rfl)
            refine ⟨⟨_, rfl, (by decide)⟩, ?_⟩
            have r484 : 0 ≤ (I417 235 6) ∧ (I417 235 6) ≤ 64 := Rg.f6 hR418
            have a485 : -2147483648 ≤ (I417 235 6) ∧ (I417 235 6) < 2147483648 := hA419.1 _ _
            have r486 : 0 ≤ (I417 235 7) ∧ (I417 235 7) ≤ 64 := Rg.f7 hR418
            have a487 : -2147483648 ≤ (I417 235 7) ∧ (I417 235 7) < 2147483648 := hA419.1 _ _
            have u488 : (I417 236 2) = (I301 236 2) := hW420 _ _ (by first | omega | decide)
            have a489 : -2147483648 ≤ (I417 236 2) ∧ (I417 236 2) < 2147483648 := hA419.1 _ _
            have r490 : 0 ≤ (I417 236 2) ∧ (I417 236 2) ≤ 64 := Rg.n2 hR418
            refine r_takes_14  hF hR418 (show (I417 235 6) ≤ (I417 235 7) from by first | omega | (simp only [wr, wl] at *; omega)) (show (I417 235 7) ≤ (I417 236 2) from by first | omega | (simp only [wr, wl] at *; omega)) (show (I417 235 6) < (I417 236 2) → (I417 235 6) < (I417 235 7) from by first | omega | (simp only [wr, wl] at *; omega)) (fun vr491 I492 hR493 hA494 hr496 hW495 q497 q498 q499 q500 q501 q502 q503 => ?_)
            have hr496 : -2147483648 ≤ vr491 ∧ vr491 < 2147483648 := hr496
            have q497 : vr491 = 1 → (I417 235 6) + 4 ≤ (I492 235 6) := q497
            have q498 : (I492 235 6) ≤ (I492 235 7) := q498
            have q499 : (I492 235 7) ≤ (I417 236 2) := q499
            have q500 : (I492 235 6) < (I417 236 2) → (I492 235 6) < (I492 235 7) := q500
            have q501 : (I417 235 6) ≤ (I492 235 6) := q501
            have u504 : (I417 235 8) = (I301 235 8) := hW420 _ _ (by first | omega | decide)
            have a505 : -2147483648 ≤ (I417 235 8) ∧ (I417 235 8) < 2147483648 := hA419.1 _ _
            have q502 : vr491 = 1 → (I417 235 8) = 0 := q502
            have q503 : 0 ≤ vr491 ∧ vr491 ≤ 1 := q503
            refine ⟨fun (c506 : (¬ (vr491 : Int) = 0)) => ?_, fun (c506 : ((vr491 : Int) = 0)) => ?_⟩
            ·
              refine ⟨_, rfl, (by decide), ?_⟩
              have u507 : (I492 235 8) = (I417 235 8) := hW495 _ _ (by first | omega | decide)
              have a508 : -2147483648 ≤ (I492 235 8) ∧ (I492 235 8) < 2147483648 := hA494.1 _ _
              refine ⟨fun (c509 : (¬ ((I492 235 8) : Int) = 0)) => ?_, fun (c509 : (((I492 235 8) : Int) = 0)) => ?_⟩
              ·
                refine ⟨_, rfl, (by decide), (by decide), ?_⟩
                refine ⟨_, rfl, (by decide), ?_⟩
                refine ⟨fun _ => ?_, fun c => absurd c (show (¬ (1 : Int) = 0) from by decide)⟩
                refine ⟨_, rfl, (by decide), ?_⟩
                refine ⟨fun _ => ?_, fun c => absurd c (show (¬ (1 : Int) = 0) from by decide)⟩
                have r510 : 0 ≤ (I492 235 6) ∧ (I492 235 6) ≤ 64 := Rg.f6 hR493
                have a511 : -2147483648 ≤ (I492 235 6) ∧ (I492 235 6) < 2147483648 := hA494.1 _ _
                have r512 : 0 ≤ (I492 235 7) ∧ (I492 235 7) ≤ 64 := Rg.f7 hR493
                have a513 : -2147483648 ≤ (I492 235 7) ∧ (I492 235 7) < 2147483648 := hA494.1 _ _
                have r514 : 0 ≤ (I 235 9) ∧ (I 235 9) ≤ 17 := Rg.f9 hR
                have u515 : (I8 235 9) = (I 235 9) := hW11 _ _ (by first | omega | decide)
                have a516 : -2147483648 ≤ (I 235 9) ∧ (I 235 9) < 2147483648 := hA.1 _ _
                have a517 : -2147483648 ≤ (I8 235 9) ∧ (I8 235 9) < 2147483648 := hA10.1 _ _
                have r518 : 0 ≤ (I8 235 9) ∧ (I8 235 9) ≤ 17 := Rg.f9 hR9
                have u519 : (I96 235 9) = (I8 235 9) := hW99 _ _ (by first | omega | decide)
                have a520 : -2147483648 ≤ (I96 235 9) ∧ (I96 235 9) < 2147483648 := hA98.1 _ _
                have r521 : 0 ≤ (I96 235 9) ∧ (I96 235 9) ≤ 17 := Rg.f9 hR97
                have u522 : (I194 235 9) = (I96 235 9) := hW197 _ _ (by first | omega | decide)
                have a523 : -2147483648 ≤ (I194 235 9) ∧ (I194 235 9) < 2147483648 := hA196.1 _ _
                have r524 : 0 ≤ (I194 235 9) ∧ (I194 235 9) ≤ 17 := Rg.f9 hR195
                have u525 : (I301 235 9) = (I194 235 9) := hW304 _ _ (by first | omega | decide)
                have a526 : -2147483648 ≤ (I301 235 9) ∧ (I301 235 9) < 2147483648 := hA303.1 _ _
                have r527 : 0 ≤ (I301 235 9) ∧ (I301 235 9) ≤ 17 := Rg.f9 hR302
                have u528 : (I417 235 9) = (I301 235 9) := hW420 _ _ (by first | omega | decide)
                have a529 : -2147483648 ≤ (I417 235 9) ∧ (I417 235 9) < 2147483648 := hA419.1 _ _
                have r530 : 0 ≤ (I417 235 9) ∧ (I417 235 9) ≤ 17 := Rg.f9 hR418
                have u531 : (I492 235 9) = (I417 235 9) := hW495 _ _ (by first | omega | decide)
                have a532 : -2147483648 ≤ (I492 235 9) ∧ (I492 235 9) < 2147483648 := hA494.1 _ _
                have r533 : 0 ≤ (I492 235 9) ∧ (I492 235 9) ≤ 17 := Rg.f9 hR493
                exact ⟨rfl, fun hv hA' => hQ _ (Rg.u hR493 (Pr_f rfl)) hA' (fun ka ja hk => ((uI_o (show ¬ (ka = 235 ∧ ja = 8) from by omega))).trans (((hW495 ka ja (by omega))).trans (((hW420 ka ja (by omega))).trans (((hW304 ka ja (by omega))).trans (((hW197 ka ja (by omega))).trans (((hW99 ka ja (by omega))).trans ((hW11 ka ja (by omega))))))))) (show (I492 235 6) ≤ (I492 235 7) from by first | omega | (simp only [wr, wl] at *; omega)) (show (I492 235 7) ≤ (I 236 2) from by first | omega | (simp only [wr, wl] at *; omega)) (show (I492 235 6) < (I 236 2) → (I492 235 6) < (I492 235 7) from by first | omega | (simp only [wr, wl] at *; omega)) (show (I 235 6) ≤ (I492 235 6) from by first | omega | (simp only [wr, wl] at *; omega)) (show 1 = 0 → (I492 235 9) = (I 235 9) + 1 ∧ (I 235 6) + 3 ≤ (I492 235 6) from by first | omega | (simp only [wr, wl] at *; omega)) (show ¬ 1 = 0 → (I492 235 9) = (I 235 9) from by first | omega | (simp only [wr, wl] at *; omega))⟩
              ·
                refine ⟨fun _ => ?_, fun c => absurd (show ((5 : Int) ≤ 5) from by decide) c⟩
                refine ⟨_, rfl, (by decide), (by decide), ?_⟩
                refine ⟨_, rfl, (by decide), ?_⟩
                refine ⟨fun c => absurd (show ((0 : Int) = 0) from by decide) c, fun _ => ?_⟩
                refine ⟨fun _ => ?_, fun c => absurd c (show (¬ (5 : Int) = 4) from by decide)⟩
                refine ⟨⟨_, rfl, (by decide)⟩, ?_⟩
                have r534 : 0 ≤ (I492 235 6) ∧ (I492 235 6) ≤ 64 := Rg.f6 hR493
                have a535 : -2147483648 ≤ (I492 235 6) ∧ (I492 235 6) < 2147483648 := hA494.1 _ _
                have r536 : 0 ≤ (I492 235 7) ∧ (I492 235 7) ≤ 64 := Rg.f7 hR493
                have a537 : -2147483648 ≤ (I492 235 7) ∧ (I492 235 7) < 2147483648 := hA494.1 _ _
                have u538 : (I492 236 2) = (I417 236 2) := hW495 _ _ (by first | omega | decide)
                have a539 : -2147483648 ≤ (I492 236 2) ∧ (I492 236 2) < 2147483648 := hA494.1 _ _
                have r540 : 0 ≤ (I492 236 2) ∧ (I492 236 2) ≤ 64 := Rg.n2 hR493
                refine r_number  hF (Rg.u hR493 (Pr_f rfl)) (show (I492 235 6) ≤ (I492 235 7) from by first | omega | (simp only [wr, wl] at *; omega)) (show (I492 235 7) ≤ (I492 236 2) from by first | omega | (simp only [wr, wl] at *; omega)) (show (I492 235 6) < (I492 236 2) → (I492 235 6) < (I492 235 7) from by first | omega | (simp only [wr, wl] at *; omega)) (fun vr541 I542 hR543 hA544 hr546 hW545 q547 q548 q549 q550 q551 q552 => ?_)
                have hr546 : -2147483648 ≤ vr541 ∧ vr541 < 2147483648 := hr546
                have q547 : vr541 ≤ 300000 := q547
                have q548 : (I542 235 6) ≤ (I542 235 7) := q548
                have q549 : (I542 235 7) ≤ (I492 236 2) := q549
                have q550 : (I542 235 6) < (I492 236 2) → (I542 235 6) < (I542 235 7) := q550
                have q551 : (I492 235 6) ≤ (I542 235 6) := q551
                have q552 : (I542 235 8) = 0 → (I492 235 6) + 1 ≤ (I542 235 6) := q552
                refine ⟨_, rfl, (by decide), ?_⟩
                have a553 : -2147483648 ≤ (I542 235 8) ∧ (I542 235 8) < 2147483648 := hA544.1 _ _
                refine ⟨fun (c554 : (¬ ((I542 235 8) : Int) = 0)) => ?_, fun (c554 : (((I542 235 8) : Int) = 0)) => ?_⟩
                ·
                  have r555 : 0 ≤ (I542 235 6) ∧ (I542 235 6) ≤ 64 := Rg.f6 hR543
                  have a556 : -2147483648 ≤ (I542 235 6) ∧ (I542 235 6) < 2147483648 := hA544.1 _ _
                  have r557 : 0 ≤ (I542 235 7) ∧ (I542 235 7) ≤ 64 := Rg.f7 hR543
                  have a558 : -2147483648 ≤ (I542 235 7) ∧ (I542 235 7) < 2147483648 := hA544.1 _ _
                  have r559 : 0 ≤ (I 235 9) ∧ (I 235 9) ≤ 17 := Rg.f9 hR
                  have u560 : (I8 235 9) = (I 235 9) := hW11 _ _ (by first | omega | decide)
                  have a561 : -2147483648 ≤ (I 235 9) ∧ (I 235 9) < 2147483648 := hA.1 _ _
                  have a562 : -2147483648 ≤ (I8 235 9) ∧ (I8 235 9) < 2147483648 := hA10.1 _ _
                  have r563 : 0 ≤ (I8 235 9) ∧ (I8 235 9) ≤ 17 := Rg.f9 hR9
                  have u564 : (I96 235 9) = (I8 235 9) := hW99 _ _ (by first | omega | decide)
                  have a565 : -2147483648 ≤ (I96 235 9) ∧ (I96 235 9) < 2147483648 := hA98.1 _ _
                  have r566 : 0 ≤ (I96 235 9) ∧ (I96 235 9) ≤ 17 := Rg.f9 hR97
                  have u567 : (I194 235 9) = (I96 235 9) := hW197 _ _ (by first | omega | decide)
                  have a568 : -2147483648 ≤ (I194 235 9) ∧ (I194 235 9) < 2147483648 := hA196.1 _ _
                  have r569 : 0 ≤ (I194 235 9) ∧ (I194 235 9) ≤ 17 := Rg.f9 hR195
                  have u570 : (I301 235 9) = (I194 235 9) := hW304 _ _ (by first | omega | decide)
                  have a571 : -2147483648 ≤ (I301 235 9) ∧ (I301 235 9) < 2147483648 := hA303.1 _ _
                  have r572 : 0 ≤ (I301 235 9) ∧ (I301 235 9) ≤ 17 := Rg.f9 hR302
                  have u573 : (I417 235 9) = (I301 235 9) := hW420 _ _ (by first | omega | decide)
                  have a574 : -2147483648 ≤ (I417 235 9) ∧ (I417 235 9) < 2147483648 := hA419.1 _ _
                  have r575 : 0 ≤ (I417 235 9) ∧ (I417 235 9) ≤ 17 := Rg.f9 hR418
                  have u576 : (I492 235 9) = (I417 235 9) := hW495 _ _ (by first | omega | decide)
                  have a577 : -2147483648 ≤ (I492 235 9) ∧ (I492 235 9) < 2147483648 := hA494.1 _ _
                  have r578 : 0 ≤ (I492 235 9) ∧ (I492 235 9) ≤ 17 := Rg.f9 hR493
                  have u579 : (I542 235 9) = ((uI I492 235 8 0) 235 9) := hW545 _ _ (by first | omega | decide)
                  have u580 : ((uI I492 235 8 0) 235 9) = (I492 235 9) := rfl
                  have a581 : -2147483648 ≤ (I542 235 9) ∧ (I542 235 9) < 2147483648 := hA544.1 _ _
                  have r582 : 0 ≤ (I542 235 9) ∧ (I542 235 9) ≤ 17 := Rg.f9 hR543
                  exact ⟨rfl, fun hv hA' => hQ _ hR543 hA' (fun ka ja hk => ((hW545 ka ja (by omega))).trans (((uI_o (show ¬ (ka = 235 ∧ ja = 8) from by omega))).trans (((hW495 ka ja (by omega))).trans (((hW420 ka ja (by omega))).trans (((hW304 ka ja (by omega))).trans (((hW197 ka ja (by omega))).trans (((hW99 ka ja (by omega))).trans ((hW11 ka ja (by omega)))))))))) (show (I542 235 6) ≤ (I542 235 7) from by first | omega | (simp only [wr, wl] at *; omega)) (show (I542 235 7) ≤ (I 236 2) from by first | omega | (simp only [wr, wl] at *; omega)) (show (I542 235 6) < (I 236 2) → (I542 235 6) < (I542 235 7) from by first | omega | (simp only [wr, wl] at *; omega)) (show (I 235 6) ≤ (I542 235 6) from by first | omega | (simp only [wr, wl] at *; omega)) (show (I542 235 8) = 0 → (I542 235 9) = (I 235 9) + 1 ∧ (I 235 6) + 3 ≤ (I542 235 6) from by first | omega | (simp only [wr, wl] at *; omega)) (show ¬ (I542 235 8) = 0 → (I542 235 9) = (I 235 9) from by first | omega | (simp only [wr, wl] at *; omega))⟩
                ·
                  refine ⟨_, rfl, (by decide), ?_⟩
                  refine fun w0 hw0 => ?_; obtain rfl : w0 = some 241 := hw0.symm.trans (FS.g hF rfl)
                  refine ⟨_, rfl, (by decide), ?_⟩
                  have r583 : 0 ≤ (I 235 9) ∧ (I 235 9) ≤ 17 := Rg.f9 hR
                  have u584 : (I8 235 9) = (I 235 9) := hW11 _ _ (by first | omega | decide)
                  have a585 : -2147483648 ≤ (I 235 9) ∧ (I 235 9) < 2147483648 := hA.1 _ _
                  have a586 : -2147483648 ≤ (I8 235 9) ∧ (I8 235 9) < 2147483648 := hA10.1 _ _
                  have r587 : 0 ≤ (I8 235 9) ∧ (I8 235 9) ≤ 17 := Rg.f9 hR9
                  have u588 : (I96 235 9) = (I8 235 9) := hW99 _ _ (by first | omega | decide)
                  have a589 : -2147483648 ≤ (I96 235 9) ∧ (I96 235 9) < 2147483648 := hA98.1 _ _
                  have r590 : 0 ≤ (I96 235 9) ∧ (I96 235 9) ≤ 17 := Rg.f9 hR97
                  have u591 : (I194 235 9) = (I96 235 9) := hW197 _ _ (by first | omega | decide)
                  have a592 : -2147483648 ≤ (I194 235 9) ∧ (I194 235 9) < 2147483648 := hA196.1 _ _
                  have r593 : 0 ≤ (I194 235 9) ∧ (I194 235 9) ≤ 17 := Rg.f9 hR195
                  have u594 : (I301 235 9) = (I194 235 9) := hW304 _ _ (by first | omega | decide)
                  have a595 : -2147483648 ≤ (I301 235 9) ∧ (I301 235 9) < 2147483648 := hA303.1 _ _
                  have r596 : 0 ≤ (I301 235 9) ∧ (I301 235 9) ≤ 17 := Rg.f9 hR302
                  have u597 : (I417 235 9) = (I301 235 9) := hW420 _ _ (by first | omega | decide)
                  have a598 : -2147483648 ≤ (I417 235 9) ∧ (I417 235 9) < 2147483648 := hA419.1 _ _
                  have r599 : 0 ≤ (I417 235 9) ∧ (I417 235 9) ≤ 17 := Rg.f9 hR418
                  have u600 : (I492 235 9) = (I417 235 9) := hW495 _ _ (by first | omega | decide)
                  have a601 : -2147483648 ≤ (I492 235 9) ∧ (I492 235 9) < 2147483648 := hA494.1 _ _
                  have r602 : 0 ≤ (I492 235 9) ∧ (I492 235 9) ≤ 17 := Rg.f9 hR493
                  have u603 : (I542 235 9) = ((uI I492 235 8 0) 235 9) := hW545 _ _ (by first | omega | decide)
                  have u604 : ((uI I492 235 8 0) 235 9) = (I492 235 9) := rfl
                  have a605 : -2147483648 ≤ (I542 235 9) ∧ (I542 235 9) < 2147483648 := hA544.1 _ _
                  have r606 : 0 ≤ (I542 235 9) ∧ (I542 235 9) ≤ 17 := Rg.f9 hR543
                  have n607 : (wr (2 * (I542 235 9))) = 2 * (I542 235 9) := wr_id (show -2147483648 ≤ (2 * (I542 235 9) : Int) ∧ (2 * (I542 235 9) : Int) < 2147483648 from by omega)
                  have n608 : (wr (2 + (wr (2 * (I542 235 9))))) = 2 + (wr (2 * (I542 235 9))) := wr_id (show -2147483648 ≤ (2 + (wr (2 * (I542 235 9))) : Int) ∧ (2 + (wr (2 * (I542 235 9))) : Int) < 2147483648 from by omega)
                  refine ⟨_, rfl, (by decide), (show (0 : Int) ≤ (wr (2 + (wr (2 * (I542 235 9))))) from by first | omega | (simp only [wr, wl] at *; omega)), (show (wr (2 + (wr (2 * (I542 235 9))))) < (36 : Int) from by first | omega | (simp only [wr, wl] at *; omega)), ?_⟩
                  have p609 : Pn (40 + (Int.toNat (wr (2 + (wr (2 * (I542 235 9))))))) 5 := by apply Pn_w <;> omega
                  refine ⟨_, rfl, (by decide), ?_⟩
                  refine fun w0 hw0 => ?_; obtain rfl : w0 = some 241 := hw0.symm.trans (FS.g hF rfl)
                  refine ⟨_, rfl, (by decide), ?_⟩
                  have n610 : (wr ((wr (2 + (wr (2 * (I542 235 9))))) + 1)) = (wr (2 + (wr (2 * (I542 235 9))))) + 1 := wr_id (show -2147483648 ≤ ((wr (2 + (wr (2 * (I542 235 9))))) + 1 : Int) ∧ ((wr (2 + (wr (2 * (I542 235 9))))) + 1 : Int) < 2147483648 from by omega)
                  refine ⟨_, rfl, (by decide), (show (0 : Int) ≤ (wr ((wr (2 + (wr (2 * (I542 235 9))))) + 1)) from by first | omega | (simp only [wr, wl] at *; omega)), (show (wr ((wr (2 + (wr (2 * (I542 235 9))))) + 1)) < (36 : Int) from by first | omega | (simp only [wr, wl] at *; omega)), ?_⟩
                  have p611 : Pn (40 + (Int.toNat (wr ((wr (2 + (wr (2 * (I542 235 9))))) + 1)))) vr541 := by apply Pn_w <;> omega
                  refine ⟨_, rfl, (by decide), ?_⟩
                  refine ⟨_, rfl, (by decide), ?_⟩
                  have n612 : (wr ((I542 235 9) + 1)) = (I542 235 9) + 1 := wr_id (show -2147483648 ≤ ((I542 235 9) + 1 : Int) ∧ ((I542 235 9) + 1 : Int) < 2147483648 from by omega)
                  have p613 : (0 : Int) ≤ (wr ((I542 235 9) + 1)) ∧ ((wr ((I542 235 9) + 1)) : Int) ≤ 17 := by first | omega | (simp only [wr, wl] at *; omega)
                  have r614 : 0 ≤ (I542 235 6) ∧ (I542 235 6) ≤ 64 := Rg.f6 hR543
                  have a615 : -2147483648 ≤ (I542 235 6) ∧ (I542 235 6) < 2147483648 := hA544.1 _ _
                  have r616 : 0 ≤ (I542 235 7) ∧ (I542 235 7) ≤ 64 := Rg.f7 hR543
                  have a617 : -2147483648 ≤ (I542 235 7) ∧ (I542 235 7) < 2147483648 := hA544.1 _ _
                  exact ⟨rfl, fun hv hA' => hQ _ (Rg.u (Rg.u (Rg.u hR543 (Pr_r p609)) (Pr_r p611)) (Pr_x9 p613)) hA' (fun ka ja hk => ((uI_o (show ¬ (ka = 235 ∧ ja = 9) from by omega))).trans (((uI_o (show ¬ (ka = 241 ∧ ja = (Int.toNat (wr ((wr (2 + (wr (2 * (I542 235 9))))) + 1)))) from by omega))).trans (((uI_o (show ¬ (ka = 241 ∧ ja = (Int.toNat (wr (2 + (wr (2 * (I542 235 9))))))) from by omega))).trans (((hW545 ka ja (by omega))).trans (((uI_o (show ¬ (ka = 235 ∧ ja = 8) from by omega))).trans (((hW495 ka ja (by omega))).trans (((hW420 ka ja (by omega))).trans (((hW304 ka ja (by omega))).trans (((hW197 ka ja (by omega))).trans (((hW99 ka ja (by omega))).trans ((hW11 ka ja (by omega))))))))))))) (show (I542 235 6) ≤ (I542 235 7) from by first | omega | (simp only [wr, wl] at *; omega)) (show (I542 235 7) ≤ (I 236 2) from by first | omega | (simp only [wr, wl] at *; omega)) (show (I542 235 6) < (I 236 2) → (I542 235 6) < (I542 235 7) from by first | omega | (simp only [wr, wl] at *; omega)) (show (I 235 6) ≤ (I542 235 6) from by first | omega | (simp only [wr, wl] at *; omega)) (show (I542 235 8) = 0 → (wr ((I542 235 9) + 1)) = (I 235 9) + 1 ∧ (I 235 6) + 3 ≤ (I542 235 6) from by first | omega | (simp only [wr, wl] at *; omega)) (show ¬ (I542 235 8) = 0 → (wr ((I542 235 9) + 1)) = (I 235 9) from by first | omega | (simp only [wr, wl] at *; omega))⟩
            ·
              refine ⟨fun _ => ?_, fun c => absurd (show ((5 : Int) < 6) from by decide) c⟩
              refine ⟨_, rfl, (by decide), ?_⟩
              have u618 : (I492 235 8) = (I417 235 8) := hW495 _ _ (by first | omega | decide)
              have a619 : -2147483648 ≤ (I492 235 8) ∧ (I492 235 8) < 2147483648 := hA494.1 _ _
              refine ⟨fun (c620 : (¬ ((I492 235 8) : Int) = 0)) => ?_, fun (c620 : (((I492 235 8) : Int) = 0)) => ?_⟩
              ·
                refine ⟨_, rfl, (by decide), (by decide), ?_⟩
                refine ⟨_, rfl, (by decide), ?_⟩
                refine ⟨fun _ => ?_, fun c => absurd c (show (¬ (1 : Int) = 0) from by decide)⟩
                refine ⟨_, rfl, (by decide), ?_⟩
                refine ⟨fun _ => ?_, fun c => absurd c (show (¬ (1 : Int) = 0) from by decide)⟩
                have r621 : 0 ≤ (I492 235 6) ∧ (I492 235 6) ≤ 64 := Rg.f6 hR493
                have a622 : -2147483648 ≤ (I492 235 6) ∧ (I492 235 6) < 2147483648 := hA494.1 _ _
                have r623 : 0 ≤ (I492 235 7) ∧ (I492 235 7) ≤ 64 := Rg.f7 hR493
                have a624 : -2147483648 ≤ (I492 235 7) ∧ (I492 235 7) < 2147483648 := hA494.1 _ _
                have r625 : 0 ≤ (I 235 9) ∧ (I 235 9) ≤ 17 := Rg.f9 hR
                have u626 : (I8 235 9) = (I 235 9) := hW11 _ _ (by first | omega | decide)
                have a627 : -2147483648 ≤ (I 235 9) ∧ (I 235 9) < 2147483648 := hA.1 _ _
                have a628 : -2147483648 ≤ (I8 235 9) ∧ (I8 235 9) < 2147483648 := hA10.1 _ _
                have r629 : 0 ≤ (I8 235 9) ∧ (I8 235 9) ≤ 17 := Rg.f9 hR9
                have u630 : (I96 235 9) = (I8 235 9) := hW99 _ _ (by first | omega | decide)
                have a631 : -2147483648 ≤ (I96 235 9) ∧ (I96 235 9) < 2147483648 := hA98.1 _ _
                have r632 : 0 ≤ (I96 235 9) ∧ (I96 235 9) ≤ 17 := Rg.f9 hR97
                have u633 : (I194 235 9) = (I96 235 9) := hW197 _ _ (by first | omega | decide)
                have a634 : -2147483648 ≤ (I194 235 9) ∧ (I194 235 9) < 2147483648 := hA196.1 _ _
                have r635 : 0 ≤ (I194 235 9) ∧ (I194 235 9) ≤ 17 := Rg.f9 hR195
                have u636 : (I301 235 9) = (I194 235 9) := hW304 _ _ (by first | omega | decide)
                have a637 : -2147483648 ≤ (I301 235 9) ∧ (I301 235 9) < 2147483648 := hA303.1 _ _
                have r638 : 0 ≤ (I301 235 9) ∧ (I301 235 9) ≤ 17 := Rg.f9 hR302
                have u639 : (I417 235 9) = (I301 235 9) := hW420 _ _ (by first | omega | decide)
                have a640 : -2147483648 ≤ (I417 235 9) ∧ (I417 235 9) < 2147483648 := hA419.1 _ _
                have r641 : 0 ≤ (I417 235 9) ∧ (I417 235 9) ≤ 17 := Rg.f9 hR418
                have u642 : (I492 235 9) = (I417 235 9) := hW495 _ _ (by first | omega | decide)
                have a643 : -2147483648 ≤ (I492 235 9) ∧ (I492 235 9) < 2147483648 := hA494.1 _ _
                have r644 : 0 ≤ (I492 235 9) ∧ (I492 235 9) ≤ 17 := Rg.f9 hR493
                exact ⟨rfl, fun hv hA' => hQ _ (Rg.u hR493 (Pr_f rfl)) hA' (fun ka ja hk => ((uI_o (show ¬ (ka = 235 ∧ ja = 8) from by omega))).trans (((hW495 ka ja (by omega))).trans (((hW420 ka ja (by omega))).trans (((hW304 ka ja (by omega))).trans (((hW197 ka ja (by omega))).trans (((hW99 ka ja (by omega))).trans ((hW11 ka ja (by omega))))))))) (show (I492 235 6) ≤ (I492 235 7) from by first | omega | (simp only [wr, wl] at *; omega)) (show (I492 235 7) ≤ (I 236 2) from by first | omega | (simp only [wr, wl] at *; omega)) (show (I492 235 6) < (I 236 2) → (I492 235 6) < (I492 235 7) from by first | omega | (simp only [wr, wl] at *; omega)) (show (I 235 6) ≤ (I492 235 6) from by first | omega | (simp only [wr, wl] at *; omega)) (show 1 = 0 → (I492 235 9) = (I 235 9) + 1 ∧ (I 235 6) + 3 ≤ (I492 235 6) from by first | omega | (simp only [wr, wl] at *; omega)) (show ¬ 1 = 0 → (I492 235 9) = (I 235 9) from by first | omega | (simp only [wr, wl] at *; omega))⟩
              ·
                refine ⟨fun c => absurd c (show (¬ ((6 : Int) ≤ 5)) from by decide), fun _ => ?_⟩
                refine ⟨_, rfl, (by decide), (by decide), ?_⟩
                refine ⟨_, rfl, (by decide), ?_⟩
                refine ⟨fun _ => ?_, fun c => absurd c (show (¬ (1 : Int) = 0) from by decide)⟩
                refine ⟨_, rfl, (by decide), ?_⟩
                refine ⟨fun _ => ?_, fun c => absurd c (show (¬ (1 : Int) = 0) from by decide)⟩
                have r645 : 0 ≤ (I492 235 6) ∧ (I492 235 6) ≤ 64 := Rg.f6 hR493
                have a646 : -2147483648 ≤ (I492 235 6) ∧ (I492 235 6) < 2147483648 := hA494.1 _ _
                have r647 : 0 ≤ (I492 235 7) ∧ (I492 235 7) ≤ 64 := Rg.f7 hR493
                have a648 : -2147483648 ≤ (I492 235 7) ∧ (I492 235 7) < 2147483648 := hA494.1 _ _
                have r649 : 0 ≤ (I 235 9) ∧ (I 235 9) ≤ 17 := Rg.f9 hR
                have u650 : (I8 235 9) = (I 235 9) := hW11 _ _ (by first | omega | decide)
                have a651 : -2147483648 ≤ (I 235 9) ∧ (I 235 9) < 2147483648 := hA.1 _ _
                have a652 : -2147483648 ≤ (I8 235 9) ∧ (I8 235 9) < 2147483648 := hA10.1 _ _
                have r653 : 0 ≤ (I8 235 9) ∧ (I8 235 9) ≤ 17 := Rg.f9 hR9
                have u654 : (I96 235 9) = (I8 235 9) := hW99 _ _ (by first | omega | decide)
                have a655 : -2147483648 ≤ (I96 235 9) ∧ (I96 235 9) < 2147483648 := hA98.1 _ _
                have r656 : 0 ≤ (I96 235 9) ∧ (I96 235 9) ≤ 17 := Rg.f9 hR97
                have u657 : (I194 235 9) = (I96 235 9) := hW197 _ _ (by first | omega | decide)
                have a658 : -2147483648 ≤ (I194 235 9) ∧ (I194 235 9) < 2147483648 := hA196.1 _ _
                have r659 : 0 ≤ (I194 235 9) ∧ (I194 235 9) ≤ 17 := Rg.f9 hR195
                have u660 : (I301 235 9) = (I194 235 9) := hW304 _ _ (by first | omega | decide)
                have a661 : -2147483648 ≤ (I301 235 9) ∧ (I301 235 9) < 2147483648 := hA303.1 _ _
                have r662 : 0 ≤ (I301 235 9) ∧ (I301 235 9) ≤ 17 := Rg.f9 hR302
                have u663 : (I417 235 9) = (I301 235 9) := hW420 _ _ (by first | omega | decide)
                have a664 : -2147483648 ≤ (I417 235 9) ∧ (I417 235 9) < 2147483648 := hA419.1 _ _
                have r665 : 0 ≤ (I417 235 9) ∧ (I417 235 9) ≤ 17 := Rg.f9 hR418
                have u666 : (I492 235 9) = (I417 235 9) := hW495 _ _ (by first | omega | decide)
                have a667 : -2147483648 ≤ (I492 235 9) ∧ (I492 235 9) < 2147483648 := hA494.1 _ _
                have r668 : 0 ≤ (I492 235 9) ∧ (I492 235 9) ≤ 17 := Rg.f9 hR493
                exact ⟨rfl, fun hv hA' => hQ _ (Rg.u hR493 (Pr_f rfl)) hA' (fun ka ja hk => ((uI_o (show ¬ (ka = 235 ∧ ja = 8) from by omega))).trans (((hW495 ka ja (by omega))).trans (((hW420 ka ja (by omega))).trans (((hW304 ka ja (by omega))).trans (((hW197 ka ja (by omega))).trans (((hW99 ka ja (by omega))).trans ((hW11 ka ja (by omega))))))))) (show (I492 235 6) ≤ (I492 235 7) from by first | omega | (simp only [wr, wl] at *; omega)) (show (I492 235 7) ≤ (I 236 2) from by first | omega | (simp only [wr, wl] at *; omega)) (show (I492 235 6) < (I 236 2) → (I492 235 6) < (I492 235 7) from by first | omega | (simp only [wr, wl] at *; omega)) (show (I 235 6) ≤ (I492 235 6) from by first | omega | (simp only [wr, wl] at *; omega)) (show 1 = 0 → (I492 235 9) = (I 235 9) + 1 ∧ (I 235 6) + 3 ≤ (I492 235 6) from by first | omega | (simp only [wr, wl] at *; omega)) (show ¬ 1 = 0 → (I492 235 9) = (I 235 9) from by first | omega | (simp only [wr, wl] at *; omega))⟩
theorem r_program_l2 (hF : FS F) (hR : Rg I) {v0 : Int} (hp : 0 ≤ v0 ∧ v0 ≤ 3) (hQ : ∀ (r : Int) (I' : pI), Rg I' → (∀ k j, ¬ ((k = 235 ∧ (j = 6 ∨ j = 7 ∨ j = 8 ∨ j = 9)) ∨ k = 241 ∨ k = 238 ∨ (k = 236 ∧ (j = 2 ∨ (40 ≤ j ∧ j < 184)))) → I' k j = I k j) → Q (some (vi r)) F I') : ∀ (mz : Nat) (fi b k : Int) (J : pI), Rg J → (∀ k j, ¬ ((k = 235 ∧ (j = 6 ∨ j = 7 ∨ j = 8 ∨ j = 9)) ∨ k = 241 ∨ k = 238 ∨ (k = 236 ∧ (j = 2 ∨ (40 ≤ j ∧ j < 184)))) → J k j = I k j) → ((0 : Int) ≤ fi) → ((fi : Int) ≤ 17) → ((0 : Int) ≤ k) → ((k : Int) ≤ 36) → (36 - k).toNat < mz → GoN G d kX12_program NP NP 169 [some (vr 235), some (vi v0), some (vi fi), some (vi b), some (vi k)] [] F J Q := by
  intro mz
  induction mz with
  | zero => intro fi b k J hJ hV _ _ _ _ h; exact absurd h (Nat.not_lt_zero _)
  | succ mz ih =>
    intro fi b k J hJ hV c100 c101 c102 c103 hm
    refine GoN_in (fun hok hA => ?_)
    have iiv0 : -2147483648 ≤ v0 ∧ v0 < 2147483648 := hok 1 _ rfl
    have iifi : -2147483648 ≤ fi ∧ fi < 2147483648 := hok 2 _ rfl
    have iib : -2147483648 ≤ b ∧ b < 2147483648 := hok 3 _ rfl
    have iik : -2147483648 ≤ k ∧ k < 2147483648 := hok 4 _ rfl
    refine Go_wp (by decide) ckX12_program [169] ?_
    refine ⟨fun (c1 : ((36 : Int) ≤ k)) => ?_, fun (c1 : (¬ ((36 : Int) ≤ k))) => ?_⟩
    ·
      refine ⟨_, rfl, (by decide), ?_⟩
      have r2 : 0 ≤ (J 235 9) ∧ (J 235 9) ≤ 17 := Rg.f9 hJ
      exact ⟨rfl, hQ _ _ hJ (fun ka ja hk => (hV ka ja (by omega)))⟩
    ·
      refine ⟨_, rfl, (by decide), ?_⟩
      refine fun w0 hw0 => ?_; obtain rfl : w0 = some 236 := hw0.symm.trans (FS.g hF rfl)
      refine ⟨_, rfl, (by decide), ?_⟩
      refine fun w0 hw0 => ?_; obtain rfl : w0 = some 241 := hw0.symm.trans (FS.g hF rfl)
      refine ⟨_, rfl, (by decide), (show (0 : Int) ≤ k from by first | omega | (simp only [wr, wl] at *; omega)), (show k < (36 : Int) from by first | omega | (simp only [wr, wl] at *; omega)), ?_⟩
      have n3 : (wr (36 * v0)) = 36 * v0 := wr_id (show -2147483648 ≤ (36 * v0 : Int) ∧ (36 * v0 : Int) < 2147483648 from by omega)
      have n4 : (wr (40 + (wr (36 * v0)))) = 40 + (wr (36 * v0)) := wr_id (show -2147483648 ≤ (40 + (wr (36 * v0)) : Int) ∧ (40 + (wr (36 * v0)) : Int) < 2147483648 from by omega)
      have n5 : (wr ((wr (40 + (wr (36 * v0)))) + k)) = (wr (40 + (wr (36 * v0)))) + k := wr_id (show -2147483648 ≤ ((wr (40 + (wr (36 * v0)))) + k : Int) ∧ ((wr (40 + (wr (36 * v0)))) + k : Int) < 2147483648 from by omega)
      refine ⟨_, rfl, (by decide), (show (0 : Int) ≤ (wr ((wr (40 + (wr (36 * v0)))) + k)) from by first | omega | (simp only [wr, wl] at *; omega)), (show (wr ((wr (40 + (wr (36 * v0)))) + k)) < (1340 : Int) from by first | omega | (simp only [wr, wl] at *; omega)), ?_⟩
      have n6 : (wr (k + 1)) = k + 1 := wr_id (show -2147483648 ≤ (k + 1 : Int) ∧ (k + 1 : Int) < 2147483648 from by omega)
      exact ih fi b (wr (k + 1)) (uI J 236 (Int.toNat (wr ((wr (40 + (wr (36 * v0)))) + k))) (J 241 (Int.toNat k))) (Rg.u hJ (Pr_n (by have := Pn_sh (p := Int.toNat v0) (k := Int.toNat k) (by omega) (by omega) (hJ.r (Int.toNat k) (by omega)); rwa [show 40 + 36 * Int.toNat v0 + Int.toNat k = (Int.toNat (wr ((wr (40 + (wr (36 * v0)))) + k))) from by omega] at this))) (fun ka ja hk => ((uI_o (show ¬ (ka = 236 ∧ ja = (Int.toNat (wr ((wr (40 + (wr (36 * v0)))) + k)))) from by omega))).trans ((hV ka ja (by omega)))) (show (0 : Int) ≤ fi from by first | omega | (simp only [wr, wl] at *; omega)) (show (fi : Int) ≤ 17 from by first | omega | (simp only [wr, wl] at *; omega)) (show (0 : Int) ≤ (wr (k + 1)) from by first | omega | (simp only [wr, wl] at *; omega)) (show ((wr (k + 1)) : Int) ≤ 36 from by first | omega | (simp only [wr, wl] at *; omega)) (show (36 - (wr (k + 1))).toNat < mz from by omega)
theorem r_program_l1 (hF : FS F) (hR : Rg I) {v0 : Int} (hp : 0 ≤ v0 ∧ v0 ≤ 3) (hQ : ∀ (r : Int) (I' : pI), Rg I' → (∀ k j, ¬ ((k = 235 ∧ (j = 6 ∨ j = 7 ∨ j = 8 ∨ j = 9)) ∨ k = 241 ∨ k = 238 ∨ (k = 236 ∧ (j = 2 ∨ (40 ≤ j ∧ j < 184)))) → I' k j = I k j) → Q (some (vi r)) F I') : ∀ (mz : Nat) (q b : Int) (J : pI), Rg J → (∀ k j, ¬ ((k = 235 ∧ (j = 6 ∨ j = 7 ∨ j = 8 ∨ j = 9)) ∨ k = 241 ∨ k = 238 ∨ (k = 236 ∧ (j = 2 ∨ (40 ≤ j ∧ j < 184)))) → J k j = I k j) → ((0 : Int) ≤ q) → ((q : Int) ≤ 17) → ((J 235 6) ≤ (J 235 7)) → ((J 235 7) ≤ (J 236 2)) → ((J 235 6) < (J 236 2) → (J 235 6) < (J 235 7)) → ((J 235 8) = 0 → 4 * (J 235 9) ≤ (J 235 6) + 1) → (65 - (J 235 6)).toNat < mz → GoN G (d + 6) kX12_program NP NP 42 [some (vr 235), some (vi v0), some (vi q), some (vi b), none] [] F J Q := by
  intro mz
  induction mz with
  | zero => intro q b J hJ hV _ _ _ _ _ _ h; exact absurd h (Nat.not_lt_zero _)
  | succ mz ih =>
    intro q b J hJ hV c100 c101 c102 c103 c104 c105 hm
    refine GoN_in (fun hok hA => ?_)
    have iiv0 : -2147483648 ≤ v0 ∧ v0 < 2147483648 := hok 1 _ rfl
    have iiq : -2147483648 ≤ q ∧ q < 2147483648 := hok 2 _ rfl
    have iib : -2147483648 ≤ b ∧ b < 2147483648 := hok 3 _ rfl
    have r1 : 0 ≤ (J 235 6) ∧ (J 235 6) ≤ 64 := Rg.f6 hJ
    have a2 : -2147483648 ≤ (J 235 6) ∧ (J 235 6) < 2147483648 := hA.1 _ _
    have r3 : 0 ≤ (J 235 7) ∧ (J 235 7) ≤ 64 := Rg.f7 hJ
    have a4 : -2147483648 ≤ (J 235 7) ∧ (J 235 7) < 2147483648 := hA.1 _ _
    have a5 : -2147483648 ≤ (J 235 8) ∧ (J 235 8) < 2147483648 := hA.1 _ _
    have r6 : 0 ≤ (J 235 9) ∧ (J 235 9) ≤ 17 := Rg.f9 hJ
    have a7 : -2147483648 ≤ (J 235 9) ∧ (J 235 9) < 2147483648 := hA.1 _ _
    have r8 : 0 ≤ (J 236 2) ∧ (J 236 2) ≤ 64 := Rg.n2 hJ
    have a9 : -2147483648 ≤ (J 236 2) ∧ (J 236 2) < 2147483648 := hA.1 _ _
    refine Go_wp (by decide) ckX12_program [42, 169] ?_
    refine ⟨fun (c10 : ((b : Int) = 0)) => ?_, fun (c10 : (¬ ((b : Int) = 0))) => ?_⟩
    ·
      refine ⟨⟨_, rfl, (by decide)⟩, ?_⟩
      refine r_takes_16  hF hJ (show (J 235 6) ≤ (J 235 7) from by first | omega | (simp only [wr, wl] at *; omega)) (show (J 235 7) ≤ (J 236 2) from by first | omega | (simp only [wr, wl] at *; omega)) (show (J 235 6) < (J 236 2) → (J 235 6) < (J 235 7) from by first | omega | (simp only [wr, wl] at *; omega)) (fun vr11 I12 hR13 hA14 hr16 hW15 q17 q18 q19 q20 q21 q22 q23 => ?_)
      have hr16 : -2147483648 ≤ vr11 ∧ vr11 < 2147483648 := hr16
      have q17 : vr11 = 1 → (J 235 6) + 1 ≤ (I12 235 6) := q17
      have q18 : (I12 235 6) ≤ (I12 235 7) := q18
      have q19 : (I12 235 7) ≤ (J 236 2) := q19
      have q20 : (I12 235 6) < (J 236 2) → (I12 235 6) < (I12 235 7) := q20
      have q21 : (J 235 6) ≤ (I12 235 6) := q21
      have q22 : vr11 = 1 → (J 235 8) = 0 := q22
      have q23 : 0 ≤ vr11 ∧ vr11 ≤ 1 := q23
      refine ⟨fun (c24 : ((vr11 : Int) = 0)) => ?_, fun (c24 : (¬ ((vr11 : Int) = 0))) => ?_⟩
      ·
        refine ⟨_, rfl, (by decide), ?_⟩
        have u25 : (I12 235 8) = (J 235 8) := hW15 _ _ (by first | omega | decide)
        have a26 : -2147483648 ≤ (I12 235 8) ∧ (I12 235 8) < 2147483648 := hA14.1 _ _
        refine ⟨fun (c27 : (¬ ((I12 235 8) : Int) = 0)) => ?_, fun (c27 : (((I12 235 8) : Int) = 0)) => ?_⟩
        ·
          refine ⟨_, rfl, (by decide), (by decide), ?_⟩
          refine ⟨_, rfl, (by decide), ?_⟩
          refine fun w0 hw0 => ?_; obtain rfl : w0 = some 236 := hw0.symm.trans (FS.g hF rfl)
          refine ⟨_, rfl, (by decide), (by decide), (by decide), ?_⟩
          have p28 : Pn 2 0 := by apply Pn_w <;> omega
          refine ⟨_, rfl, (by decide), ?_⟩
          refine ⟨fun c => absurd c (show (¬ ((1 : Int) = 0)) from by decide), fun _ => ?_⟩
          refine ⟨_, rfl, (by decide), ?_⟩
          have r29 : 0 ≤ (I12 235 6) ∧ (I12 235 6) ≤ 64 := Rg.f6 hR13
          exact ⟨rfl, hQ _ _ (Rg.u (Rg.u hR13 (Pr_f rfl)) (Pr_n p28)) (fun ka ja hk => ((uI_o (show ¬ (ka = 236 ∧ ja = 2) from by omega))).trans (((uI_o (show ¬ (ka = 235 ∧ ja = 8) from by omega))).trans (((hW15 ka ja (by omega))).trans ((hV ka ja (by omega))))))⟩
        ·
          refine ⟨_, rfl, (by decide), ?_⟩
          have r30 : 0 ≤ (I12 235 6) ∧ (I12 235 6) ≤ 64 := Rg.f6 hR13
          refine ⟨_, rfl, (by decide), ?_⟩
          refine fun w0 hw0 => ?_; obtain rfl : w0 = some 236 := hw0.symm.trans (FS.g hF rfl)
          refine ⟨_, rfl, (by decide), (by decide), (by decide), ?_⟩
          have u31 : (I12 236 2) = (J 236 2) := hW15 _ _ (by first | omega | decide)
          have a32 : -2147483648 ≤ (I12 236 2) ∧ (I12 236 2) < 2147483648 := hA14.1 _ _
          have r33 : 0 ≤ (I12 236 2) ∧ (I12 236 2) ≤ 64 := Rg.n2 hR13
          have a34 : -2147483648 ≤ (I12 235 6) ∧ (I12 235 6) < 2147483648 := hA14.1 _ _
          refine ⟨fun (c35 : (((I12 236 2) : Int) ≤ (I12 235 6))) => ?_, fun (c35 : (¬ (((I12 236 2) : Int) ≤ (I12 235 6)))) => ?_⟩
          ·
            refine ⟨_, rfl, (by decide), (by decide), ?_⟩
            refine ⟨_, rfl, (by decide), ?_⟩
            refine fun w0 hw0 => ?_; obtain rfl : w0 = some 236 := hw0.symm.trans (FS.g hF rfl)
            refine ⟨_, rfl, (by decide), (by decide), (by decide), ?_⟩
            have p36 : Pn 2 0 := by apply Pn_w <;> omega
            refine ⟨_, rfl, (by decide), ?_⟩
            refine ⟨fun _ => ?_, fun c => absurd (show ((0 : Int) = 0) from by decide) c⟩
            refine ⟨_, rfl, (by decide), ?_⟩
            refine fun w0 hw0 => ?_; obtain rfl : w0 = some 241 := hw0.symm.trans (FS.g hF rfl)
            refine ⟨_, rfl, (by decide), ?_⟩
            have u37 : (I12 235 9) = (J 235 9) := hW15 _ _ (by first | omega | decide)
            have a38 : -2147483648 ≤ (I12 235 9) ∧ (I12 235 9) < 2147483648 := hA14.1 _ _
            have r39 : 0 ≤ (I12 235 9) ∧ (I12 235 9) ≤ 17 := Rg.f9 hR13
            refine ⟨_, rfl, (by decide), (by decide), (by decide), ?_⟩
            have p40 : Pn (40 + 0) (I12 235 9) := by apply Pn_w <;> omega
            refine ⟨_, rfl, (by decide), ?_⟩
            refine fun w0 hw0 => ?_; obtain rfl : w0 = some 241 := hw0.symm.trans (FS.g hF rfl)
            refine ⟨fun _ => ?_, fun c => absurd (show ((b : Int) = 0) from by first | omega | (simp only [wr, wl] at *; omega)) c⟩
            refine ⟨_, rfl, (by decide), ?_⟩
            refine ⟨_, rfl, (by decide), (by decide), (by decide), ?_⟩
            have p41 : Pn (40 + 1) (I12 235 9) := by apply Pn_w <;> omega
            refine r_program_l2 hF hR (by omega) hQ _ q b 0 (uI (uI (uI (uI I12 235 8 0) 236 2 0) 241 0 (I12 235 9)) 241 1 (I12 235 9)) (Rg.u (Rg.u (Rg.u (Rg.u hR13 (Pr_f rfl)) (Pr_n p36)) (Pr_r p40)) (Pr_r p41)) (fun ka ja hk => ((uI_o (show ¬ (ka = 241 ∧ ja = 1) from by omega))).trans (((uI_o (show ¬ (ka = 241 ∧ ja = 0) from by omega))).trans (((uI_o (show ¬ (ka = 236 ∧ ja = 2) from by omega))).trans (((uI_o (show ¬ (ka = 235 ∧ ja = 8) from by omega))).trans (((hW15 ka ja (by omega))).trans ((hV ka ja (by omega)))))))) (show (0 : Int) ≤ q from by first | omega | (simp only [wr, wl] at *; omega)) (show (q : Int) ≤ 17 from by first | omega | (simp only [wr, wl] at *; omega)) (show (0 : Int) ≤ (0 : Int) from by first | omega | (simp only [wr, wl] at *; omega)) (show ((0 : Int) : Int) ≤ 36 from by first | omega | (simp only [wr, wl] at *; omega)) (Nat.lt_succ_self _)
          ·
            refine ⟨_, rfl, (by decide), (by decide), ?_⟩
            refine ⟨_, rfl, (by decide), ?_⟩
            refine fun w0 hw0 => ?_; obtain rfl : w0 = some 236 := hw0.symm.trans (FS.g hF rfl)
            refine ⟨_, rfl, (by decide), (by decide), (by decide), ?_⟩
            have p42 : Pn 2 0 := by apply Pn_w <;> omega
            refine ⟨_, rfl, (by decide), ?_⟩
            refine ⟨fun c => absurd c (show (¬ ((1 : Int) = 0)) from by decide), fun _ => ?_⟩
            refine ⟨_, rfl, (by decide), ?_⟩
            exact ⟨rfl, hQ _ _ (Rg.u (Rg.u hR13 (Pr_f rfl)) (Pr_n p42)) (fun ka ja hk => ((uI_o (show ¬ (ka = 236 ∧ ja = 2) from by omega))).trans (((uI_o (show ¬ (ka = 235 ∧ ja = 8) from by omega))).trans (((hW15 ka ja (by omega))).trans ((hV ka ja (by omega))))))⟩
      ·
        refine ⟨fun c => absurd (show ((b : Int) = 0) from by first | omega | (simp only [wr, wl] at *; omega)) c, fun _ => ?_⟩
        refine ⟨⟨_, rfl, (by decide)⟩, ?_⟩
        have r43 : 0 ≤ (I12 235 6) ∧ (I12 235 6) ≤ 64 := Rg.f6 hR13
        have a44 : -2147483648 ≤ (I12 235 6) ∧ (I12 235 6) < 2147483648 := hA14.1 _ _
        have r45 : 0 ≤ (I12 235 7) ∧ (I12 235 7) ≤ 64 := Rg.f7 hR13
        have a46 : -2147483648 ≤ (I12 235 7) ∧ (I12 235 7) < 2147483648 := hA14.1 _ _
        have u47 : (I12 236 2) = (J 236 2) := hW15 _ _ (by first | omega | decide)
        have a48 : -2147483648 ≤ (I12 236 2) ∧ (I12 236 2) < 2147483648 := hA14.1 _ _
        have r49 : 0 ≤ (I12 236 2) ∧ (I12 236 2) ≤ 64 := Rg.n2 hR13
        refine r_takes_17  hF hR13 (show (I12 235 6) ≤ (I12 235 7) from by first | omega | (simp only [wr, wl] at *; omega)) (show (I12 235 7) ≤ (I12 236 2) from by first | omega | (simp only [wr, wl] at *; omega)) (show (I12 235 6) < (I12 236 2) → (I12 235 6) < (I12 235 7) from by first | omega | (simp only [wr, wl] at *; omega)) (fun vr50 I51 hR52 hA53 hr55 hW54 q56 q57 q58 q59 q60 q61 q62 => ?_)
        have hr55 : -2147483648 ≤ vr50 ∧ vr50 < 2147483648 := hr55
        have q56 : vr50 = 1 → (I12 235 6) + 4 ≤ (I51 235 6) := q56
        have q57 : (I51 235 6) ≤ (I51 235 7) := q57
        have q58 : (I51 235 7) ≤ (I12 236 2) := q58
        have q59 : (I51 235 6) < (I12 236 2) → (I51 235 6) < (I51 235 7) := q59
        have q60 : (I12 235 6) ≤ (I51 235 6) := q60
        have u63 : (I12 235 8) = (J 235 8) := hW15 _ _ (by first | omega | decide)
        have a64 : -2147483648 ≤ (I12 235 8) ∧ (I12 235 8) < 2147483648 := hA14.1 _ _
        have q61 : vr50 = 1 → (I12 235 8) = 0 := q61
        have q62 : 0 ≤ vr50 ∧ vr50 ≤ 1 := q62
        refine ⟨fun (c65 : ((vr50 : Int) = 0)) => ?_, fun (c65 : (¬ ((vr50 : Int) = 0))) => ?_⟩
        ·
          refine ⟨⟨_, rfl, (by decide)⟩, ?_⟩
          have r66 : 0 ≤ (I51 235 6) ∧ (I51 235 6) ≤ 64 := Rg.f6 hR52
          have a67 : -2147483648 ≤ (I51 235 6) ∧ (I51 235 6) < 2147483648 := hA53.1 _ _
          have r68 : 0 ≤ (I51 235 7) ∧ (I51 235 7) ≤ 64 := Rg.f7 hR52
          have a69 : -2147483648 ≤ (I51 235 7) ∧ (I51 235 7) < 2147483648 := hA53.1 _ _
          have u70 : (I51 236 2) = (I12 236 2) := hW54 _ _ (by first | omega | decide)
          have a71 : -2147483648 ≤ (I51 236 2) ∧ (I51 236 2) < 2147483648 := hA53.1 _ _
          have r72 : 0 ≤ (I51 236 2) ∧ (I51 236 2) ≤ 64 := Rg.n2 hR52
          have u73 : (I12 235 9) = (J 235 9) := hW15 _ _ (by first | omega | decide)
          have a74 : -2147483648 ≤ (I12 235 9) ∧ (I12 235 9) < 2147483648 := hA14.1 _ _
          have r75 : 0 ≤ (I12 235 9) ∧ (I12 235 9) ≤ 17 := Rg.f9 hR13
          have u76 : (I51 235 9) = (I12 235 9) := hW54 _ _ (by first | omega | decide)
          have a77 : -2147483648 ≤ (I51 235 9) ∧ (I51 235 9) < 2147483648 := hA53.1 _ _
          have r78 : 0 ≤ (I51 235 9) ∧ (I51 235 9) ≤ 17 := Rg.f9 hR52
          refine r_part  hF hR52 (show (I51 235 6) ≤ (I51 235 7) from by first | omega | (simp only [wr, wl] at *; omega)) (show (I51 235 7) ≤ (I51 236 2) from by first | omega | (simp only [wr, wl] at *; omega)) (show (I51 235 6) < (I51 236 2) → (I51 235 6) < (I51 235 7) from by first | omega | (simp only [wr, wl] at *; omega)) (show (I51 235 9) ≤ 16 from by first | omega | (simp only [wr, wl] at *; omega)) (fun I79 hR80 hA81 hW82 q83 q84 q85 q86 q87 q88 => ?_)
          have q83 : (I79 235 6) ≤ (I79 235 7) := q83
          have q84 : (I79 235 7) ≤ (I51 236 2) := q84
          have q85 : (I79 235 6) < (I51 236 2) → (I79 235 6) < (I79 235 7) := q85
          have q86 : (I51 235 6) ≤ (I79 235 6) := q86
          have q87 : (I79 235 8) = 0 → (I79 235 9) = (I51 235 9) + 1 ∧ (I51 235 6) + 3 ≤ (I79 235 6) := q87
          have q88 : ¬ (I79 235 8) = 0 → (I79 235 9) = (I51 235 9) := q88
          have r89 : 0 ≤ (I79 235 6) ∧ (I79 235 6) ≤ 64 := Rg.f6 hR80
          have a90 : -2147483648 ≤ (I79 235 6) ∧ (I79 235 6) < 2147483648 := hA81.1 _ _
          have r91 : 0 ≤ (I79 235 7) ∧ (I79 235 7) ≤ 64 := Rg.f7 hR80
          have a92 : -2147483648 ≤ (I79 235 7) ∧ (I79 235 7) < 2147483648 := hA81.1 _ _
          have a93 : -2147483648 ≤ (I79 235 8) ∧ (I79 235 8) < 2147483648 := hA81.1 _ _
          have r94 : 0 ≤ (I79 235 9) ∧ (I79 235 9) ≤ 17 := Rg.f9 hR80
          have a95 : -2147483648 ≤ (I79 235 9) ∧ (I79 235 9) < 2147483648 := hA81.1 _ _
          have u96 : (I79 236 2) = (I51 236 2) := hW82 _ _ (by first | omega | decide)
          have a97 : -2147483648 ≤ (I79 236 2) ∧ (I79 236 2) < 2147483648 := hA81.1 _ _
          have r98 : 0 ≤ (I79 236 2) ∧ (I79 236 2) ≤ 64 := Rg.n2 hR80
          exact ih q b I79 hR80 (fun ka ja hk => ((hW82 ka ja (by omega))).trans (((hW54 ka ja (by omega))).trans (((hW15 ka ja (by omega))).trans ((hV ka ja (by omega)))))) (show (0 : Int) ≤ q from by first | omega | (simp only [wr, wl] at *; omega)) (show (q : Int) ≤ 17 from by first | omega | (simp only [wr, wl] at *; omega)) (show (I79 235 6) ≤ (I79 235 7) from by first | omega | (simp only [wr, wl] at *; omega)) (show (I79 235 7) ≤ (I79 236 2) from by first | omega | (simp only [wr, wl] at *; omega)) (show (I79 235 6) < (I79 236 2) → (I79 235 6) < (I79 235 7) from by first | omega | (simp only [wr, wl] at *; omega)) (show (I79 235 8) = 0 → 4 * (I79 235 9) ≤ (I79 235 6) + 1 from by first | omega | (simp only [wr, wl] at *; omega)) (show (65 - (I79 235 6)).toNat < mz from by omega)
        ·
          refine ⟨_, rfl, (by decide), ?_⟩
          have u99 : (I12 235 9) = (J 235 9) := hW15 _ _ (by first | omega | decide)
          have a100 : -2147483648 ≤ (I12 235 9) ∧ (I12 235 9) < 2147483648 := hA14.1 _ _
          have r101 : 0 ≤ (I12 235 9) ∧ (I12 235 9) ≤ 17 := Rg.f9 hR13
          have u102 : (I51 235 9) = (I12 235 9) := hW54 _ _ (by first | omega | decide)
          have a103 : -2147483648 ≤ (I51 235 9) ∧ (I51 235 9) < 2147483648 := hA53.1 _ _
          have r104 : 0 ≤ (I51 235 9) ∧ (I51 235 9) ≤ 17 := Rg.f9 hR52
          refine ⟨⟨_, rfl, (by decide)⟩, ?_⟩
          have r105 : 0 ≤ (I51 235 6) ∧ (I51 235 6) ≤ 64 := Rg.f6 hR52
          have a106 : -2147483648 ≤ (I51 235 6) ∧ (I51 235 6) < 2147483648 := hA53.1 _ _
          have r107 : 0 ≤ (I51 235 7) ∧ (I51 235 7) ≤ 64 := Rg.f7 hR52
          have a108 : -2147483648 ≤ (I51 235 7) ∧ (I51 235 7) < 2147483648 := hA53.1 _ _
          have u109 : (I51 236 2) = (I12 236 2) := hW54 _ _ (by first | omega | decide)
          have a110 : -2147483648 ≤ (I51 236 2) ∧ (I51 236 2) < 2147483648 := hA53.1 _ _
          have r111 : 0 ≤ (I51 236 2) ∧ (I51 236 2) ≤ 64 := Rg.n2 hR52
          refine r_part  hF hR52 (show (I51 235 6) ≤ (I51 235 7) from by first | omega | (simp only [wr, wl] at *; omega)) (show (I51 235 7) ≤ (I51 236 2) from by first | omega | (simp only [wr, wl] at *; omega)) (show (I51 235 6) < (I51 236 2) → (I51 235 6) < (I51 235 7) from by first | omega | (simp only [wr, wl] at *; omega)) (show (I51 235 9) ≤ 16 from by first | omega | (simp only [wr, wl] at *; omega)) (fun I112 hR113 hA114 hW115 q116 q117 q118 q119 q120 q121 => ?_)
          have q116 : (I112 235 6) ≤ (I112 235 7) := q116
          have q117 : (I112 235 7) ≤ (I51 236 2) := q117
          have q118 : (I112 235 6) < (I51 236 2) → (I112 235 6) < (I112 235 7) := q118
          have q119 : (I51 235 6) ≤ (I112 235 6) := q119
          have q120 : (I112 235 8) = 0 → (I112 235 9) = (I51 235 9) + 1 ∧ (I51 235 6) + 3 ≤ (I112 235 6) := q120
          have q121 : ¬ (I112 235 8) = 0 → (I112 235 9) = (I51 235 9) := q121
          have r122 : 0 ≤ (I112 235 6) ∧ (I112 235 6) ≤ 64 := Rg.f6 hR113
          have a123 : -2147483648 ≤ (I112 235 6) ∧ (I112 235 6) < 2147483648 := hA114.1 _ _
          have r124 : 0 ≤ (I112 235 7) ∧ (I112 235 7) ≤ 64 := Rg.f7 hR113
          have a125 : -2147483648 ≤ (I112 235 7) ∧ (I112 235 7) < 2147483648 := hA114.1 _ _
          have a126 : -2147483648 ≤ (I112 235 8) ∧ (I112 235 8) < 2147483648 := hA114.1 _ _
          have r127 : 0 ≤ (I112 235 9) ∧ (I112 235 9) ≤ 17 := Rg.f9 hR113
          have a128 : -2147483648 ≤ (I112 235 9) ∧ (I112 235 9) < 2147483648 := hA114.1 _ _
          have u129 : (I112 236 2) = (I51 236 2) := hW115 _ _ (by first | omega | decide)
          have a130 : -2147483648 ≤ (I112 236 2) ∧ (I112 236 2) < 2147483648 := hA114.1 _ _
          have r131 : 0 ≤ (I112 236 2) ∧ (I112 236 2) ≤ 64 := Rg.n2 hR113
          exact ih (I51 235 9) 1 I112 hR113 (fun ka ja hk => ((hW115 ka ja (by omega))).trans (((hW54 ka ja (by omega))).trans (((hW15 ka ja (by omega))).trans ((hV ka ja (by omega)))))) (show (0 : Int) ≤ (I51 235 9) from by first | omega | (simp only [wr, wl] at *; omega)) (show ((I51 235 9) : Int) ≤ 17 from by first | omega | (simp only [wr, wl] at *; omega)) (show (I112 235 6) ≤ (I112 235 7) from by first | omega | (simp only [wr, wl] at *; omega)) (show (I112 235 7) ≤ (I112 236 2) from by first | omega | (simp only [wr, wl] at *; omega)) (show (I112 235 6) < (I112 236 2) → (I112 235 6) < (I112 235 7) from by first | omega | (simp only [wr, wl] at *; omega)) (show (I112 235 8) = 0 → 4 * (I112 235 9) ≤ (I112 235 6) + 1 from by first | omega | (simp only [wr, wl] at *; omega)) (show (65 - (I112 235 6)).toNat < mz from by omega)
    ·
      refine ⟨⟨_, rfl, (by decide)⟩, ?_⟩
      refine r_takes_15  hF hJ (show (J 235 6) ≤ (J 235 7) from by first | omega | (simp only [wr, wl] at *; omega)) (show (J 235 7) ≤ (J 236 2) from by first | omega | (simp only [wr, wl] at *; omega)) (show (J 235 6) < (J 236 2) → (J 235 6) < (J 235 7) from by first | omega | (simp only [wr, wl] at *; omega)) (fun vr132 I133 hR134 hA135 hr137 hW136 q138 q139 q140 q141 q142 q143 q144 => ?_)
      have hr137 : -2147483648 ≤ vr132 ∧ vr132 < 2147483648 := hr137
      have q138 : vr132 = 1 → (J 235 6) + 1 ≤ (I133 235 6) := q138
      have q139 : (I133 235 6) ≤ (I133 235 7) := q139
      have q140 : (I133 235 7) ≤ (J 236 2) := q140
      have q141 : (I133 235 6) < (J 236 2) → (I133 235 6) < (I133 235 7) := q141
      have q142 : (J 235 6) ≤ (I133 235 6) := q142
      have q143 : vr132 = 1 → (J 235 8) = 0 := q143
      have q144 : 0 ≤ vr132 ∧ vr132 ≤ 1 := q144
      refine ⟨fun (c145 : ((vr132 : Int) = 0)) => ?_, fun (c145 : (¬ ((vr132 : Int) = 0))) => ?_⟩
      ·
        refine ⟨_, rfl, (by decide), ?_⟩
        have u146 : (I133 235 8) = (J 235 8) := hW136 _ _ (by first | omega | decide)
        have a147 : -2147483648 ≤ (I133 235 8) ∧ (I133 235 8) < 2147483648 := hA135.1 _ _
        refine ⟨fun (c148 : (¬ ((I133 235 8) : Int) = 0)) => ?_, fun (c148 : (((I133 235 8) : Int) = 0)) => ?_⟩
        ·
          refine ⟨_, rfl, (by decide), (by decide), ?_⟩
          refine ⟨_, rfl, (by decide), ?_⟩
          refine fun w0 hw0 => ?_; obtain rfl : w0 = some 236 := hw0.symm.trans (FS.g hF rfl)
          refine ⟨_, rfl, (by decide), (by decide), (by decide), ?_⟩
          have p149 : Pn 2 0 := by apply Pn_w <;> omega
          refine ⟨_, rfl, (by decide), ?_⟩
          refine ⟨fun c => absurd c (show (¬ ((1 : Int) = 0)) from by decide), fun _ => ?_⟩
          refine ⟨_, rfl, (by decide), ?_⟩
          have r150 : 0 ≤ (I133 235 6) ∧ (I133 235 6) ≤ 64 := Rg.f6 hR134
          exact ⟨rfl, hQ _ _ (Rg.u (Rg.u hR134 (Pr_f rfl)) (Pr_n p149)) (fun ka ja hk => ((uI_o (show ¬ (ka = 236 ∧ ja = 2) from by omega))).trans (((uI_o (show ¬ (ka = 235 ∧ ja = 8) from by omega))).trans (((hW136 ka ja (by omega))).trans ((hV ka ja (by omega))))))⟩
        ·
          refine ⟨_, rfl, (by decide), ?_⟩
          have r151 : 0 ≤ (I133 235 6) ∧ (I133 235 6) ≤ 64 := Rg.f6 hR134
          refine ⟨_, rfl, (by decide), ?_⟩
          refine fun w0 hw0 => ?_; obtain rfl : w0 = some 236 := hw0.symm.trans (FS.g hF rfl)
          refine ⟨_, rfl, (by decide), (by decide), (by decide), ?_⟩
          have u152 : (I133 236 2) = (J 236 2) := hW136 _ _ (by first | omega | decide)
          have a153 : -2147483648 ≤ (I133 236 2) ∧ (I133 236 2) < 2147483648 := hA135.1 _ _
          have r154 : 0 ≤ (I133 236 2) ∧ (I133 236 2) ≤ 64 := Rg.n2 hR134
          have a155 : -2147483648 ≤ (I133 235 6) ∧ (I133 235 6) < 2147483648 := hA135.1 _ _
          refine ⟨fun (c156 : (((I133 236 2) : Int) ≤ (I133 235 6))) => ?_, fun (c156 : (¬ (((I133 236 2) : Int) ≤ (I133 235 6)))) => ?_⟩
          ·
            refine ⟨_, rfl, (by decide), (by decide), ?_⟩
            refine ⟨_, rfl, (by decide), ?_⟩
            refine fun w0 hw0 => ?_; obtain rfl : w0 = some 236 := hw0.symm.trans (FS.g hF rfl)
            refine ⟨_, rfl, (by decide), (by decide), (by decide), ?_⟩
            have p157 : Pn 2 0 := by apply Pn_w <;> omega
            refine ⟨_, rfl, (by decide), ?_⟩
            refine ⟨fun _ => ?_, fun c => absurd (show ((0 : Int) = 0) from by decide) c⟩
            refine ⟨_, rfl, (by decide), ?_⟩
            refine fun w0 hw0 => ?_; obtain rfl : w0 = some 241 := hw0.symm.trans (FS.g hF rfl)
            refine ⟨_, rfl, (by decide), ?_⟩
            have u158 : (I133 235 9) = (J 235 9) := hW136 _ _ (by first | omega | decide)
            have a159 : -2147483648 ≤ (I133 235 9) ∧ (I133 235 9) < 2147483648 := hA135.1 _ _
            have r160 : 0 ≤ (I133 235 9) ∧ (I133 235 9) ≤ 17 := Rg.f9 hR134
            refine ⟨_, rfl, (by decide), (by decide), (by decide), ?_⟩
            have p161 : Pn (40 + 0) (I133 235 9) := by apply Pn_w <;> omega
            refine ⟨_, rfl, (by decide), ?_⟩
            refine fun w0 hw0 => ?_; obtain rfl : w0 = some 241 := hw0.symm.trans (FS.g hF rfl)
            refine ⟨fun c => absurd c (show (¬ ((b : Int) = 0)) from by first | omega | (simp only [wr, wl] at *; omega)), fun _ => ?_⟩
            refine ⟨_, rfl, (by decide), (by decide), (by decide), ?_⟩
            have p162 : Pn (40 + 1) q := by apply Pn_w <;> omega
            refine r_program_l2 hF hR (by omega) hQ _ q b 0 (uI (uI (uI (uI I133 235 8 0) 236 2 0) 241 0 (I133 235 9)) 241 1 q) (Rg.u (Rg.u (Rg.u (Rg.u hR134 (Pr_f rfl)) (Pr_n p157)) (Pr_r p161)) (Pr_r p162)) (fun ka ja hk => ((uI_o (show ¬ (ka = 241 ∧ ja = 1) from by omega))).trans (((uI_o (show ¬ (ka = 241 ∧ ja = 0) from by omega))).trans (((uI_o (show ¬ (ka = 236 ∧ ja = 2) from by omega))).trans (((uI_o (show ¬ (ka = 235 ∧ ja = 8) from by omega))).trans (((hW136 ka ja (by omega))).trans ((hV ka ja (by omega)))))))) (show (0 : Int) ≤ q from by first | omega | (simp only [wr, wl] at *; omega)) (show (q : Int) ≤ 17 from by first | omega | (simp only [wr, wl] at *; omega)) (show (0 : Int) ≤ (0 : Int) from by first | omega | (simp only [wr, wl] at *; omega)) (show ((0 : Int) : Int) ≤ 36 from by first | omega | (simp only [wr, wl] at *; omega)) (Nat.lt_succ_self _)
          ·
            refine ⟨_, rfl, (by decide), (by decide), ?_⟩
            refine ⟨_, rfl, (by decide), ?_⟩
            refine fun w0 hw0 => ?_; obtain rfl : w0 = some 236 := hw0.symm.trans (FS.g hF rfl)
            refine ⟨_, rfl, (by decide), (by decide), (by decide), ?_⟩
            have p163 : Pn 2 0 := by apply Pn_w <;> omega
            refine ⟨_, rfl, (by decide), ?_⟩
            refine ⟨fun c => absurd c (show (¬ ((1 : Int) = 0)) from by decide), fun _ => ?_⟩
            refine ⟨_, rfl, (by decide), ?_⟩
            exact ⟨rfl, hQ _ _ (Rg.u (Rg.u hR134 (Pr_f rfl)) (Pr_n p163)) (fun ka ja hk => ((uI_o (show ¬ (ka = 236 ∧ ja = 2) from by omega))).trans (((uI_o (show ¬ (ka = 235 ∧ ja = 8) from by omega))).trans (((hW136 ka ja (by omega))).trans ((hV ka ja (by omega))))))⟩
      ·
        refine ⟨fun _ => ?_, fun c => absurd c (show (¬ (b : Int) = 0) from by first | omega | (simp only [wr, wl] at *; omega))⟩
        refine ⟨⟨_, rfl, (by decide)⟩, ?_⟩
        have r164 : 0 ≤ (I133 235 6) ∧ (I133 235 6) ≤ 64 := Rg.f6 hR134
        have a165 : -2147483648 ≤ (I133 235 6) ∧ (I133 235 6) < 2147483648 := hA135.1 _ _
        have r166 : 0 ≤ (I133 235 7) ∧ (I133 235 7) ≤ 64 := Rg.f7 hR134
        have a167 : -2147483648 ≤ (I133 235 7) ∧ (I133 235 7) < 2147483648 := hA135.1 _ _
        have u168 : (I133 236 2) = (J 236 2) := hW136 _ _ (by first | omega | decide)
        have a169 : -2147483648 ≤ (I133 236 2) ∧ (I133 236 2) < 2147483648 := hA135.1 _ _
        have r170 : 0 ≤ (I133 236 2) ∧ (I133 236 2) ≤ 64 := Rg.n2 hR134
        have u171 : (I133 235 9) = (J 235 9) := hW136 _ _ (by first | omega | decide)
        have a172 : -2147483648 ≤ (I133 235 9) ∧ (I133 235 9) < 2147483648 := hA135.1 _ _
        have r173 : 0 ≤ (I133 235 9) ∧ (I133 235 9) ≤ 17 := Rg.f9 hR134
        refine r_part  hF hR134 (show (I133 235 6) ≤ (I133 235 7) from by first | omega | (simp only [wr, wl] at *; omega)) (show (I133 235 7) ≤ (I133 236 2) from by first | omega | (simp only [wr, wl] at *; omega)) (show (I133 235 6) < (I133 236 2) → (I133 235 6) < (I133 235 7) from by first | omega | (simp only [wr, wl] at *; omega)) (show (I133 235 9) ≤ 16 from by first | omega | (simp only [wr, wl] at *; omega)) (fun I174 hR175 hA176 hW177 q178 q179 q180 q181 q182 q183 => ?_)
        have q178 : (I174 235 6) ≤ (I174 235 7) := q178
        have q179 : (I174 235 7) ≤ (I133 236 2) := q179
        have q180 : (I174 235 6) < (I133 236 2) → (I174 235 6) < (I174 235 7) := q180
        have q181 : (I133 235 6) ≤ (I174 235 6) := q181
        have q182 : (I174 235 8) = 0 → (I174 235 9) = (I133 235 9) + 1 ∧ (I133 235 6) + 3 ≤ (I174 235 6) := q182
        have q183 : ¬ (I174 235 8) = 0 → (I174 235 9) = (I133 235 9) := q183
        have r184 : 0 ≤ (I174 235 6) ∧ (I174 235 6) ≤ 64 := Rg.f6 hR175
        have a185 : -2147483648 ≤ (I174 235 6) ∧ (I174 235 6) < 2147483648 := hA176.1 _ _
        have r186 : 0 ≤ (I174 235 7) ∧ (I174 235 7) ≤ 64 := Rg.f7 hR175
        have a187 : -2147483648 ≤ (I174 235 7) ∧ (I174 235 7) < 2147483648 := hA176.1 _ _
        have a188 : -2147483648 ≤ (I174 235 8) ∧ (I174 235 8) < 2147483648 := hA176.1 _ _
        have r189 : 0 ≤ (I174 235 9) ∧ (I174 235 9) ≤ 17 := Rg.f9 hR175
        have a190 : -2147483648 ≤ (I174 235 9) ∧ (I174 235 9) < 2147483648 := hA176.1 _ _
        have u191 : (I174 236 2) = (I133 236 2) := hW177 _ _ (by first | omega | decide)
        have a192 : -2147483648 ≤ (I174 236 2) ∧ (I174 236 2) < 2147483648 := hA176.1 _ _
        have r193 : 0 ≤ (I174 236 2) ∧ (I174 236 2) ≤ 64 := Rg.n2 hR175
        exact ih q b I174 hR175 (fun ka ja hk => ((hW177 ka ja (by omega))).trans (((hW136 ka ja (by omega))).trans ((hV ka ja (by omega))))) (show (0 : Int) ≤ q from by first | omega | (simp only [wr, wl] at *; omega)) (show (q : Int) ≤ 17 from by first | omega | (simp only [wr, wl] at *; omega)) (show (I174 235 6) ≤ (I174 235 7) from by first | omega | (simp only [wr, wl] at *; omega)) (show (I174 235 7) ≤ (I174 236 2) from by first | omega | (simp only [wr, wl] at *; omega)) (show (I174 235 6) < (I174 236 2) → (I174 235 6) < (I174 235 7) from by first | omega | (simp only [wr, wl] at *; omega)) (show (I174 235 8) = 0 → 4 * (I174 235 9) ≤ (I174 235 6) + 1 from by first | omega | (simp only [wr, wl] at *; omega)) (show (65 - (I174 235 6)).toNat < mz from by omega)
theorem r_program (hF : FS F) (hR : Rg I) {v0 : Int}  (hQ : ∀ (r : Int) (I' : pI), Rg I' → AR I' → iR r → (∀ k j, ¬ ((k = 235 ∧ (j = 6 ∨ j = 7 ∨ j = 8 ∨ j = 9)) ∨ k = 241 ∨ k = 238 ∨ (k = 236 ∧ (j = 2 ∨ (40 ≤ j ∧ j < 184)))) → I' k j = I k j) → Q (some (vi r)) F I') : CallN G (d + 6) kX12_program [vr 235, vi v0] NP F I Q := by
  refine CallN_in (fun hok hA => CallN_out ?_)
  have iv0 : -2147483648 ≤ v0 ∧ v0 < 2147483648 := hok (vi v0) (by simp)
  refine Call_wp (lv := [some (vr 235), some (vi v0), none, none, none]) (by decide) ckX12_program [42] rfl rfl ?_
  refine ⟨⟨_, rfl, (by decide)⟩, ?_⟩
  refine s_X12_isProgram (fun (w1 : ((0 : Int) ≤ v0 ∧ (v0 : Int) ≤ 3)) => ?_) (fun (w1 : ¬ ((0 : Int) ≤ v0 ∧ (v0 : Int) ≤ 3)) => ?_)
  ·
    refine ⟨fun _ => ?_, fun c => absurd c (show (¬ (1 : Int) = 0) from by decide)⟩
    refine ⟨_, rfl, (by decide), ?_⟩
    have p2 : (0 : Int) ≤ 0 ∧ (0 : Int) ≤ 64 := by decide
    refine ⟨_, rfl, (by decide), (by decide), ?_⟩
    refine ⟨_, rfl, (by decide), ?_⟩
    have p3 : (0 : Int) ≤ 0 ∧ (0 : Int) ≤ 17 := by decide
    refine ⟨⟨_, rfl, (by decide)⟩, ?_⟩
    have r4 : 0 ≤ (I 236 2) ∧ (I 236 2) ≤ 64 := Rg.n2 hR
    have a5 : -2147483648 ≤ (I 236 2) ∧ (I 236 2) < 2147483648 := hA.1 _ _
    refine r_goOn  hF (Rg.u (Rg.u (Rg.u hR (Pr_x7 p2)) (Pr_f rfl)) (Pr_x9 p3)) (show 0 ≤ (I 236 2) from by first | omega | (simp only [wr, wl] at *; omega)) (fun I6 hR7 hA8 hW9 q10 q11 q12 q13 => ?_)
    have q10 : 0 ≤ (I6 235 6) := q10
    have q11 : (I6 235 6) ≤ (I6 235 7) := q11
    have q12 : (I6 235 7) ≤ (I 236 2) := q12
    have q13 : (I6 235 6) < (I 236 2) → (I6 235 6) < (I6 235 7) := q13
    refine ⟨⟨_, rfl, (by decide)⟩, ?_⟩
    have r14 : 0 ≤ (I6 235 6) ∧ (I6 235 6) ≤ 64 := Rg.f6 hR7
    have a15 : -2147483648 ≤ (I6 235 6) ∧ (I6 235 6) < 2147483648 := hA8.1 _ _
    have r16 : 0 ≤ (I6 235 7) ∧ (I6 235 7) ≤ 64 := Rg.f7 hR7
    have a17 : -2147483648 ≤ (I6 235 7) ∧ (I6 235 7) < 2147483648 := hA8.1 _ _
    have u18 : (I6 236 2) = ((uI (uI (uI I 235 7 0) 235 8 0) 235 9 0) 236 2) := hW9 _ _ (by first | omega | decide)
    have u19 : ((uI (uI (uI I 235 7 0) 235 8 0) 235 9 0) 236 2) = (I 236 2) := rfl
    have a20 : -2147483648 ≤ (I6 236 2) ∧ (I6 236 2) < 2147483648 := hA8.1 _ _
    have r21 : 0 ≤ (I6 236 2) ∧ (I6 236 2) ≤ 64 := Rg.n2 hR7
    have u22 : (I6 235 9) = ((uI (uI (uI I 235 7 0) 235 8 0) 235 9 0) 235 9) := hW9 _ _ (by first | omega | decide)
    have u23 : ((uI (uI (uI I 235 7 0) 235 8 0) 235 9 0) 235 9) = 0 := rfl
    have a24 : -2147483648 ≤ (I6 235 9) ∧ (I6 235 9) < 2147483648 := hA8.1 _ _
    have r25 : 0 ≤ (I6 235 9) ∧ (I6 235 9) ≤ 17 := Rg.f9 hR7
    refine r_part  hF hR7 (show (I6 235 6) ≤ (I6 235 7) from by first | omega | (simp only [wr, wl] at *; omega)) (show (I6 235 7) ≤ (I6 236 2) from by first | omega | (simp only [wr, wl] at *; omega)) (show (I6 235 6) < (I6 236 2) → (I6 235 6) < (I6 235 7) from by first | omega | (simp only [wr, wl] at *; omega)) (show (I6 235 9) ≤ 16 from by first | omega | (simp only [wr, wl] at *; omega)) (fun I26 hR27 hA28 hW29 q30 q31 q32 q33 q34 q35 => ?_)
    have q30 : (I26 235 6) ≤ (I26 235 7) := q30
    have q31 : (I26 235 7) ≤ (I6 236 2) := q31
    have q32 : (I26 235 6) < (I6 236 2) → (I26 235 6) < (I26 235 7) := q32
    have q33 : (I6 235 6) ≤ (I26 235 6) := q33
    have q34 : (I26 235 8) = 0 → (I26 235 9) = (I6 235 9) + 1 ∧ (I6 235 6) + 3 ≤ (I26 235 6) := q34
    have q35 : ¬ (I26 235 8) = 0 → (I26 235 9) = (I6 235 9) := q35
    have r36 : 0 ≤ (I26 235 6) ∧ (I26 235 6) ≤ 64 := Rg.f6 hR27
    have a37 : -2147483648 ≤ (I26 235 6) ∧ (I26 235 6) < 2147483648 := hA28.1 _ _
    have r38 : 0 ≤ (I26 235 7) ∧ (I26 235 7) ≤ 64 := Rg.f7 hR27
    have a39 : -2147483648 ≤ (I26 235 7) ∧ (I26 235 7) < 2147483648 := hA28.1 _ _
    have a40 : -2147483648 ≤ (I26 235 8) ∧ (I26 235 8) < 2147483648 := hA28.1 _ _
    have r41 : 0 ≤ (I26 235 9) ∧ (I26 235 9) ≤ 17 := Rg.f9 hR27
    have a42 : -2147483648 ≤ (I26 235 9) ∧ (I26 235 9) < 2147483648 := hA28.1 _ _
    have u43 : (I26 236 2) = (I6 236 2) := hW29 _ _ (by first | omega | decide)
    have a44 : -2147483648 ≤ (I26 236 2) ∧ (I26 236 2) < 2147483648 := hA28.1 _ _
    have r45 : 0 ≤ (I26 236 2) ∧ (I26 236 2) ≤ 64 := Rg.n2 hR27
    refine r_program_l1 hF hR (by omega) (fun r I' g1 g2 hv hA' => hQ _ _ g1 hA' (hv _ rfl) g2) _ 0 0 I26 hR27 (fun ka ja hk => ((hW29 ka ja (by omega))).trans (((hW9 ka ja (by omega))).trans (((uI_o (show ¬ (ka = 235 ∧ ja = 9) from by omega))).trans (((uI_o (show ¬ (ka = 235 ∧ ja = 8) from by omega))).trans ((uI_o (show ¬ (ka = 235 ∧ ja = 7) from by omega))))))) (show (0 : Int) ≤ (0 : Int) from by first | omega | (simp only [wr, wl] at *; omega)) (show ((0 : Int) : Int) ≤ 17 from by first | omega | (simp only [wr, wl] at *; omega)) (show (I26 235 6) ≤ (I26 235 7) from by first | omega | (simp only [wr, wl] at *; omega)) (show (I26 235 7) ≤ (I26 236 2) from by first | omega | (simp only [wr, wl] at *; omega)) (show (I26 235 6) < (I26 236 2) → (I26 235 6) < (I26 235 7) from by first | omega | (simp only [wr, wl] at *; omega)) (show (I26 235 8) = 0 → 4 * (I26 235 9) ≤ (I26 235 6) + 1 from by first | omega | (simp only [wr, wl] at *; omega)) (Nat.lt_succ_self _)
  ·
    refine ⟨fun c => absurd (show ((0 : Int) = 0) from by decide) c, fun _ => ?_⟩
    refine ⟨⟨_, rfl, (by decide)⟩, ?_⟩
    refine s_X12_finding hF (v := (-1000001)) (by decide) ?_
    exact ⟨rfl, fun hv hA' => hQ _ _ (Rg.u hR (Pr_f rfl)) hA' (hv _ rfl) (fun ka ja hk => (uI_o (show ¬ (ka = 238 ∧ ja = 1) from by omega)))⟩
end RT
