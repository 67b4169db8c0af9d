/-! the reference reads a text, from any state. Own work (scripts laid by wip/pm/gen30.py). -/
section RT
variable {G : pG} {d : Nat} {F : pF} {I : pI} {Q : Option pV → pF → pI → Prop}
theorem r_goOn_l2 (hF : FS F) (hR : Rg I) (h2 : I 235 7 ≤ I 236 2) (hQ : ∀ (I' : pI), Rg I' → (∀ k j, ¬ ((k = 235 ∧ (j = 6 ∨ j = 7))) → I' k j = I k j) → ((I 235 7) ≤ (I' 235 6)) → ((I' 235 6) ≤ (I' 235 7)) → ((I' 235 7) ≤ (I 236 2)) → ((I' 235 6) < (I 236 2) → (I' 235 6) < (I' 235 7)) → Q none F I') : ∀ (m : Nat) (a b : Int) (J : pI), Rg J → (∀ k j, ¬ ((k = 235 ∧ (j = 6 ∨ j = 7))) → J k j = I k j) → I 235 7 ≤ (J 235 6) → (J 235 6) ≤ (J 235 7) → (J 235 7) ≤ I 236 2 → (J 235 6) < I 236 2 → (J 235 6) < (J 235 7) → (64 - (J 235 7)).toNat < m → GoN G (d + 2) kX12_goOn NP NP 97 [some (vr 235), some (vi a), some (vi b)] [] F J Q := by
  intro m
  induction m with
  | zero => intro a b J hJ hV _ _ _ _ h; exact absurd h (Nat.not_lt_zero _)
  | succ m ih =>
    intro a b J hJ hV c100 c101 c102 c103 hm
    refine GoN_in (fun hok hA => ?_)
    have ia : -2147483648 ≤ a ∧ a < 2147483648 := hok 1 _ rfl
    have ib : -2147483648 ≤ b ∧ b < 2147483648 := hok 2 _ rfl
    have g2 := Rg.n2 hR (Or.inl rfl)
    have r1 : 0 ≤ (J 235 6) ∧ (J 235 6) ≤ 64 := Rg.f6 hJ
    have a2 : -2147483648 ≤ (J 235 6) ∧ (J 235 6) < 2147483648 := hA.1 _ _
    have r3 : 0 ≤ (J 235 7) ∧ (J 235 7) ≤ 64 := Rg.f7 hJ
    have a4 : -2147483648 ≤ (J 235 7) ∧ (J 235 7) < 2147483648 := hA.1 _ _
    refine Go_wp (by decide) ckX12_goOn [97] ?_
    refine ⟨fun (c5 : ((a : Int) = 0)) => ?_, fun (c5 : (¬ ((a : Int) = 0))) => ?_⟩
    ·
      refine ⟨fun (c6 : ((b : Int) = 0)) => ?_, fun (c6 : (¬ ((b : Int) = 0))) => ?_⟩
      ·
        have r7 : 0 ≤ (I 235 7) ∧ (I 235 7) ≤ 64 := Rg.f7 hR
        have r8 : 0 ≤ (I 236 2) ∧ (I 236 2) ≤ 64 := Rg.n2 hR
        exact ⟨rfl, hQ _ hJ (fun k j hk => (hV k j (by omega))) (show (I 235 7) ≤ (J 235 6) from by first | omega | (simp only [wr, wl] at *; omega)) (show (J 235 6) ≤ (J 235 7) from by first | omega | (simp only [wr, wl] at *; omega)) (show (J 235 7) ≤ (I 236 2) from by first | omega | (simp only [wr, wl] at *; omega)) (show (J 235 6) < (I 236 2) → (J 235 6) < (J 235 7) from by first | omega | (simp only [wr, wl] at *; omega))⟩
      ·
        refine ⟨_, rfl, (by decide), ?_⟩
        refine ⟨⟨_, rfl, (by decide)⟩, ?_⟩
        refine Call_wp (lv := [some (vr 235), some (vi (J 235 7)), some (vi 48), some (vi 57)]) (by decide) ckX12_isByte [] rfl rfl ?_
        refine ⟨_, rfl, (by decide), ?_⟩
        refine fun w0 hw0 => ?_; obtain rfl : w0 = some 236 := hw0.symm.trans (FS.g hF rfl)
        refine ⟨_, rfl, (by decide), (by decide), (by decide), ?_⟩
        have r9 : 0 ≤ (I 236 2) ∧ (I 236 2) ≤ 64 := Rg.n2 hR
        have u10 : (J 236 2) = (I 236 2) := hV _ _ (by first | omega | decide)
        have a11 : -2147483648 ≤ (J 236 2) ∧ (J 236 2) < 2147483648 := hA.1 _ _
        have r12 : 0 ≤ (J 236 2) ∧ (J 236 2) ≤ 64 := Rg.n2 hJ
        refine ⟨fun (c13 : (((J 236 2) : Int) ≤ (J 235 7))) => ?_, fun (c13 : (¬ (((J 236 2) : Int) ≤ (J 235 7)))) => ?_⟩
        ·
          refine ⟨rfl, (by decide), ?_⟩
          refine ⟨fun _ => ?_, fun c => absurd (show ((0 : Int) = 0) from by decide) c⟩
          have r14 : 0 ≤ (I 235 7) ∧ (I 235 7) ≤ 64 := Rg.f7 hR
          exact ⟨rfl, hQ _ hJ (fun k j hk => (hV k j (by omega))) (show (I 235 7) ≤ (J 235 6) from by first | omega | (simp only [wr, wl] at *; omega)) (show (J 235 6) ≤ (J 235 7) from by first | omega | (simp only [wr, wl] at *; omega)) (show (J 235 7) ≤ (I 236 2) from by first | omega | (simp only [wr, wl] at *; omega)) (show (J 235 6) < (I 236 2) → (J 235 6) < (J 235 7) from by first | omega | (simp only [wr, wl] at *; omega))⟩
        ·
          refine ⟨_, rfl, (by decide), ?_⟩
          refine fun w0 hw0 => ?_; obtain rfl : w0 = some 236 := hw0.symm.trans (FS.g hF rfl)
          have n15 : (wr (1228 + (J 235 7))) = 1228 + (J 235 7) := wr_id (show -2147483648 ≤ (1228 + (J 235 7) : Int) ∧ (1228 + (J 235 7) : Int) < 2147483648 from by omega)
          refine ⟨_, rfl, (by decide), (show (0 : Int) ≤ (wr (1228 + (J 235 7))) from by first | omega | (simp only [wr, wl] at *; omega)), (show (wr (1228 + (J 235 7))) < (1340 : Int) from by first | omega | (simp only [wr, wl] at *; omega)), ?_⟩
          have u16 : (J 236 (Int.toNat (wr (1228 + (J 235 7))))) = (I 236 (Int.toNat (wr (1228 + (J 235 7))))) := hV _ _ (by first | omega | decide)
          have a17 : -2147483648 ≤ (J 236 (Int.toNat (wr (1228 + (J 235 7))))) ∧ (J 236 (Int.toNat (wr (1228 + (J 235 7))))) < 2147483648 := hA.1 _ _
          refine s_X12_within (fun (w18 : ((48 : Int) ≤ (J 236 (Int.toNat (wr (1228 + (J 235 7))))) ∧ ((J 236 (Int.toNat (wr (1228 + (J 235 7))))) : Int) ≤ 57)) => ?_) (fun (w18 : ¬ ((48 : Int) ≤ (J 236 (Int.toNat (wr (1228 + (J 235 7))))) ∧ ((J 236 (Int.toNat (wr (1228 + (J 235 7))))) : Int) ≤ 57)) => ?_)
          ·
            refine ⟨fun c => absurd c (show (¬ ((1 : Int) = 0)) from by decide), fun _ => ?_⟩
            refine ⟨rfl, (by decide), ?_⟩
            refine ⟨fun c => absurd c (show (¬ ((1 : Int) = 0)) from by decide), fun _ => ?_⟩
            refine ⟨_, rfl, (by decide), ?_⟩
            refine ⟨_, rfl, (by decide), ?_⟩
            have n19 : (wr ((J 235 7) + 1)) = (J 235 7) + 1 := wr_id (show -2147483648 ≤ ((J 235 7) + 1 : Int) ∧ ((J 235 7) + 1 : Int) < 2147483648 from by omega)
            have p20 : (0 : Int) ≤ (wr ((J 235 7) + 1)) ∧ ((wr ((J 235 7) + 1)) : Int) ≤ 64 := by first | omega | (simp only [wr, wl] at *; omega)
            exact ih a b (uI J 235 7 (wr ((J 235 7) + 1))) (Rg.u hJ (Pr_x7 p20)) (fun k j hk => ((uI_o (by omega))).trans ((hV k j (by omega)))) (show I 235 7 ≤ (J 235 6) from by first | omega | (simp only [wr, wl] at *; omega)) (show (J 235 6) ≤ (wr ((J 235 7) + 1)) from by first | omega | (simp only [wr, wl] at *; omega)) (show (wr ((J 235 7) + 1)) ≤ I 236 2 from by first | omega | (simp only [wr, wl] at *; omega)) (show (J 235 6) < I 236 2 → (J 235 6) < (wr ((J 235 7) + 1)) from by first | omega | (simp only [wr, wl] at *; omega)) (show (64 - (wr ((J 235 7) + 1))).toNat < m from by omega)
          ·
            refine ⟨fun _ => ?_, fun c => absurd (show ((0 : Int) = 0) from by decide) c⟩
            refine ⟨rfl, (by decide), ?_⟩
            refine ⟨fun _ => ?_, fun c => absurd (show ((0 : Int) = 0) from by decide) c⟩
            have r21 : 0 ≤ (I 235 7) ∧ (I 235 7) ≤ 64 := Rg.f7 hR
            exact ⟨rfl, hQ _ hJ (fun k j hk => (hV k j (by omega))) (show (I 235 7) ≤ (J 235 6) from by first | omega | (simp only [wr, wl] at *; omega)) (show (J 235 6) ≤ (J 235 7) from by first | omega | (simp only [wr, wl] at *; omega)) (show (J 235 7) ≤ (I 236 2) from by first | omega | (simp only [wr, wl] at *; omega)) (show (J 235 6) < (I 236 2) → (J 235 6) < (J 235 7) from by first | omega | (simp only [wr, wl] at *; omega))⟩
    ·
      refine ⟨_, rfl, (by decide), ?_⟩
      refine ⟨⟨_, rfl, (by decide)⟩, ?_⟩
      refine Call_wp (lv := [some (vr 235), some (vi (J 235 7)), some (vi 97), some (vi 122)]) (by decide) ckX12_isByte [] rfl rfl ?_
      refine ⟨_, rfl, (by decide), ?_⟩
      refine fun w0 hw0 => ?_; obtain rfl : w0 = some 236 := hw0.symm.trans (FS.g hF rfl)
      refine ⟨_, rfl, (by decide), (by decide), (by decide), ?_⟩
      have r22 : 0 ≤ (I 236 2) ∧ (I 236 2) ≤ 64 := Rg.n2 hR
      have u23 : (J 236 2) = (I 236 2) := hV _ _ (by first | omega | decide)
      have a24 : -2147483648 ≤ (J 236 2) ∧ (J 236 2) < 2147483648 := hA.1 _ _
      have r25 : 0 ≤ (J 236 2) ∧ (J 236 2) ≤ 64 := Rg.n2 hJ
      refine ⟨fun (c26 : (((J 236 2) : Int) ≤ (J 235 7))) => ?_, fun (c26 : (¬ (((J 236 2) : Int) ≤ (J 235 7)))) => ?_⟩
      ·
        refine ⟨rfl, (by decide), ?_⟩
        refine ⟨fun c => absurd (show ((0 : Int) = 0) from by decide) c, fun _ => ?_⟩
        refine ⟨fun (c27 : ((b : Int) = 0)) => ?_, fun (c27 : (¬ ((b : Int) = 0))) => ?_⟩
        ·
          have r28 : 0 ≤ (I 235 7) ∧ (I 235 7) ≤ 64 := Rg.f7 hR
          exact ⟨rfl, hQ _ hJ (fun k j hk => (hV k j (by omega))) (show (I 235 7) ≤ (J 235 6) from by first | omega | (simp only [wr, wl] at *; omega)) (show (J 235 6) ≤ (J 235 7) from by first | omega | (simp only [wr, wl] at *; omega)) (show (J 235 7) ≤ (I 236 2) from by first | omega | (simp only [wr, wl] at *; omega)) (show (J 235 6) < (I 236 2) → (J 235 6) < (J 235 7) from by first | omega | (simp only [wr, wl] at *; omega))⟩
        ·
          refine ⟨_, rfl, (by decide), ?_⟩
          refine ⟨⟨_, rfl, (by decide)⟩, ?_⟩
          refine Call_wp (lv := [some (vr 235), some (vi (J 235 7)), some (vi 48), some (vi 57)]) (by decide) ckX12_isByte [] rfl rfl ?_
          refine ⟨_, rfl, (by decide), ?_⟩
          refine fun w0 hw0 => ?_; obtain rfl : w0 = some 236 := hw0.symm.trans (FS.g hF rfl)
          refine ⟨_, rfl, (by decide), (by decide), (by decide), ?_⟩
          refine ⟨fun _ => ?_, fun c => absurd (show (((J 236 2) : Int) ≤ (J 235 7)) from by first | omega | (simp only [wr, wl] at *; omega)) c⟩
          refine ⟨rfl, (by decide), ?_⟩
          refine ⟨fun _ => ?_, fun c => absurd (show ((0 : Int) = 0) from by decide) c⟩
          have r29 : 0 ≤ (I 235 7) ∧ (I 235 7) ≤ 64 := Rg.f7 hR
          exact ⟨rfl, hQ _ hJ (fun k j hk => (hV k j (by omega))) (show (I 235 7) ≤ (J 235 6) from by first | omega | (simp only [wr, wl] at *; omega)) (show (J 235 6) ≤ (J 235 7) from by first | omega | (simp only [wr, wl] at *; omega)) (show (J 235 7) ≤ (I 236 2) from by first | omega | (simp only [wr, wl] at *; omega)) (show (J 235 6) < (I 236 2) → (J 235 6) < (J 235 7) from by first | omega | (simp only [wr, wl] at *; omega))⟩
      ·
        refine ⟨_, rfl, (by decide), ?_⟩
        refine fun w0 hw0 => ?_; obtain rfl : w0 = some 236 := hw0.symm.trans (FS.g hF rfl)
        have n30 : (wr (1228 + (J 235 7))) = 1228 + (J 235 7) := wr_id (show -2147483648 ≤ (1228 + (J 235 7) : Int) ∧ (1228 + (J 235 7) : Int) < 2147483648 from by omega)
        refine ⟨_, rfl, (by decide), (show (0 : Int) ≤ (wr (1228 + (J 235 7))) from by first | omega | (simp only [wr, wl] at *; omega)), (show (wr (1228 + (J 235 7))) < (1340 : Int) from by first | omega | (simp only [wr, wl] at *; omega)), ?_⟩
        have u31 : (J 236 (Int.toNat (wr (1228 + (J 235 7))))) = (I 236 (Int.toNat (wr (1228 + (J 235 7))))) := hV _ _ (by first | omega | decide)
        have a32 : -2147483648 ≤ (J 236 (Int.toNat (wr (1228 + (J 235 7))))) ∧ (J 236 (Int.toNat (wr (1228 + (J 235 7))))) < 2147483648 := hA.1 _ _
        refine s_X12_within (fun (w33 : ((97 : Int) ≤ (J 236 (Int.toNat (wr (1228 + (J 235 7))))) ∧ ((J 236 (Int.toNat (wr (1228 + (J 235 7))))) : Int) ≤ 122)) => ?_) (fun (w33 : ¬ ((97 : Int) ≤ (J 236 (Int.toNat (wr (1228 + (J 235 7))))) ∧ ((J 236 (Int.toNat (wr (1228 + (J 235 7))))) : Int) ≤ 122)) => ?_)
        ·
          refine ⟨fun c => absurd c (show (¬ ((1 : Int) = 0)) from by decide), fun _ => ?_⟩
          refine ⟨rfl, (by decide), ?_⟩
          refine ⟨fun _ => ?_, fun c => absurd c (show (¬ (1 : Int) = 0) from by decide)⟩
          refine ⟨_, rfl, (by decide), ?_⟩
          refine ⟨_, rfl, (by decide), ?_⟩
          have n34 : (wr ((J 235 7) + 1)) = (J 235 7) + 1 := wr_id (show -2147483648 ≤ ((J 235 7) + 1 : Int) ∧ ((J 235 7) + 1 : Int) < 2147483648 from by omega)
          have p35 : (0 : Int) ≤ (wr ((J 235 7) + 1)) ∧ ((wr ((J 235 7) + 1)) : Int) ≤ 64 := by first | omega | (simp only [wr, wl] at *; omega)
          exact ih a b (uI J 235 7 (wr ((J 235 7) + 1))) (Rg.u hJ (Pr_x7 p35)) (fun k j hk => ((uI_o (by omega))).trans ((hV k j (by omega)))) (show I 235 7 ≤ (J 235 6) from by first | omega | (simp only [wr, wl] at *; omega)) (show (J 235 6) ≤ (wr ((J 235 7) + 1)) from by first | omega | (simp only [wr, wl] at *; omega)) (show (wr ((J 235 7) + 1)) ≤ I 236 2 from by first | omega | (simp only [wr, wl] at *; omega)) (show (J 235 6) < I 236 2 → (J 235 6) < (wr ((J 235 7) + 1)) from by first | omega | (simp only [wr, wl] at *; omega)) (show (64 - (wr ((J 235 7) + 1))).toNat < m from by omega)
        ·
          refine ⟨fun _ => ?_, fun c => absurd (show ((0 : Int) = 0) from by decide) c⟩
          refine ⟨rfl, (by decide), ?_⟩
          refine ⟨fun c => absurd (show ((0 : Int) = 0) from by decide) c, fun _ => ?_⟩
          refine ⟨fun (c36 : ((b : Int) = 0)) => ?_, fun (c36 : (¬ ((b : Int) = 0))) => ?_⟩
          ·
            have r37 : 0 ≤ (I 235 7) ∧ (I 235 7) ≤ 64 := Rg.f7 hR
            exact ⟨rfl, hQ _ hJ (fun k j hk => (hV k j (by omega))) (show (I 235 7) ≤ (J 235 6) from by first | omega | (simp only [wr, wl] at *; omega)) (show (J 235 6) ≤ (J 235 7) from by first | omega | (simp only [wr, wl] at *; omega)) (show (J 235 7) ≤ (I 236 2) from by first | omega | (simp only [wr, wl] at *; omega)) (show (J 235 6) < (I 236 2) → (J 235 6) < (J 235 7) from by first | omega | (simp only [wr, wl] at *; omega))⟩
          ·
            refine ⟨_, rfl, (by decide), ?_⟩
            refine ⟨⟨_, rfl, (by decide)⟩, ?_⟩
            refine Call_wp (lv := [some (vr 235), some (vi (J 235 7)), some (vi 48), some (vi 57)]) (by decide) ckX12_isByte [] rfl rfl ?_
            refine ⟨_, rfl, (by decide), ?_⟩
            refine fun w0 hw0 => ?_; obtain rfl : w0 = some 236 := hw0.symm.trans (FS.g hF rfl)
            refine ⟨_, rfl, (by decide), (by decide), (by decide), ?_⟩
            refine ⟨fun c => absurd c (show (¬ (((J 236 2) : Int) ≤ (J 235 7))) from by first | omega | (simp only [wr, wl] at *; omega)), fun _ => ?_⟩
            refine ⟨_, rfl, (by decide), ?_⟩
            refine fun w0 hw0 => ?_; obtain rfl : w0 = some 236 := hw0.symm.trans (FS.g hF rfl)
            refine ⟨_, rfl, (by decide), (show (0 : Int) ≤ (wr (1228 + (J 235 7))) from by first | omega | (simp only [wr, wl] at *; omega)), (show (wr (1228 + (J 235 7))) < (1340 : Int) from by first | omega | (simp only [wr, wl] at *; omega)), ?_⟩
            refine s_X12_within (fun (w38 : ((48 : Int) ≤ (J 236 (Int.toNat (wr (1228 + (J 235 7))))) ∧ ((J 236 (Int.toNat (wr (1228 + (J 235 7))))) : Int) ≤ 57)) => ?_) (fun (w38 : ¬ ((48 : Int) ≤ (J 236 (Int.toNat (wr (1228 + (J 235 7))))) ∧ ((J 236 (Int.toNat (wr (1228 + (J 235 7))))) : Int) ≤ 57)) => ?_)
            ·
              refine ⟨fun c => absurd c (show (¬ ((1 : Int) = 0)) from by decide), fun _ => ?_⟩
              refine ⟨rfl, (by decide), ?_⟩
              refine ⟨fun c => absurd c (show (¬ ((1 : Int) = 0)) from by decide), fun _ => ?_⟩
              refine ⟨_, rfl, (by decide), ?_⟩
              refine ⟨_, rfl, (by decide), ?_⟩
              have n39 : (wr ((J 235 7) + 1)) = (J 235 7) + 1 := wr_id (show -2147483648 ≤ ((J 235 7) + 1 : Int) ∧ ((J 235 7) + 1 : Int) < 2147483648 from by omega)
              have p40 : (0 : Int) ≤ (wr ((J 235 7) + 1)) ∧ ((wr ((J 235 7) + 1)) : Int) ≤ 64 := by first | omega | (simp only [wr, wl] at *; omega)
              exact ih a b (uI J 235 7 (wr ((J 235 7) + 1))) (Rg.u hJ (Pr_x7 p40)) (fun k j hk => ((uI_o (by omega))).trans ((hV k j (by omega)))) (show I 235 7 ≤ (J 235 6) from by first | omega | (simp only [wr, wl] at *; omega)) (show (J 235 6) ≤ (wr ((J 235 7) + 1)) from by first | omega | (simp only [wr, wl] at *; omega)) (show (wr ((J 235 7) + 1)) ≤ I 236 2 from by first | omega | (simp only [wr, wl] at *; omega)) (show (J 235 6) < I 236 2 → (J 235 6) < (wr ((J 235 7) + 1)) from by first | omega | (simp only [wr, wl] at *; omega)) (show (64 - (wr ((J 235 7) + 1))).toNat < m from by omega)
            ·
              refine ⟨fun _ => ?_, fun c => absurd (show ((0 : Int) = 0) from by decide) c⟩
              refine ⟨rfl, (by decide), ?_⟩
              refine ⟨fun _ => ?_, fun c => absurd (show ((0 : Int) = 0) from by decide) c⟩
              have r41 : 0 ≤ (I 235 7) ∧ (I 235 7) ≤ 64 := Rg.f7 hR
              exact ⟨rfl, hQ _ hJ (fun k j hk => (hV k j (by omega))) (show (I 235 7) ≤ (J 235 6) from by first | omega | (simp only [wr, wl] at *; omega)) (show (J 235 6) ≤ (J 235 7) from by first | omega | (simp only [wr, wl] at *; omega)) (show (J 235 7) ≤ (I 236 2) from by first | omega | (simp only [wr, wl] at *; omega)) (show (J 235 6) < (I 236 2) → (J 235 6) < (J 235 7) from by first | omega | (simp only [wr, wl] at *; omega))⟩
theorem r_goOn_l1 (hF : FS F) (hR : Rg I) (h2 : I 235 7 ≤ I 236 2) (hQ : ∀ (I' : pI), Rg I' → (∀ k j, ¬ ((k = 235 ∧ (j = 6 ∨ j = 7))) → I' k j = I k j) → ((I 235 7) ≤ (I' 235 6)) → ((I' 235 6) ≤ (I' 235 7)) → ((I' 235 7) ≤ (I 236 2)) → ((I' 235 6) < (I 236 2) → (I' 235 6) < (I' 235 7)) → Q none F I') : ∀ (m : Nat) ( : Int) (J : pI), Rg J → (∀ k j, ¬ ((k = 235 ∧ (j = 6 ∨ j = 7))) → J k j = I k j) → I 235 7 ≤ (J 235 6) → (J 235 6) ≤ I 236 2 → (64 - (J 235 6)).toNat < m → GoN G (d + 2) kX12_goOn NP NP 8 [some (vr 235), none, none] [] F J Q := by
  intro m
  induction m with
  | zero => intro  J hJ hV _ _ h; exact absurd h (Nat.not_lt_zero _)
  | succ m ih =>
    intro  J hJ hV c100 c101 hm
    refine GoN_in (fun hok hA => ?_)
    have g2 := Rg.n2 hR (Or.inl rfl)
    have r1 : 0 ≤ (J 235 6) ∧ (J 235 6) ≤ 64 := Rg.f6 hJ
    have a2 : -2147483648 ≤ (J 235 6) ∧ (J 235 6) < 2147483648 := hA.1 _ _
    refine Go_wp (by decide) ckX12_goOn [8, 97] ?_
    refine ⟨_, rfl, (by decide), ?_⟩
    refine ⟨⟨_, rfl, (by decide)⟩, ?_⟩
    refine Call_wp (lv := [some (vr 235), some (vi (J 235 6)), some (vi 32), some (vi 32)]) (by decide) ckX12_isByte [] rfl rfl ?_
    refine ⟨_, rfl, (by decide), ?_⟩
    refine fun w0 hw0 => ?_; obtain rfl : w0 = some 236 := hw0.symm.trans (FS.g hF rfl)
    refine ⟨_, rfl, (by decide), (by decide), (by decide), ?_⟩
    have r3 : 0 ≤ (I 236 2) ∧ (I 236 2) ≤ 64 := Rg.n2 hR
    have u4 : (J 236 2) = (I 236 2) := hV _ _ (by first | omega | decide)
    have a5 : -2147483648 ≤ (J 236 2) ∧ (J 236 2) < 2147483648 := hA.1 _ _
    have r6 : 0 ≤ (J 236 2) ∧ (J 236 2) ≤ 64 := Rg.n2 hJ
    refine ⟨fun (c7 : (((J 236 2) : Int) ≤ (J 235 6))) => ?_, fun (c7 : (¬ (((J 236 2) : Int) ≤ (J 235 6)))) => ?_⟩
    ·
      refine ⟨rfl, (by decide), ?_⟩
      refine ⟨fun _ => ?_, fun c => absurd (show ((0 : Int) = 0) from by decide) c⟩
      refine ⟨_, rfl, (by decide), ?_⟩
      refine ⟨_, rfl, (by decide), ?_⟩
      have p8 : (0 : Int) ≤ (J 235 6) ∧ ((J 235 6) : Int) ≤ 64 := by first | omega | (simp only [wr, wl] at *; omega)
      refine ⟨_, rfl, (by decide), ?_⟩
      refine ⟨⟨_, rfl, (by decide)⟩, ?_⟩
      refine Call_wp (lv := [some (vr 235), some (vi (J 235 6)), some (vi 97), some (vi 122)]) (by decide) ckX12_isByte [] rfl rfl ?_
      refine ⟨_, rfl, (by decide), ?_⟩
      refine fun w0 hw0 => ?_; obtain rfl : w0 = some 236 := hw0.symm.trans (FS.g hF rfl)
      refine ⟨_, rfl, (by decide), (by decide), (by decide), ?_⟩
      refine ⟨fun _ => ?_, fun c => absurd (show (((J 236 2) : Int) ≤ (J 235 6)) from by first | omega | (simp only [wr, wl] at *; omega)) c⟩
      refine ⟨rfl, (by decide), ?_⟩
      refine ⟨_, rfl, (by decide), ?_⟩
      refine ⟨⟨_, rfl, (by decide)⟩, ?_⟩
      refine Call_wp (lv := [some (vr 235), some (vi (J 235 6)), some (vi 48), some (vi 57)]) (by decide) ckX12_isByte [] rfl rfl ?_
      refine ⟨_, rfl, (by decide), ?_⟩
      refine fun w0 hw0 => ?_; obtain rfl : w0 = some 236 := hw0.symm.trans (FS.g hF rfl)
      refine ⟨_, rfl, (by decide), (by decide), (by decide), ?_⟩
      refine ⟨fun _ => ?_, fun c => absurd (show (((J 236 2) : Int) ≤ (J 235 6)) from by first | omega | (simp only [wr, wl] at *; omega)) c⟩
      refine ⟨rfl, (by decide), ?_⟩
      refine ⟨_, rfl, (by decide), ?_⟩
      refine ⟨_, rfl, (by decide), ?_⟩
      refine ⟨_, rfl, (by decide), ?_⟩
      refine fun w0 hw0 => ?_; obtain rfl : w0 = some 236 := hw0.symm.trans (FS.g hF rfl)
      refine ⟨_, rfl, (by decide), (by decide), (by decide), ?_⟩
      refine ⟨fun _ => ?_, fun c => absurd (show (((J 236 2) : Int) ≤ (J 235 6)) from by first | omega | (simp only [wr, wl] at *; omega)) c⟩
      refine ⟨_, rfl, (by decide), ?_⟩
      have n9 : (wr ((J 235 6) + 0)) = (J 235 6) + 0 := wr_id (show -2147483648 ≤ ((J 235 6) + 0 : Int) ∧ ((J 235 6) + 0 : Int) < 2147483648 from by omega)
      have p10 : (0 : Int) ≤ (wr ((J 235 6) + 0)) ∧ ((wr ((J 235 6) + 0)) : Int) ≤ 64 := by first | omega | (simp only [wr, wl] at *; omega)
      refine r_goOn_l2 hF hR h2 hQ _ 0 0 (uI (uI J 235 7 (J 235 6)) 235 7 (wr ((J 235 6) + 0))) (Rg.u (Rg.u hJ (Pr_x7 p8)) (Pr_x7 p10)) (fun k j hk => ((uI_o (by omega))).trans (((uI_o (by omega))).trans ((hV k j (by omega))))) (show I 235 7 ≤ (J 235 6) from by first | omega | (simp only [wr, wl] at *; omega)) (show (J 235 6) ≤ (wr ((J 235 6) + 0)) from by first | omega | (simp only [wr, wl] at *; omega)) (show (wr ((J 235 6) + 0)) ≤ I 236 2 from by first | omega | (simp only [wr, wl] at *; omega)) (show (J 235 6) < I 236 2 → (J 235 6) < (wr ((J 235 6) + 0)) from by first | omega | (simp only [wr, wl] at *; omega)) (Nat.lt_succ_self _)
    ·
      refine ⟨_, rfl, (by decide), ?_⟩
      refine fun w0 hw0 => ?_; obtain rfl : w0 = some 236 := hw0.symm.trans (FS.g hF rfl)
      have n11 : (wr (1228 + (J 235 6))) = 1228 + (J 235 6) := wr_id (show -2147483648 ≤ (1228 + (J 235 6) : Int) ∧ (1228 + (J 235 6) : Int) < 2147483648 from by omega)
      refine ⟨_, rfl, (by decide), (show (0 : Int) ≤ (wr (1228 + (J 235 6))) from by first | omega | (simp only [wr, wl] at *; omega)), (show (wr (1228 + (J 235 6))) < (1340 : Int) from by first | omega | (simp only [wr, wl] at *; omega)), ?_⟩
      have u12 : (J 236 (Int.toNat (wr (1228 + (J 235 6))))) = (I 236 (Int.toNat (wr (1228 + (J 235 6))))) := hV _ _ (by first | omega | decide)
      have a13 : -2147483648 ≤ (J 236 (Int.toNat (wr (1228 + (J 235 6))))) ∧ (J 236 (Int.toNat (wr (1228 + (J 235 6))))) < 2147483648 := hA.1 _ _
      refine s_X12_within (fun (w14 : ((32 : Int) ≤ (J 236 (Int.toNat (wr (1228 + (J 235 6))))) ∧ ((J 236 (Int.toNat (wr (1228 + (J 235 6))))) : Int) ≤ 32)) => ?_) (fun (w14 : ¬ ((32 : Int) ≤ (J 236 (Int.toNat (wr (1228 + (J 235 6))))) ∧ ((J 236 (Int.toNat (wr (1228 + (J 235 6))))) : Int) ≤ 32)) => ?_)
      ·
        refine ⟨fun c => absurd c (show (¬ ((1 : Int) = 0)) from by decide), fun _ => ?_⟩
        refine ⟨rfl, (by decide), ?_⟩
        refine ⟨fun c => absurd c (show (¬ ((1 : Int) = 0)) from by decide), fun _ => ?_⟩
        refine ⟨_, rfl, (by decide), ?_⟩
        refine ⟨_, rfl, (by decide), ?_⟩
        have n15 : (wr ((J 235 6) + 1)) = (J 235 6) + 1 := wr_id (show -2147483648 ≤ ((J 235 6) + 1 : Int) ∧ ((J 235 6) + 1 : Int) < 2147483648 from by omega)
        have p16 : (0 : Int) ≤ (wr ((J 235 6) + 1)) ∧ ((wr ((J 235 6) + 1)) : Int) ≤ 64 := by first | omega | (simp only [wr, wl] at *; omega)
        exact ih  (uI J 235 6 (wr ((J 235 6) + 1))) (Rg.u hJ (Pr_x6 p16)) (fun k j hk => ((uI_o (by omega))).trans ((hV k j (by omega)))) (show I 235 7 ≤ (wr ((J 235 6) + 1)) from by first | omega | (simp only [wr, wl] at *; omega)) (show (wr ((J 235 6) + 1)) ≤ I 236 2 from by first | omega | (simp only [wr, wl] at *; omega)) (show (64 - (wr ((J 235 6) + 1))).toNat < m from by omega)
      ·
        refine ⟨fun _ => ?_, fun c => absurd (show ((0 : Int) = 0) from by decide) c⟩
        refine ⟨rfl, (by decide), ?_⟩
        refine ⟨fun _ => ?_, fun c => absurd (show ((0 : Int) = 0) from by decide) c⟩
        refine ⟨_, rfl, (by decide), ?_⟩
        refine ⟨_, rfl, (by decide), ?_⟩
        have p17 : (0 : Int) ≤ (J 235 6) ∧ ((J 235 6) : Int) ≤ 64 := by first | omega | (simp only [wr, wl] at *; omega)
        refine ⟨_, rfl, (by decide), ?_⟩
        refine ⟨⟨_, rfl, (by decide)⟩, ?_⟩
        refine Call_wp (lv := [some (vr 235), some (vi (J 235 6)), some (vi 97), some (vi 122)]) (by decide) ckX12_isByte [] rfl rfl ?_
        refine ⟨_, rfl, (by decide), ?_⟩
        refine fun w0 hw0 => ?_; obtain rfl : w0 = some 236 := hw0.symm.trans (FS.g hF rfl)
        refine ⟨_, rfl, (by decide), (by decide), (by decide), ?_⟩
        refine ⟨fun c => absurd c (show (¬ (((J 236 2) : Int) ≤ (J 235 6))) from by first | omega | (simp only [wr, wl] at *; omega)), fun _ => ?_⟩
        refine ⟨_, rfl, (by decide), ?_⟩
        refine fun w0 hw0 => ?_; obtain rfl : w0 = some 236 := hw0.symm.trans (FS.g hF rfl)
        refine ⟨_, rfl, (by decide), (show (0 : Int) ≤ (wr (1228 + (J 235 6))) from by first | omega | (simp only [wr, wl] at *; omega)), (show (wr (1228 + (J 235 6))) < (1340 : Int) from by first | omega | (simp only [wr, wl] at *; omega)), ?_⟩
        refine s_X12_within (fun (w18 : ((97 : Int) ≤ (J 236 (Int.toNat (wr (1228 + (J 235 6))))) ∧ ((J 236 (Int.toNat (wr (1228 + (J 235 6))))) : Int) ≤ 122)) => ?_) (fun (w18 : ¬ ((97 : Int) ≤ (J 236 (Int.toNat (wr (1228 + (J 235 6))))) ∧ ((J 236 (Int.toNat (wr (1228 + (J 235 6))))) : Int) ≤ 122)) => ?_)
        ·
          refine ⟨fun c => absurd c (show (¬ ((1 : Int) = 0)) from by decide), fun _ => ?_⟩
          refine ⟨rfl, (by decide), ?_⟩
          refine ⟨_, rfl, (by decide), ?_⟩
          refine ⟨⟨_, rfl, (by decide)⟩, ?_⟩
          refine Call_wp (lv := [some (vr 235), some (vi (J 235 6)), some (vi 48), some (vi 57)]) (by decide) ckX12_isByte [] rfl rfl ?_
          refine ⟨_, rfl, (by decide), ?_⟩
          refine fun w0 hw0 => ?_; obtain rfl : w0 = some 236 := hw0.symm.trans (FS.g hF rfl)
          refine ⟨_, rfl, (by decide), (by decide), (by decide), ?_⟩
          refine ⟨fun c => absurd c (show (¬ (((J 236 2) : Int) ≤ (J 235 6))) from by first | omega | (simp only [wr, wl] at *; omega)), fun _ => ?_⟩
          refine ⟨_, rfl, (by decide), ?_⟩
          refine fun w0 hw0 => ?_; obtain rfl : w0 = some 236 := hw0.symm.trans (FS.g hF rfl)
          refine ⟨_, rfl, (by decide), (show (0 : Int) ≤ (wr (1228 + (J 235 6))) from by first | omega | (simp only [wr, wl] at *; omega)), (show (wr (1228 + (J 235 6))) < (1340 : Int) from by first | omega | (simp only [wr, wl] at *; omega)), ?_⟩
          refine s_X12_within (fun hw => absurd hw (show ¬ ((48 : Int) ≤ (J 236 (Int.toNat (wr (1228 + (J 235 6))))) ∧ ((J 236 (Int.toNat (wr (1228 + (J 235 6))))) : Int) ≤ 57) from by first | omega | (simp only [wr, wl] at *; omega))) (fun _ => ?_)
          refine ⟨fun _ => ?_, fun c => absurd (show ((0 : Int) = 0) from by decide) c⟩
          refine ⟨rfl, (by decide), ?_⟩
          refine ⟨_, rfl, (by decide), ?_⟩
          refine ⟨_, rfl, (by decide), ?_⟩
          refine ⟨_, rfl, (by decide), ?_⟩
          refine fun w0 hw0 => ?_; obtain rfl : w0 = some 236 := hw0.symm.trans (FS.g hF rfl)
          refine ⟨_, rfl, (by decide), (by decide), (by decide), ?_⟩
          refine ⟨fun c => absurd c (show (¬ (((J 236 2) : Int) ≤ (J 235 6))) from by first | omega | (simp only [wr, wl] at *; omega)), fun _ => ?_⟩
          refine ⟨_, rfl, (by decide), ?_⟩
          have n19 : (wr ((J 235 6) + 1)) = (J 235 6) + 1 := wr_id (show -2147483648 ≤ ((J 235 6) + 1 : Int) ∧ ((J 235 6) + 1 : Int) < 2147483648 from by omega)
          have p20 : (0 : Int) ≤ (wr ((J 235 6) + 1)) ∧ ((wr ((J 235 6) + 1)) : Int) ≤ 64 := by first | omega | (simp only [wr, wl] at *; omega)
          refine r_goOn_l2 hF hR h2 hQ _ 1 0 (uI (uI J 235 7 (J 235 6)) 235 7 (wr ((J 235 6) + 1))) (Rg.u (Rg.u hJ (Pr_x7 p17)) (Pr_x7 p20)) (fun k j hk => ((uI_o (by omega))).trans (((uI_o (by omega))).trans ((hV k j (by omega))))) (show I 235 7 ≤ (J 235 6) from by first | omega | (simp only [wr, wl] at *; omega)) (show (J 235 6) ≤ (wr ((J 235 6) + 1)) from by first | omega | (simp only [wr, wl] at *; omega)) (show (wr ((J 235 6) + 1)) ≤ I 236 2 from by first | omega | (simp only [wr, wl] at *; omega)) (show (J 235 6) < I 236 2 → (J 235 6) < (wr ((J 235 6) + 1)) from by first | omega | (simp only [wr, wl] at *; omega)) (Nat.lt_succ_self _)
        ·
          refine ⟨fun _ => ?_, fun c => absurd (show ((0 : Int) = 0) from by decide) c⟩
          refine ⟨rfl, (by decide), ?_⟩
          refine ⟨_, rfl, (by decide), ?_⟩
          refine ⟨⟨_, rfl, (by decide)⟩, ?_⟩
          refine Call_wp (lv := [some (vr 235), some (vi (J 235 6)), some (vi 48), some (vi 57)]) (by decide) ckX12_isByte [] rfl rfl ?_
          refine ⟨_, rfl, (by decide), ?_⟩
          refine fun w0 hw0 => ?_; obtain rfl : w0 = some 236 := hw0.symm.trans (FS.g hF rfl)
          refine ⟨_, rfl, (by decide), (by decide), (by decide), ?_⟩
          refine ⟨fun c => absurd c (show (¬ (((J 236 2) : Int) ≤ (J 235 6))) from by first | omega | (simp only [wr, wl] at *; omega)), fun _ => ?_⟩
          refine ⟨_, rfl, (by decide), ?_⟩
          refine fun w0 hw0 => ?_; obtain rfl : w0 = some 236 := hw0.symm.trans (FS.g hF rfl)
          refine ⟨_, rfl, (by decide), (show (0 : Int) ≤ (wr (1228 + (J 235 6))) from by first | omega | (simp only [wr, wl] at *; omega)), (show (wr (1228 + (J 235 6))) < (1340 : Int) from by first | omega | (simp only [wr, wl] at *; omega)), ?_⟩
          refine s_X12_within (fun (w21 : ((48 : Int) ≤ (J 236 (Int.toNat (wr (1228 + (J 235 6))))) ∧ ((J 236 (Int.toNat (wr (1228 + (J 235 6))))) : Int) ≤ 57)) => ?_) (fun (w21 : ¬ ((48 : Int) ≤ (J 236 (Int.toNat (wr (1228 + (J 235 6))))) ∧ ((J 236 (Int.toNat (wr (1228 + (J 235 6))))) : Int) ≤ 57)) => ?_)
          ·
            refine ⟨fun c => absurd c (show (¬ ((1 : Int) = 0)) from by decide), fun _ => ?_⟩
            refine ⟨rfl, (by decide), ?_⟩
            refine ⟨_, rfl, (by decide), ?_⟩
            refine ⟨_, rfl, (by decide), ?_⟩
            refine ⟨_, rfl, (by decide), ?_⟩
            refine fun w0 hw0 => ?_; obtain rfl : w0 = some 236 := hw0.symm.trans (FS.g hF rfl)
            refine ⟨_, rfl, (by decide), (by decide), (by decide), ?_⟩
            refine ⟨fun c => absurd c (show (¬ (((J 236 2) : Int) ≤ (J 235 6))) from by first | omega | (simp only [wr, wl] at *; omega)), fun _ => ?_⟩
            refine ⟨_, rfl, (by decide), ?_⟩
            have n22 : (wr ((J 235 6) + 1)) = (J 235 6) + 1 := wr_id (show -2147483648 ≤ ((J 235 6) + 1 : Int) ∧ ((J 235 6) + 1 : Int) < 2147483648 from by omega)
            have p23 : (0 : Int) ≤ (wr ((J 235 6) + 1)) ∧ ((wr ((J 235 6) + 1)) : Int) ≤ 64 := by first | omega | (simp only [wr, wl] at *; omega)
            refine r_goOn_l2 hF hR h2 hQ _ 0 1 (uI (uI J 235 7 (J 235 6)) 235 7 (wr ((J 235 6) + 1))) (Rg.u (Rg.u hJ (Pr_x7 p17)) (Pr_x7 p23)) (fun k j hk => ((uI_o (by omega))).trans (((uI_o (by omega))).trans ((hV k j (by omega))))) (show I 235 7 ≤ (J 235 6) from by first | omega | (simp only [wr, wl] at *; omega)) (show (J 235 6) ≤ (wr ((J 235 6) + 1)) from by first | omega | (simp only [wr, wl] at *; omega)) (show (wr ((J 235 6) + 1)) ≤ I 236 2 from by first | omega | (simp only [wr, wl] at *; omega)) (show (J 235 6) < I 236 2 → (J 235 6) < (wr ((J 235 6) + 1)) from by first | omega | (simp only [wr, wl] at *; omega)) (Nat.lt_succ_self _)
          ·
            refine ⟨fun _ => ?_, fun c => absurd (show ((0 : Int) = 0) from by decide) c⟩
            refine ⟨rfl, (by decide), ?_⟩
            refine ⟨_, rfl, (by decide), ?_⟩
            refine ⟨_, rfl, (by decide), ?_⟩
            refine ⟨_, rfl, (by decide), ?_⟩
            refine fun w0 hw0 => ?_; obtain rfl : w0 = some 236 := hw0.symm.trans (FS.g hF rfl)
            refine ⟨_, rfl, (by decide), (by decide), (by decide), ?_⟩
            refine ⟨fun c => absurd c (show (¬ (((J 236 2) : Int) ≤ (J 235 6))) from by first | omega | (simp only [wr, wl] at *; omega)), fun _ => ?_⟩
            refine ⟨_, rfl, (by decide), ?_⟩
            have n24 : (wr ((J 235 6) + 1)) = (J 235 6) + 1 := wr_id (show -2147483648 ≤ ((J 235 6) + 1 : Int) ∧ ((J 235 6) + 1 : Int) < 2147483648 from by omega)
            have p25 : (0 : Int) ≤ (wr ((J 235 6) + 1)) ∧ ((wr ((J 235 6) + 1)) : Int) ≤ 64 := by first | omega | (simp only [wr, wl] at *; omega)
            refine r_goOn_l2 hF hR h2 hQ _ 0 0 (uI (uI J 235 7 (J 235 6)) 235 7 (wr ((J 235 6) + 1))) (Rg.u (Rg.u hJ (Pr_x7 p17)) (Pr_x7 p25)) (fun k j hk => ((uI_o (by omega))).trans (((uI_o (by omega))).trans ((hV k j (by omega))))) (show I 235 7 ≤ (J 235 6) from by first | omega | (simp only [wr, wl] at *; omega)) (show (J 235 6) ≤ (wr ((J 235 6) + 1)) from by first | omega | (simp only [wr, wl] at *; omega)) (show (wr ((J 235 6) + 1)) ≤ I 236 2 from by first | omega | (simp only [wr, wl] at *; omega)) (show (J 235 6) < I 236 2 → (J 235 6) < (wr ((J 235 6) + 1)) from by first | omega | (simp only [wr, wl] at *; omega)) (Nat.lt_succ_self _)
theorem r_goOn (hF : FS F) (hR : Rg I) (h2 : I 235 7 ≤ I 236 2) (hQ : ∀ (I' : pI), Rg I' → AR I' → (∀ k j, ¬ ((k = 235 ∧ (j = 6 ∨ j = 7))) → I' k j = I k j) → ((I 235 7) ≤ (I' 235 6)) → ((I' 235 6) ≤ (I' 235 7)) → ((I' 235 7) ≤ (I 236 2)) → ((I' 235 6) < (I 236 2) → (I' 235 6) < (I' 235 7)) → Q none F I') : CallN G (d + 2) kX12_goOn [vr 235] NP F I Q := by
  refine CallN_in (fun hok hA => CallN_out ?_)
  refine Call_wp (lv := [some (vr 235), none, none]) (by decide) ckX12_goOn [8] rfl rfl ?_
  refine ⟨_, rfl, (by decide), ?_⟩
  have r1 : 0 ≤ (I 235 7) ∧ (I 235 7) ≤ 64 := Rg.f7 hR
  refine ⟨_, rfl, (by decide), ?_⟩
  have a2 : -2147483648 ≤ (I 235 7) ∧ (I 235 7) < 2147483648 := hA.1 _ _
  have p3 : (0 : Int) ≤ (I 235 7) ∧ ((I 235 7) : Int) ≤ 64 := by first | omega | (simp only [wr, wl] at *; omega)
  refine r_goOn_l1 hF hR h2 (fun I' g1 g2 g3 g4 g5 g6 hv hA' => hQ _ g1 hA' g2 g3 g4 g5 g6) _  (uI I 235 6 (I 235 7)) (Rg.u hR (Pr_x6 p3)) (fun k j hk => (uI_o (by omega))) (show I 235 7 ≤ (I 235 7) from by first | omega | (simp only [wr, wl] at *; omega)) (show (I 235 7) ≤ I 236 2 from by first | omega | (simp only [wr, wl] at *; omega)) (Nat.lt_succ_self _)
theorem r_takes_9 (hF : FS F) (hR : Rg I) (h1 : I 235 6 ≤ I 235 7) (h2 : I 235 7 ≤ I 236 2) (h3 : I 235 6 < I 236 2 → I 235 6 < I 235 7) (hQ : ∀ (r : Int) (I' : pI), Rg I' → AR I' → iR r → (∀ k j, ¬ ((k = 235 ∧ (j = 6 ∨ j = 7))) → I' k j = I k j) → (r = 1 → (I 235 6) + 2 ≤ (I' 235 6)) → ((I' 235 6) ≤ (I' 235 7)) → ((I' 235 7) ≤ (I 236 2)) → ((I' 235 6) < (I 236 2) → (I' 235 6) < (I' 235 7)) → ((I 235 6) ≤ (I' 235 6)) → (r = 1 → (I 235 8) = 0) → (0 ≤ r ∧ r ≤ 1) → Q (some (vi r)) F I') : CallN G (d + 4) kX12_takes [vr 235, vr 4115] NP F I Q := by
  refine CallN_in (fun hok hA => CallN_out ?_)
  have g2 := Rg.n2 hR (Or.inl rfl)
  refine Call_wp (lv := [some (vr 235), some (vr 4115), none, none]) (by decide) ckX12_takes [] rfl rfl ?_
  refine ⟨_, rfl, (by decide), ?_⟩
  have a1 : -2147483648 ≤ (I 235 8) ∧ (I 235 8) < 2147483648 := hA.1 _ _
  refine ⟨fun (c2 : (¬ ((I 235 8) : Int) = 0)) => ?_, fun (c2 : (((I 235 8) : Int) = 0)) => ?_⟩
  ·
    refine ⟨fun _ => ?_, fun c => absurd (show ((0 : Int) = 0) from by decide) c⟩
    refine ⟨fun _ => ?_, fun c => absurd (show ((0 : Int) = 0) from by decide) c⟩
    have r3 : 0 ≤ (I 235 6) ∧ (I 235 6) ≤ 64 := Rg.f6 hR
    have a4 : -2147483648 ≤ (I 235 6) ∧ (I 235 6) < 2147483648 := hA.1 _ _
    have r5 : 0 ≤ (I 235 7) ∧ (I 235 7) ≤ 64 := Rg.f7 hR
    have a6 : -2147483648 ≤ (I 235 7) ∧ (I 235 7) < 2147483648 := hA.1 _ _
    have r7 : 0 ≤ (I 236 2) ∧ (I 236 2) ≤ 64 := Rg.n2 hR
    have a8 : -2147483648 ≤ (I 236 2) ∧ (I 236 2) < 2147483648 := hA.1 _ _
    exact ⟨rfl, (by decide), fun hv hA' => hQ _ _ hR hA' (hv _ rfl) (fun _ _ _ => rfl) (show 0 = 1 → (I 235 6) + 2 ≤ (I 235 6) from by first | omega | (simp only [wr, wl] at *; omega)) (show (I 235 6) ≤ (I 235 7) from by first | omega | (simp only [wr, wl] at *; omega)) (show (I 235 7) ≤ (I 236 2) from by first | omega | (simp only [wr, wl] at *; omega)) (show (I 235 6) < (I 236 2) → (I 235 6) < (I 235 7) from by first | omega | (simp only [wr, wl] at *; omega)) (show (I 235 6) ≤ (I 235 6) from by first | omega | (simp only [wr, wl] at *; omega)) (show 0 = 1 → (I 235 8) = 0 from by first | omega | (simp only [wr, wl] at *; omega)) (show 0 ≤ 0 ∧ 0 ≤ 1 from by first | omega | (simp only [wr, wl] at *; omega))⟩
  ·
    refine ⟨_, rfl, (by decide), ?_⟩
    have r9 : 0 ≤ (I 235 7) ∧ (I 235 7) ≤ 64 := Rg.f7 hR
    refine ⟨_, rfl, (by decide), ?_⟩
    have r10 : 0 ≤ (I 235 6) ∧ (I 235 6) ≤ 64 := Rg.f6 hR
    refine ⟨⟨9, (by decide), rfl⟩, ?_⟩
    refine Call_wp (lv := [some (vr 4115)]) (by decide) ckJ0_length_8abf5 [] rfl rfl ?_
    refine ⟨9, (by decide), rfl, ?_⟩
    refine Or.inr (Or.inr ⟨9, (by decide), rfl, ?_⟩)
    refine ⟨⟨9, (by decide), rfl⟩, ?_⟩
    refine Call_wp (lv := [some (vr 4115)]) (by decide) ckJ0_coder_7d493 [] rfl rfl ?_
    refine ⟨fun c => absurd c (show (¬ ((1 : Int) = 0)) from by decide), fun _ => ?_⟩
    refine ⟨9, (by decide), rfl, ?_⟩
    refine ⟨rfl, (by decide), ?_⟩
    refine ⟨rfl, ?_⟩
    have a11 : -2147483648 ≤ (I 235 7) ∧ (I 235 7) < 2147483648 := hA.1 _ _
    have a12 : -2147483648 ≤ (I 235 6) ∧ (I 235 6) < 2147483648 := hA.1 _ _
    have n13 : (wr ((I 235 7) - (I 235 6))) = (I 235 7) - (I 235 6) := wr_id (show -2147483648 ≤ ((I 235 7) - (I 235 6) : Int) ∧ ((I 235 7) - (I 235 6) : Int) < 2147483648 from by omega)
    refine ⟨fun (c14 : (¬ ((wr ((I 235 7) - (I 235 6))) : Int) = 2)) => ?_, fun (c14 : (((wr ((I 235 7) - (I 235 6))) : Int) = 2)) => ?_⟩
    ·
      refine ⟨fun _ => ?_, fun c => absurd (show ((0 : Int) = 0) from by decide) c⟩
      refine ⟨fun _ => ?_, fun c => absurd (show ((0 : Int) = 0) from by decide) c⟩
      have r15 : 0 ≤ (I 236 2) ∧ (I 236 2) ≤ 64 := Rg.n2 hR
      have a16 : -2147483648 ≤ (I 236 2) ∧ (I 236 2) < 2147483648 := hA.1 _ _
      exact ⟨rfl, (by decide), fun hv hA' => hQ _ _ hR hA' (hv _ rfl) (fun _ _ _ => rfl) (show 0 = 1 → (I 235 6) + 2 ≤ (I 235 6) from by first | omega | (simp only [wr, wl] at *; omega)) (show (I 235 6) ≤ (I 235 7) from by first | omega | (simp only [wr, wl] at *; omega)) (show (I 235 7) ≤ (I 236 2) from by first | omega | (simp only [wr, wl] at *; omega)) (show (I 235 6) < (I 236 2) → (I 235 6) < (I 235 7) from by first | omega | (simp only [wr, wl] at *; omega)) (show (I 235 6) ≤ (I 235 6) from by first | omega | (simp only [wr, wl] at *; omega)) (show 0 = 1 → (I 235 8) = 0 from by first | omega | (simp only [wr, wl] at *; omega)) (show 0 ≤ 0 ∧ 0 ≤ 1 from by first | omega | (simp only [wr, wl] at *; omega))⟩
    ·
      refine ⟨fun c => absurd c (show (¬ ((1 : Int) = 0)) from by decide), fun _ => ?_⟩
      refine ⟨⟨9, (by decide), rfl⟩, ?_⟩
      refine Call_wp (lv := [some (vr 4115)]) (by decide) ckJ0_length_8abf5 [] rfl rfl ?_
      refine ⟨9, (by decide), rfl, ?_⟩
      refine Or.inr (Or.inr ⟨9, (by decide), rfl, ?_⟩)
      refine ⟨⟨9, (by decide), rfl⟩, ?_⟩
      refine Call_wp (lv := [some (vr 4115)]) (by decide) ckJ0_coder_7d493 [] rfl rfl ?_
      refine ⟨fun c => absurd c (show (¬ ((1 : Int) = 0)) from by decide), fun _ => ?_⟩
      refine ⟨9, (by decide), rfl, ?_⟩
      refine ⟨rfl, (by decide), ?_⟩
      refine ⟨rfl, ?_⟩
      refine ⟨fun c => absurd c (show (¬ ((2 : Int) ≤ 0)) from by decide), fun _ => ?_⟩
      refine ⟨_, rfl, (by decide), ?_⟩
      refine fun w0 hw0 => ?_; obtain rfl : w0 = some 236 := hw0.symm.trans (FS.g hF rfl)
      refine ⟨_, rfl, (by decide), ?_⟩
      have n17 : (wr (1228 + (I 235 6))) = 1228 + (I 235 6) := wr_id (show -2147483648 ≤ (1228 + (I 235 6) : Int) ∧ (1228 + (I 235 6) : Int) < 2147483648 from by omega)
      have n18 : (wr ((wr (1228 + (I 235 6))) + 0)) = (wr (1228 + (I 235 6))) + 0 := wr_id (show -2147483648 ≤ ((wr (1228 + (I 235 6))) + 0 : Int) ∧ ((wr (1228 + (I 235 6))) + 0 : Int) < 2147483648 from by omega)
      refine ⟨_, rfl, (by decide), (show (0 : Int) ≤ (wr ((wr (1228 + (I 235 6))) + 0)) from by first | omega | (simp only [wr, wl] at *; omega)), (show (wr ((wr (1228 + (I 235 6))) + 0)) < (1340 : Int) from by first | omega | (simp only [wr, wl] at *; omega)), ?_⟩
      refine ⟨⟨9, (by decide), rfl⟩, ?_⟩
      refine Call_wp (lv := [some (vr 4115), some (vi 0)]) (by decide) ckJ0_charAt_5068e [] rfl rfl ?_
      refine ⟨⟨9, (by decide), rfl⟩, ?_⟩
      refine Call_wp (lv := [some (vr 4115)]) (by decide) ckJ0_isLatin1_aae02 [] rfl rfl ?_
      refine ⟨fun c => absurd c (show (¬ ((1 : Int) = 0)) from by decide), fun _ => ?_⟩
      refine ⟨9, (by decide), rfl, ?_⟩
      refine ⟨fun c => absurd (show ((0 : Int) = 0) from by decide) c, fun _ => ?_⟩
      refine ⟨rfl, (by decide), ?_⟩
      refine ⟨fun c => absurd c (show (¬ ((1 : Int) = 0)) from by decide), fun _ => ?_⟩
      refine ⟨9, (by decide), rfl, ?_⟩
      refine Call_wp (lv := [some (vr 4145), some (vi 0)]) (by decide) ckJ1_charAt_3b067 [] rfl rfl ?_
      refine Or.inr (Or.inr ⟨9, (by decide), rfl, ?_⟩)
      refine Call_wp (lv := [some (vi 0), some (vi 2)]) (by decide) ckJ0_checkIndex_df160 [] rfl rfl ?_
      refine Call_wp (lv := [some (vi 0), some (vi 2), some (gS G)]) (by decide) ckJ3_checkIndex_8e157 [] rfl rfl ?_
      refine ⟨fun c => absurd c (show (¬ ((0 : Int) < 0)) from by decide), fun _ => ?_⟩
      refine ⟨fun _ => ?_, fun c => absurd (show ((0 : Int) < 2) from by decide) c⟩
      refine ⟨rfl, ?_⟩
      refine ⟨rfl, ?_⟩
      refine ⟨9, (by decide), rfl, (by decide), (by decide), ?_⟩
      refine ⟨rfl, (by decide), ?_⟩
      refine ⟨rfl, (by decide), ?_⟩
      have a19 : -2147483648 ≤ (I 236 (Int.toNat (wr ((wr (1228 + (I 235 6))) + 0)))) ∧ (I 236 (Int.toNat (wr ((wr (1228 + (I 235 6))) + 0)))) < 2147483648 := hA.1 _ _
      refine ⟨fun (c20 : (¬ ((I 236 (Int.toNat (wr ((wr (1228 + (I 235 6))) + 0)))) : Int) = 103)) => ?_, fun (c20 : (((I 236 (Int.toNat (wr ((wr (1228 + (I 235 6))) + 0)))) : Int) = 103)) => ?_⟩
      ·
        refine ⟨fun _ => ?_, fun c => absurd (show ((0 : Int) = 0) from by decide) c⟩
        refine ⟨fun _ => ?_, fun c => absurd (show ((0 : Int) = 0) from by decide) c⟩
        have r21 : 0 ≤ (I 236 2) ∧ (I 236 2) ≤ 64 := Rg.n2 hR
        have a22 : -2147483648 ≤ (I 236 2) ∧ (I 236 2) < 2147483648 := hA.1 _ _
        exact ⟨rfl, (by decide), fun hv hA' => hQ _ _ hR hA' (hv _ rfl) (fun _ _ _ => rfl) (show 0 = 1 → (I 235 6) + 2 ≤ (I 235 6) from by first | omega | (simp only [wr, wl] at *; omega)) (show (I 235 6) ≤ (I 235 7) from by first | omega | (simp only [wr, wl] at *; omega)) (show (I 235 7) ≤ (I 236 2) from by first | omega | (simp only [wr, wl] at *; omega)) (show (I 235 6) < (I 236 2) → (I 235 6) < (I 235 7) from by first | omega | (simp only [wr, wl] at *; omega)) (show (I 235 6) ≤ (I 235 6) from by first | omega | (simp only [wr, wl] at *; omega)) (show 0 = 1 → (I 235 8) = 0 from by first | omega | (simp only [wr, wl] at *; omega)) (show 0 ≤ 0 ∧ 0 ≤ 1 from by first | omega | (simp only [wr, wl] at *; omega))⟩
      ·
        refine ⟨fun c => absurd c (show (¬ ((1 : Int) = 0)) from by decide), fun _ => ?_⟩
        refine ⟨⟨9, (by decide), rfl⟩, ?_⟩
        refine Call_wp (lv := [some (vr 4115)]) (by decide) ckJ0_length_8abf5 [] rfl rfl ?_
        refine ⟨9, (by decide), rfl, ?_⟩
        refine Or.inr (Or.inr ⟨9, (by decide), rfl, ?_⟩)
        refine ⟨⟨9, (by decide), rfl⟩, ?_⟩
        refine Call_wp (lv := [some (vr 4115)]) (by decide) ckJ0_coder_7d493 [] rfl rfl ?_
        refine ⟨fun c => absurd c (show (¬ ((1 : Int) = 0)) from by decide), fun _ => ?_⟩
        refine ⟨9, (by decide), rfl, ?_⟩
        refine ⟨rfl, (by decide), ?_⟩
        refine ⟨rfl, ?_⟩
        refine ⟨fun c => absurd c (show (¬ ((2 : Int) ≤ 1)) from by decide), fun _ => ?_⟩
        refine ⟨_, rfl, (by decide), ?_⟩
        refine fun w0 hw0 => ?_; obtain rfl : w0 = some 236 := hw0.symm.trans (FS.g hF rfl)
        refine ⟨_, rfl, (by decide), ?_⟩
        have n23 : (wr ((wr (1228 + (I 235 6))) + 1)) = (wr (1228 + (I 235 6))) + 1 := wr_id (show -2147483648 ≤ ((wr (1228 + (I 235 6))) + 1 : Int) ∧ ((wr (1228 + (I 235 6))) + 1 : Int) < 2147483648 from by omega)
        refine ⟨_, rfl, (by decide), (show (0 : Int) ≤ (wr ((wr (1228 + (I 235 6))) + 1)) from by first | omega | (simp only [wr, wl] at *; omega)), (show (wr ((wr (1228 + (I 235 6))) + 1)) < (1340 : Int) from by first | omega | (simp only [wr, wl] at *; omega)), ?_⟩
        refine ⟨⟨9, (by decide), rfl⟩, ?_⟩
        refine Call_wp (lv := [some (vr 4115), some (vi 1)]) (by decide) ckJ0_charAt_5068e [] rfl rfl ?_
        refine ⟨⟨9, (by decide), rfl⟩, ?_⟩
        refine Call_wp (lv := [some (vr 4115)]) (by decide) ckJ0_isLatin1_aae02 [] rfl rfl ?_
        refine ⟨fun c => absurd c (show (¬ ((1 : Int) = 0)) from by decide), fun _ => ?_⟩
        refine ⟨9, (by decide), rfl, ?_⟩
        refine ⟨fun c => absurd (show ((0 : Int) = 0) from by decide) c, fun _ => ?_⟩
        refine ⟨rfl, (by decide), ?_⟩
        refine ⟨fun c => absurd c (show (¬ ((1 : Int) = 0)) from by decide), fun _ => ?_⟩
        refine ⟨9, (by decide), rfl, ?_⟩
        refine Call_wp (lv := [some (vr 4145), some (vi 1)]) (by decide) ckJ1_charAt_3b067 [] rfl rfl ?_
        refine Or.inr (Or.inr ⟨9, (by decide), rfl, ?_⟩)
        refine Call_wp (lv := [some (vi 1), some (vi 2)]) (by decide) ckJ0_checkIndex_df160 [] rfl rfl ?_
        refine Call_wp (lv := [some (vi 1), some (vi 2), some (gS G)]) (by decide) ckJ3_checkIndex_8e157 [] rfl rfl ?_
        refine ⟨fun c => absurd c (show (¬ ((1 : Int) < 0)) from by decide), fun _ => ?_⟩
        refine ⟨fun _ => ?_, fun c => absurd (show ((1 : Int) < 2) from by decide) c⟩
        refine ⟨rfl, ?_⟩
        refine ⟨rfl, ?_⟩
        refine ⟨9, (by decide), rfl, (by decide), (by decide), ?_⟩
        refine ⟨rfl, (by decide), ?_⟩
        refine ⟨rfl, (by decide), ?_⟩
        have a24 : -2147483648 ≤ (I 236 (Int.toNat (wr ((wr (1228 + (I 235 6))) + 1)))) ∧ (I 236 (Int.toNat (wr ((wr (1228 + (I 235 6))) + 1)))) < 2147483648 := hA.1 _ _
        refine ⟨fun (c25 : (¬ ((I 236 (Int.toNat (wr ((wr (1228 + (I 235 6))) + 1)))) : Int) = 111)) => ?_, fun (c25 : (((I 236 (Int.toNat (wr ((wr (1228 + (I 235 6))) + 1)))) : Int) = 111)) => ?_⟩
        ·
          refine ⟨fun _ => ?_, fun c => absurd (show ((0 : Int) = 0) from by decide) c⟩
          refine ⟨fun _ => ?_, fun c => absurd (show ((0 : Int) = 0) from by decide) c⟩
          have r26 : 0 ≤ (I 236 2) ∧ (I 236 2) ≤ 64 := Rg.n2 hR
          have a27 : -2147483648 ≤ (I 236 2) ∧ (I 236 2) < 2147483648 := hA.1 _ _
          exact ⟨rfl, (by decide), fun hv hA' => hQ _ _ hR hA' (hv _ rfl) (fun _ _ _ => rfl) (show 0 = 1 → (I 235 6) + 2 ≤ (I 235 6) from by first | omega | (simp only [wr, wl] at *; omega)) (show (I 235 6) ≤ (I 235 7) from by first | omega | (simp only [wr, wl] at *; omega)) (show (I 235 7) ≤ (I 236 2) from by first | omega | (simp only [wr, wl] at *; omega)) (show (I 235 6) < (I 236 2) → (I 235 6) < (I 235 7) from by first | omega | (simp only [wr, wl] at *; omega)) (show (I 235 6) ≤ (I 235 6) from by first | omega | (simp only [wr, wl] at *; omega)) (show 0 = 1 → (I 235 8) = 0 from by first | omega | (simp only [wr, wl] at *; omega)) (show 0 ≤ 0 ∧ 0 ≤ 1 from by first | omega | (simp only [wr, wl] at *; omega))⟩
        ·
          refine ⟨fun c => absurd c (show (¬ ((1 : Int) = 0)) from by decide), fun _ => ?_⟩
          refine ⟨⟨9, (by decide), rfl⟩, ?_⟩
          refine Call_wp (lv := [some (vr 4115)]) (by decide) ckJ0_length_8abf5 [] rfl rfl ?_
          refine ⟨9, (by decide), rfl, ?_⟩
          refine Or.inr (Or.inr ⟨9, (by decide), rfl, ?_⟩)
          refine ⟨⟨9, (by decide), rfl⟩, ?_⟩
          refine Call_wp (lv := [some (vr 4115)]) (by decide) ckJ0_coder_7d493 [] rfl rfl ?_
          refine ⟨fun c => absurd c (show (¬ ((1 : Int) = 0)) from by decide), fun _ => ?_⟩
          refine ⟨9, (by decide), rfl, ?_⟩
          refine ⟨rfl, (by decide), ?_⟩
          refine ⟨rfl, ?_⟩
          refine ⟨fun _ => ?_, fun c => absurd (show ((2 : Int) ≤ 2) from by decide) c⟩
          refine ⟨fun c => absurd c (show (¬ ((1 : Int) = 0)) from by decide), fun _ => ?_⟩
          refine ⟨⟨_, rfl, (by decide)⟩, ?_⟩
          have r28 : 0 ≤ (I 236 2) ∧ (I 236 2) ≤ 64 := Rg.n2 hR
          have a29 : -2147483648 ≤ (I 236 2) ∧ (I 236 2) < 2147483648 := hA.1 _ _
          refine r_goOn hF hR (show (I 235 7) ≤ (I 236 2) from by first | omega | (simp only [wr, wl] at *; omega)) (fun I30 hR31 hA32 hW33 q34 q35 q36 q37 => ?_)
          have r38 : 0 ≤ (I30 235 6) ∧ (I30 235 6) ≤ 64 := Rg.f6 hR31
          have a39 : -2147483648 ≤ (I30 235 6) ∧ (I30 235 6) < 2147483648 := hA32.1 _ _
          have r40 : 0 ≤ (I30 235 7) ∧ (I30 235 7) ≤ 64 := Rg.f7 hR31
          have a41 : -2147483648 ≤ (I30 235 7) ∧ (I30 235 7) < 2147483648 := hA32.1 _ _
          exact ⟨rfl, (by decide), fun hv hA' => hQ _ _ hR31 hA' (hv _ rfl) (fun k j hk => (hW33 k j (by omega))) (show 1 = 1 → (I 235 6) + 2 ≤ (I30 235 6) from by first | omega | (simp only [wr, wl] at *; omega)) (show (I30 235 6) ≤ (I30 235 7) from by first | omega | (simp only [wr, wl] at *; omega)) (show (I30 235 7) ≤ (I 236 2) from by first | omega | (simp only [wr, wl] at *; omega)) (show (I30 235 6) < (I 236 2) → (I30 235 6) < (I30 235 7) from by first | omega | (simp only [wr, wl] at *; omega)) (show (I 235 6) ≤ (I30 235 6) from by first | omega | (simp only [wr, wl] at *; omega)) (show 1 = 1 → (I 235 8) = 0 from by first | omega | (simp only [wr, wl] at *; omega)) (show 0 ≤ 1 ∧ 1 ≤ 1 from by first | omega | (simp only [wr, wl] at *; omega))⟩
theorem r_takes_10 (hF : FS F) (hR : Rg I) (h1 : I 235 6 ≤ I 235 7) (h2 : I 235 7 ≤ I 236 2) (h3 : I 235 6 < I 236 2 → I 235 6 < I 235 7) (hQ : ∀ (r : Int) (I' : pI), Rg I' → AR I' → iR r → (∀ k j, ¬ ((k = 235 ∧ (j = 6 ∨ j = 7))) → I' k j = I k j) → (r = 1 → (I 235 6) + 4 ≤ (I' 235 6)) → ((I' 235 6) ≤ (I' 235 7)) → ((I' 235 7) ≤ (I 236 2)) → ((I' 235 6) < (I 236 2) → (I' 235 6) < (I' 235 7)) → ((I 235 6) ≤ (I' 235 6)) → (r = 1 → (I 235 8) = 0) → (0 ≤ r ∧ r ≤ 1) → Q (some (vi r)) F I') : CallN G (d + 4) kX12_takes [vr 235, vr 4116] NP F I Q := by
  refine CallN_in (fun hok hA => CallN_out ?_)
  have g2 := Rg.n2 hR (Or.inl rfl)
  refine Call_wp (lv := [some (vr 235), some (vr 4116), none, none]) (by decide) ckX12_takes [] rfl rfl ?_
  refine ⟨_, rfl, (by decide), ?_⟩
  have a1 : -2147483648 ≤ (I 235 8) ∧ (I 235 8) < 2147483648 := hA.1 _ _
  refine ⟨fun (c2 : (¬ ((I 235 8) : Int) = 0)) => ?_, fun (c2 : (((I 235 8) : Int) = 0)) => ?_⟩
  ·
    refine ⟨fun _ => ?_, fun c => absurd (show ((0 : Int) = 0) from by decide) c⟩
    refine ⟨fun _ => ?_, fun c => absurd (show ((0 : Int) = 0) from by decide) c⟩
    have r3 : 0 ≤ (I 235 6) ∧ (I 235 6) ≤ 64 := Rg.f6 hR
    have a4 : -2147483648 ≤ (I 235 6) ∧ (I 235 6) < 2147483648 := hA.1 _ _
    have r5 : 0 ≤ (I 235 7) ∧ (I 235 7) ≤ 64 := Rg.f7 hR
    have a6 : -2147483648 ≤ (I 235 7) ∧ (I 235 7) < 2147483648 := hA.1 _ _
    have r7 : 0 ≤ (I 236 2) ∧ (I 236 2) ≤ 64 := Rg.n2 hR
    have a8 : -2147483648 ≤ (I 236 2) ∧ (I 236 2) < 2147483648 := hA.1 _ _
    exact ⟨rfl, (by decide), fun hv hA' => hQ _ _ hR hA' (hv _ rfl) (fun _ _ _ => rfl) (show 0 = 1 → (I 235 6) + 4 ≤ (I 235 6) from by first | omega | (simp only [wr, wl] at *; omega)) (show (I 235 6) ≤ (I 235 7) from by first | omega | (simp only [wr, wl] at *; omega)) (show (I 235 7) ≤ (I 236 2) from by first | omega | (simp only [wr, wl] at *; omega)) (show (I 235 6) < (I 236 2) → (I 235 6) < (I 235 7) from by first | omega | (simp only [wr, wl] at *; omega)) (show (I 235 6) ≤ (I 235 6) from by first | omega | (simp only [wr, wl] at *; omega)) (show 0 = 1 → (I 235 8) = 0 from by first | omega | (simp only [wr, wl] at *; omega)) (show 0 ≤ 0 ∧ 0 ≤ 1 from by first | omega | (simp only [wr, wl] at *; omega))⟩
  ·
    refine ⟨_, rfl, (by decide), ?_⟩
    have r9 : 0 ≤ (I 235 7) ∧ (I 235 7) ≤ 64 := Rg.f7 hR
    refine ⟨_, rfl, (by decide), ?_⟩
    have r10 : 0 ≤ (I 235 6) ∧ (I 235 6) ≤ 64 := Rg.f6 hR
    refine ⟨⟨10, (by decide), rfl⟩, ?_⟩
    refine Call_wp (lv := [some (vr 4116)]) (by decide) ckJ0_length_8abf5 [] rfl rfl ?_
    refine ⟨10, (by decide), rfl, ?_⟩
    refine Or.inr (Or.inr ⟨10, (by decide), rfl, ?_⟩)
    refine ⟨⟨10, (by decide), rfl⟩, ?_⟩
    refine Call_wp (lv := [some (vr 4116)]) (by decide) ckJ0_coder_7d493 [] rfl rfl ?_
    refine ⟨fun c => absurd c (show (¬ ((1 : Int) = 0)) from by decide), fun _ => ?_⟩
    refine ⟨10, (by decide), rfl, ?_⟩
    refine ⟨rfl, (by decide), ?_⟩
    refine ⟨rfl, ?_⟩
    have a11 : -2147483648 ≤ (I 235 7) ∧ (I 235 7) < 2147483648 := hA.1 _ _
    have a12 : -2147483648 ≤ (I 235 6) ∧ (I 235 6) < 2147483648 := hA.1 _ _
    have n13 : (wr ((I 235 7) - (I 235 6))) = (I 235 7) - (I 235 6) := wr_id (show -2147483648 ≤ ((I 235 7) - (I 235 6) : Int) ∧ ((I 235 7) - (I 235 6) : Int) < 2147483648 from by omega)
    refine ⟨fun (c14 : (¬ ((wr ((I 235 7) - (I 235 6))) : Int) = 4)) => ?_, fun (c14 : (((wr ((I 235 7) - (I 235 6))) : Int) = 4)) => ?_⟩
    ·
      refine ⟨fun _ => ?_, fun c => absurd (show ((0 : Int) = 0) from by decide) c⟩
      refine ⟨fun _ => ?_, fun c => absurd (show ((0 : Int) = 0) from by decide) c⟩
      have r15 : 0 ≤ (I 236 2) ∧ (I 236 2) ≤ 64 := Rg.n2 hR
      have a16 : -2147483648 ≤ (I 236 2) ∧ (I 236 2) < 2147483648 := hA.1 _ _
      exact ⟨rfl, (by decide), fun hv hA' => hQ _ _ hR hA' (hv _ rfl) (fun _ _ _ => rfl) (show 0 = 1 → (I 235 6) + 4 ≤ (I 235 6) from by first | omega | (simp only [wr, wl] at *; omega)) (show (I 235 6) ≤ (I 235 7) from by first | omega | (simp only [wr, wl] at *; omega)) (show (I 235 7) ≤ (I 236 2) from by first | omega | (simp only [wr, wl] at *; omega)) (show (I 235 6) < (I 236 2) → (I 235 6) < (I 235 7) from by first | omega | (simp only [wr, wl] at *; omega)) (show (I 235 6) ≤ (I 235 6) from by first | omega | (simp only [wr, wl] at *; omega)) (show 0 = 1 → (I 235 8) = 0 from by first | omega | (simp only [wr, wl] at *; omega)) (show 0 ≤ 0 ∧ 0 ≤ 1 from by first | omega | (simp only [wr, wl] at *; omega))⟩
    ·
      refine ⟨fun c => absurd c (show (¬ ((1 : Int) = 0)) from by decide), fun _ => ?_⟩
      refine ⟨⟨10, (by decide), rfl⟩, ?_⟩
      refine Call_wp (lv := [some (vr 4116)]) (by decide) ckJ0_length_8abf5 [] rfl rfl ?_
      refine ⟨10, (by decide), rfl, ?_⟩
      refine Or.inr (Or.inr ⟨10, (by decide), rfl, ?_⟩)
      refine ⟨⟨10, (by decide), rfl⟩, ?_⟩
      refine Call_wp (lv := [some (vr 4116)]) (by decide) ckJ0_coder_7d493 [] rfl rfl ?_
      refine ⟨fun c => absurd c (show (¬ ((1 : Int) = 0)) from by decide), fun _ => ?_⟩
      refine ⟨10, (by decide), rfl, ?_⟩
      refine ⟨rfl, (by decide), ?_⟩
      refine ⟨rfl, ?_⟩
      refine ⟨fun c => absurd c (show (¬ ((4 : Int) ≤ 0)) from by decide), fun _ => ?_⟩
      refine ⟨_, rfl, (by decide), ?_⟩
      refine fun w0 hw0 => ?_; obtain rfl : w0 = some 236 := hw0.symm.trans (FS.g hF rfl)
      refine ⟨_, rfl, (by decide), ?_⟩
      have n17 : (wr (1228 + (I 235 6))) = 1228 + (I 235 6) := wr_id (show -2147483648 ≤ (1228 + (I 235 6) : Int) ∧ (1228 + (I 235 6) : Int) < 2147483648 from by omega)
      have n18 : (wr ((wr (1228 + (I 235 6))) + 0)) = (wr (1228 + (I 235 6))) + 0 := wr_id (show -2147483648 ≤ ((wr (1228 + (I 235 6))) + 0 : Int) ∧ ((wr (1228 + (I 235 6))) + 0 : Int) < 2147483648 from by omega)
      refine ⟨_, rfl, (by decide), (show (0 : Int) ≤ (wr ((wr (1228 + (I 235 6))) + 0)) from by first | omega | (simp only [wr, wl] at *; omega)), (show (wr ((wr (1228 + (I 235 6))) + 0)) < (1340 : Int) from by first | omega | (simp only [wr, wl] at *; omega)), ?_⟩
      refine ⟨⟨10, (by decide), rfl⟩, ?_⟩
      refine Call_wp (lv := [some (vr 4116), some (vi 0)]) (by decide) ckJ0_charAt_5068e [] rfl rfl ?_
      refine ⟨⟨10, (by decide), rfl⟩, ?_⟩
      refine Call_wp (lv := [some (vr 4116)]) (by decide) ckJ0_isLatin1_aae02 [] rfl rfl ?_
      refine ⟨fun c => absurd c (show (¬ ((1 : Int) = 0)) from by decide), fun _ => ?_⟩
      refine ⟨10, (by decide), rfl, ?_⟩
      refine ⟨fun c => absurd (show ((0 : Int) = 0) from by decide) c, fun _ => ?_⟩
      refine ⟨rfl, (by decide), ?_⟩
      refine ⟨fun c => absurd c (show (¬ ((1 : Int) = 0)) from by decide), fun _ => ?_⟩
      refine ⟨10, (by decide), rfl, ?_⟩
      refine Call_wp (lv := [some (vr 4146), some (vi 0)]) (by decide) ckJ1_charAt_3b067 [] rfl rfl ?_
      refine Or.inr (Or.inr ⟨10, (by decide), rfl, ?_⟩)
      refine Call_wp (lv := [some (vi 0), some (vi 4)]) (by decide) ckJ0_checkIndex_df160 [] rfl rfl ?_
      refine Call_wp (lv := [some (vi 0), some (vi 4), some (gS G)]) (by decide) ckJ3_checkIndex_8e157 [] rfl rfl ?_
      refine ⟨fun c => absurd c (show (¬ ((0 : Int) < 0)) from by decide), fun _ => ?_⟩
      refine ⟨fun _ => ?_, fun c => absurd (show ((0 : Int) < 4) from by decide) c⟩
      refine ⟨rfl, ?_⟩
      refine ⟨rfl, ?_⟩
      refine ⟨10, (by decide), rfl, (by decide), (by decide), ?_⟩
      refine ⟨rfl, (by decide), ?_⟩
      refine ⟨rfl, (by decide), ?_⟩
      have a19 : -2147483648 ≤ (I 236 (Int.toNat (wr ((wr (1228 + (I 235 6))) + 0)))) ∧ (I 236 (Int.toNat (wr ((wr (1228 + (I 235 6))) + 0)))) < 2147483648 := hA.1 _ _
      refine ⟨fun (c20 : (¬ ((I 236 (Int.toNat (wr ((wr (1228 + (I 235 6))) + 0)))) : Int) = 108)) => ?_, fun (c20 : (((I 236 (Int.toNat (wr ((wr (1228 + (I 235 6))) + 0)))) : Int) = 108)) => ?_⟩
      ·
        refine ⟨fun _ => ?_, fun c => absurd (show ((0 : Int) = 0) from by decide) c⟩
        refine ⟨fun _ => ?_, fun c => absurd (show ((0 : Int) = 0) from by decide) c⟩
        have r21 : 0 ≤ (I 236 2) ∧ (I 236 2) ≤ 64 := Rg.n2 hR
        have a22 : -2147483648 ≤ (I 236 2) ∧ (I 236 2) < 2147483648 := hA.1 _ _
        exact ⟨rfl, (by decide), fun hv hA' => hQ _ _ hR hA' (hv _ rfl) (fun _ _ _ => rfl) (show 0 = 1 → (I 235 6) + 4 ≤ (I 235 6) from by first | omega | (simp only [wr, wl] at *; omega)) (show (I 235 6) ≤ (I 235 7) from by first | omega | (simp only [wr, wl] at *; omega)) (show (I 235 7) ≤ (I 236 2) from by first | omega | (simp only [wr, wl] at *; omega)) (show (I 235 6) < (I 236 2) → (I 235 6) < (I 235 7) from by first | omega | (simp only [wr, wl] at *; omega)) (show (I 235 6) ≤ (I 235 6) from by first | omega | (simp only [wr, wl] at *; omega)) (show 0 = 1 → (I 235 8) = 0 from by first | omega | (simp only [wr, wl] at *; omega)) (show 0 ≤ 0 ∧ 0 ≤ 1 from by first | omega | (simp only [wr, wl] at *; omega))⟩
      ·
        refine ⟨fun c => absurd c (show (¬ ((1 : Int) = 0)) from by decide), fun _ => ?_⟩
        refine ⟨⟨10, (by decide), rfl⟩, ?_⟩
        refine Call_wp (lv := [some (vr 4116)]) (by decide) ckJ0_length_8abf5 [] rfl rfl ?_
        refine ⟨10, (by decide), rfl, ?_⟩
        refine Or.inr (Or.inr ⟨10, (by decide), rfl, ?_⟩)
        refine ⟨⟨10, (by decide), rfl⟩, ?_⟩
        refine Call_wp (lv := [some (vr 4116)]) (by decide) ckJ0_coder_7d493 [] rfl rfl ?_
        refine ⟨fun c => absurd c (show (¬ ((1 : Int) = 0)) from by decide), fun _ => ?_⟩
        refine ⟨10, (by decide), rfl, ?_⟩
        refine ⟨rfl, (by decide), ?_⟩
        refine ⟨rfl, ?_⟩
        refine ⟨fun c => absurd c (show (¬ ((4 : Int) ≤ 1)) from by decide), fun _ => ?_⟩
        refine ⟨_, rfl, (by decide), ?_⟩
        refine fun w0 hw0 => ?_; obtain rfl : w0 = some 236 := hw0.symm.trans (FS.g hF rfl)
        refine ⟨_, rfl, (by decide), ?_⟩
        have n23 : (wr ((wr (1228 + (I 235 6))) + 1)) = (wr (1228 + (I 235 6))) + 1 := wr_id (show -2147483648 ≤ ((wr (1228 + (I 235 6))) + 1 : Int) ∧ ((wr (1228 + (I 235 6))) + 1 : Int) < 2147483648 from by omega)
        refine ⟨_, rfl, (by decide), (show (0 : Int) ≤ (wr ((wr (1228 + (I 235 6))) + 1)) from by first | omega | (simp only [wr, wl] at *; omega)), (show (wr ((wr (1228 + (I 235 6))) + 1)) < (1340 : Int) from by first | omega | (simp only [wr, wl] at *; omega)), ?_⟩
        refine ⟨⟨10, (by decide), rfl⟩, ?_⟩
        refine Call_wp (lv := [some (vr 4116), some (vi 1)]) (by decide) ckJ0_charAt_5068e [] rfl rfl ?_
        refine ⟨⟨10, (by decide), rfl⟩, ?_⟩
        refine Call_wp (lv := [some (vr 4116)]) (by decide) ckJ0_isLatin1_aae02 [] rfl rfl ?_
        refine ⟨fun c => absurd c (show (¬ ((1 : Int) = 0)) from by decide), fun _ => ?_⟩
        refine ⟨10, (by decide), rfl, ?_⟩
        refine ⟨fun c => absurd (show ((0 : Int) = 0) from by decide) c, fun _ => ?_⟩
        refine ⟨rfl, (by decide), ?_⟩
        refine ⟨fun c => absurd c (show (¬ ((1 : Int) = 0)) from by decide), fun _ => ?_⟩
        refine ⟨10, (by decide), rfl, ?_⟩
        refine Call_wp (lv := [some (vr 4146), some (vi 1)]) (by decide) ckJ1_charAt_3b067 [] rfl rfl ?_
        refine Or.inr (Or.inr ⟨10, (by decide), rfl, ?_⟩)
        refine Call_wp (lv := [some (vi 1), some (vi 4)]) (by decide) ckJ0_checkIndex_df160 [] rfl rfl ?_
        refine Call_wp (lv := [some (vi 1), some (vi 4), some (gS G)]) (by decide) ckJ3_checkIndex_8e157 [] rfl rfl ?_
        refine ⟨fun c => absurd c (show (¬ ((1 : Int) < 0)) from by decide), fun _ => ?_⟩
        refine ⟨fun _ => ?_, fun c => absurd (show ((1 : Int) < 4) from by decide) c⟩
        refine ⟨rfl, ?_⟩
        refine ⟨rfl, ?_⟩
        refine ⟨10, (by decide), rfl, (by decide), (by decide), ?_⟩
        refine ⟨rfl, (by decide), ?_⟩
        refine ⟨rfl, (by decide), ?_⟩
        have a24 : -2147483648 ≤ (I 236 (Int.toNat (wr ((wr (1228 + (I 235 6))) + 1)))) ∧ (I 236 (Int.toNat (wr ((wr (1228 + (I 235 6))) + 1)))) < 2147483648 := hA.1 _ _
        refine ⟨fun (c25 : (¬ ((I 236 (Int.toNat (wr ((wr (1228 + (I 235 6))) + 1)))) : Int) = 111)) => ?_, fun (c25 : (((I 236 (Int.toNat (wr ((wr (1228 + (I 235 6))) + 1)))) : Int) = 111)) => ?_⟩
        ·
          refine ⟨fun _ => ?_, fun c => absurd (show ((0 : Int) = 0) from by decide) c⟩
          refine ⟨fun _ => ?_, fun c => absurd (show ((0 : Int) = 0) from by decide) c⟩
          have r26 : 0 ≤ (I 236 2) ∧ (I 236 2) ≤ 64 := Rg.n2 hR
          have a27 : -2147483648 ≤ (I 236 2) ∧ (I 236 2) < 2147483648 := hA.1 _ _
          exact ⟨rfl, (by decide), fun hv hA' => hQ _ _ hR hA' (hv _ rfl) (fun _ _ _ => rfl) (show 0 = 1 → (I 235 6) + 4 ≤ (I 235 6) from by first | omega | (simp only [wr, wl] at *; omega)) (show (I 235 6) ≤ (I 235 7) from by first | omega | (simp only [wr, wl] at *; omega)) (show (I 235 7) ≤ (I 236 2) from by first | omega | (simp only [wr, wl] at *; omega)) (show (I 235 6) < (I 236 2) → (I 235 6) < (I 235 7) from by first | omega | (simp only [wr, wl] at *; omega)) (show (I 235 6) ≤ (I 235 6) from by first | omega | (simp only [wr, wl] at *; omega)) (show 0 = 1 → (I 235 8) = 0 from by first | omega | (simp only [wr, wl] at *; omega)) (show 0 ≤ 0 ∧ 0 ≤ 1 from by first | omega | (simp only [wr, wl] at *; omega))⟩
        ·
          refine ⟨fun c => absurd c (show (¬ ((1 : Int) = 0)) from by decide), fun _ => ?_⟩
          refine ⟨⟨10, (by decide), rfl⟩, ?_⟩
          refine Call_wp (lv := [some (vr 4116)]) (by decide) ckJ0_length_8abf5 [] rfl rfl ?_
          refine ⟨10, (by decide), rfl, ?_⟩
          refine Or.inr (Or.inr ⟨10, (by decide), rfl, ?_⟩)
          refine ⟨⟨10, (by decide), rfl⟩, ?_⟩
          refine Call_wp (lv := [some (vr 4116)]) (by decide) ckJ0_coder_7d493 [] rfl rfl ?_
          refine ⟨fun c => absurd c (show (¬ ((1 : Int) = 0)) from by decide), fun _ => ?_⟩
          refine ⟨10, (by decide), rfl, ?_⟩
          refine ⟨rfl, (by decide), ?_⟩
          refine ⟨rfl, ?_⟩
          refine ⟨fun c => absurd c (show (¬ ((4 : Int) ≤ 2)) from by decide), fun _ => ?_⟩
          refine ⟨_, rfl, (by decide), ?_⟩
          refine fun w0 hw0 => ?_; obtain rfl : w0 = some 236 := hw0.symm.trans (FS.g hF rfl)
          refine ⟨_, rfl, (by decide), ?_⟩
          have n28 : (wr ((wr (1228 + (I 235 6))) + 2)) = (wr (1228 + (I 235 6))) + 2 := wr_id (show -2147483648 ≤ ((wr (1228 + (I 235 6))) + 2 : Int) ∧ ((wr (1228 + (I 235 6))) + 2 : Int) < 2147483648 from by omega)
          refine ⟨_, rfl, (by decide), (show (0 : Int) ≤ (wr ((wr (1228 + (I 235 6))) + 2)) from by first | omega | (simp only [wr, wl] at *; omega)), (show (wr ((wr (1228 + (I 235 6))) + 2)) < (1340 : Int) from by first | omega | (simp only [wr, wl] at *; omega)), ?_⟩
          refine ⟨⟨10, (by decide), rfl⟩, ?_⟩
          refine Call_wp (lv := [some (vr 4116), some (vi 2)]) (by decide) ckJ0_charAt_5068e [] rfl rfl ?_
          refine ⟨⟨10, (by decide), rfl⟩, ?_⟩
          refine Call_wp (lv := [some (vr 4116)]) (by decide) ckJ0_isLatin1_aae02 [] rfl rfl ?_
          refine ⟨fun c => absurd c (show (¬ ((1 : Int) = 0)) from by decide), fun _ => ?_⟩
          refine ⟨10, (by decide), rfl, ?_⟩
          refine ⟨fun c => absurd (show ((0 : Int) = 0) from by decide) c, fun _ => ?_⟩
          refine ⟨rfl, (by decide), ?_⟩
          refine ⟨fun c => absurd c (show (¬ ((1 : Int) = 0)) from by decide), fun _ => ?_⟩
          refine ⟨10, (by decide), rfl, ?_⟩
          refine Call_wp (lv := [some (vr 4146), some (vi 2)]) (by decide) ckJ1_charAt_3b067 [] rfl rfl ?_
          refine Or.inr (Or.inr ⟨10, (by decide), rfl, ?_⟩)
          refine Call_wp (lv := [some (vi 2), some (vi 4)]) (by decide) ckJ0_checkIndex_df160 [] rfl rfl ?_
          refine Call_wp (lv := [some (vi 2), some (vi 4), some (gS G)]) (by decide) ckJ3_checkIndex_8e157 [] rfl rfl ?_
          refine ⟨fun c => absurd c (show (¬ ((2 : Int) < 0)) from by decide), fun _ => ?_⟩
          refine ⟨fun _ => ?_, fun c => absurd (show ((2 : Int) < 4) from by decide) c⟩
          refine ⟨rfl, ?_⟩
          refine ⟨rfl, ?_⟩
          refine ⟨10, (by decide), rfl, (by decide), (by decide), ?_⟩
          refine ⟨rfl, (by decide), ?_⟩
          refine ⟨rfl, (by decide), ?_⟩
          have a29 : -2147483648 ≤ (I 236 (Int.toNat (wr ((wr (1228 + (I 235 6))) + 2)))) ∧ (I 236 (Int.toNat (wr ((wr (1228 + (I 235 6))) + 2)))) < 2147483648 := hA.1 _ _
          refine ⟨fun (c30 : (¬ ((I 236 (Int.toNat (wr ((wr (1228 + (I 235 6))) + 2)))) : Int) = 97)) => ?_, fun (c30 : (((I 236 (Int.toNat (wr ((wr (1228 + (I 235 6))) + 2)))) : Int) = 97)) => ?_⟩
          ·
            refine ⟨fun _ => ?_, fun c => absurd (show ((0 : Int) = 0) from by decide) c⟩
            refine ⟨fun _ => ?_, fun c => absurd (show ((0 : Int) = 0) from by decide) c⟩
            have r31 : 0 ≤ (I 236 2) ∧ (I 236 2) ≤ 64 := Rg.n2 hR
            have a32 : -2147483648 ≤ (I 236 2) ∧ (I 236 2) < 2147483648 := hA.1 _ _
            exact ⟨rfl, (by decide), fun hv hA' => hQ _ _ hR hA' (hv _ rfl) (fun _ _ _ => rfl) (show 0 = 1 → (I 235 6) + 4 ≤ (I 235 6) from by first | omega | (simp only [wr, wl] at *; omega)) (show (I 235 6) ≤ (I 235 7) from by first | omega | (simp only [wr, wl] at *; omega)) (show (I 235 7) ≤ (I 236 2) from by first | omega | (simp only [wr, wl] at *; omega)) (show (I 235 6) < (I 236 2) → (I 235 6) < (I 235 7) from by first | omega | (simp only [wr, wl] at *; omega)) (show (I 235 6) ≤ (I 235 6) from by first | omega | (simp only [wr, wl] at *; omega)) (show 0 = 1 → (I 235 8) = 0 from by first | omega | (simp only [wr, wl] at *; omega)) (show 0 ≤ 0 ∧ 0 ≤ 1 from by first | omega | (simp only [wr, wl] at *; omega))⟩
          ·
            refine ⟨fun c => absurd c (show (¬ ((1 : Int) = 0)) from by decide), fun _ => ?_⟩
            refine ⟨⟨10, (by decide), rfl⟩, ?_⟩
            refine Call_wp (lv := [some (vr 4116)]) (by decide) ckJ0_length_8abf5 [] rfl rfl ?_
            refine ⟨10, (by decide), rfl, ?_⟩
            refine Or.inr (Or.inr ⟨10, (by decide), rfl, ?_⟩)
            refine ⟨⟨10, (by decide), rfl⟩, ?_⟩
            refine Call_wp (lv := [some (vr 4116)]) (by decide) ckJ0_coder_7d493 [] rfl rfl ?_
            refine ⟨fun c => absurd c (show (¬ ((1 : Int) = 0)) from by decide), fun _ => ?_⟩
            refine ⟨10, (by decide), rfl, ?_⟩
            refine ⟨rfl, (by decide), ?_⟩
            refine ⟨rfl, ?_⟩
            refine ⟨fun c => absurd c (show (¬ ((4 : Int) ≤ 3)) from by decide), fun _ => ?_⟩
            refine ⟨_, rfl, (by decide), ?_⟩
            refine fun w0 hw0 => ?_; obtain rfl : w0 = some 236 := hw0.symm.trans (FS.g hF rfl)
            refine ⟨_, rfl, (by decide), ?_⟩
            have n33 : (wr ((wr (1228 + (I 235 6))) + 3)) = (wr (1228 + (I 235 6))) + 3 := wr_id (show -2147483648 ≤ ((wr (1228 + (I 235 6))) + 3 : Int) ∧ ((wr (1228 + (I 235 6))) + 3 : Int) < 2147483648 from by omega)
            refine ⟨_, rfl, (by decide), (show (0 : Int) ≤ (wr ((wr (1228 + (I 235 6))) + 3)) from by first | omega | (simp only [wr, wl] at *; omega)), (show (wr ((wr (1228 + (I 235 6))) + 3)) < (1340 : Int) from by first | omega | (simp only [wr, wl] at *; omega)), ?_⟩
            refine ⟨⟨10, (by decide), rfl⟩, ?_⟩
            refine Call_wp (lv := [some (vr 4116), some (vi 3)]) (by decide) ckJ0_charAt_5068e [] rfl rfl ?_
            refine ⟨⟨10, (by decide), rfl⟩, ?_⟩
            refine Call_wp (lv := [some (vr 4116)]) (by decide) ckJ0_isLatin1_aae02 [] rfl rfl ?_
            refine ⟨fun c => absurd c (show (¬ ((1 : Int) = 0)) from by decide), fun _ => ?_⟩
            refine ⟨10, (by decide), rfl, ?_⟩
            refine ⟨fun c => absurd (show ((0 : Int) = 0) from by decide) c, fun _ => ?_⟩
            refine ⟨rfl, (by decide), ?_⟩
            refine ⟨fun c => absurd c (show (¬ ((1 : Int) = 0)) from by decide), fun _ => ?_⟩
            refine ⟨10, (by decide), rfl, ?_⟩
            refine Call_wp (lv := [some (vr 4146), some (vi 3)]) (by decide) ckJ1_charAt_3b067 [] rfl rfl ?_
            refine Or.inr (Or.inr ⟨10, (by decide), rfl, ?_⟩)
            refine Call_wp (lv := [some (vi 3), some (vi 4)]) (by decide) ckJ0_checkIndex_df160 [] rfl rfl ?_
            refine Call_wp (lv := [some (vi 3), some (vi 4), some (gS G)]) (by decide) ckJ3_checkIndex_8e157 [] rfl rfl ?_
            refine ⟨fun c => absurd c (show (¬ ((3 : Int) < 0)) from by decide), fun _ => ?_⟩
            refine ⟨fun _ => ?_, fun c => absurd (show ((3 : Int) < 4) from by decide) c⟩
            refine ⟨rfl, ?_⟩
            refine ⟨rfl, ?_⟩
            refine ⟨10, (by decide), rfl, (by decide), (by decide), ?_⟩
            refine ⟨rfl, (by decide), ?_⟩
            refine ⟨rfl, (by decide), ?_⟩
            have a34 : -2147483648 ≤ (I 236 (Int.toNat (wr ((wr (1228 + (I 235 6))) + 3)))) ∧ (I 236 (Int.toNat (wr ((wr (1228 + (I 235 6))) + 3)))) < 2147483648 := hA.1 _ _
            refine ⟨fun (c35 : (¬ ((I 236 (Int.toNat (wr ((wr (1228 + (I 235 6))) + 3)))) : Int) = 100)) => ?_, fun (c35 : (((I 236 (Int.toNat (wr ((wr (1228 + (I 235 6))) + 3)))) : Int) = 100)) => ?_⟩
            ·
              refine ⟨fun _ => ?_, fun c => absurd (show ((0 : Int) = 0) from by decide) c⟩
              refine ⟨fun _ => ?_, fun c => absurd (show ((0 : Int) = 0) from by decide) c⟩
              have r36 : 0 ≤ (I 236 2) ∧ (I 236 2) ≤ 64 := Rg.n2 hR
              have a37 : -2147483648 ≤ (I 236 2) ∧ (I 236 2) < 2147483648 := hA.1 _ _
              exact ⟨rfl, (by decide), fun hv hA' => hQ _ _ hR hA' (hv _ rfl) (fun _ _ _ => rfl) (show 0 = 1 → (I 235 6) + 4 ≤ (I 235 6) from by first | omega | (simp only [wr, wl] at *; omega)) (show (I 235 6) ≤ (I 235 7) from by first | omega | (simp only [wr, wl] at *; omega)) (show (I 235 7) ≤ (I 236 2) from by first | omega | (simp only [wr, wl] at *; omega)) (show (I 235 6) < (I 236 2) → (I 235 6) < (I 235 7) from by first | omega | (simp only [wr, wl] at *; omega)) (show (I 235 6) ≤ (I 235 6) from by first | omega | (simp only [wr, wl] at *; omega)) (show 0 = 1 → (I 235 8) = 0 from by first | omega | (simp only [wr, wl] at *; omega)) (show 0 ≤ 0 ∧ 0 ≤ 1 from by first | omega | (simp only [wr, wl] at *; omega))⟩
            ·
              refine ⟨fun c => absurd c (show (¬ ((1 : Int) = 0)) from by decide), fun _ => ?_⟩
              refine ⟨⟨10, (by decide), rfl⟩, ?_⟩
              refine Call_wp (lv := [some (vr 4116)]) (by decide) ckJ0_length_8abf5 [] rfl rfl ?_
              refine ⟨10, (by decide), rfl, ?_⟩
              refine Or.inr (Or.inr ⟨10, (by decide), rfl, ?_⟩)
              refine ⟨⟨10, (by decide), rfl⟩, ?_⟩
              refine Call_wp (lv := [some (vr 4116)]) (by decide) ckJ0_coder_7d493 [] rfl rfl ?_
              refine ⟨fun c => absurd c (show (¬ ((1 : Int) = 0)) from by decide), fun _ => ?_⟩
              refine ⟨10, (by decide), rfl, ?_⟩
              refine ⟨rfl, (by decide), ?_⟩
              refine ⟨rfl, ?_⟩
              refine ⟨fun _ => ?_, fun c => absurd (show ((4 : Int) ≤ 4) from by decide) c⟩
              refine ⟨fun c => absurd c (show (¬ ((1 : Int) = 0)) from by decide), fun _ => ?_⟩
              refine ⟨⟨_, rfl, (by decide)⟩, ?_⟩
              have r38 : 0 ≤ (I 236 2) ∧ (I 236 2) ≤ 64 := Rg.n2 hR
              have a39 : -2147483648 ≤ (I 236 2) ∧ (I 236 2) < 2147483648 := hA.1 _ _
              refine r_goOn hF hR (show (I 235 7) ≤ (I 236 2) from by first | omega | (simp only [wr, wl] at *; omega)) (fun I40 hR41 hA42 hW43 q44 q45 q46 q47 => ?_)
              have r48 : 0 ≤ (I40 235 6) ∧ (I40 235 6) ≤ 64 := Rg.f6 hR41
              have a49 : -2147483648 ≤ (I40 235 6) ∧ (I40 235 6) < 2147483648 := hA42.1 _ _
              have r50 : 0 ≤ (I40 235 7) ∧ (I40 235 7) ≤ 64 := Rg.f7 hR41
              have a51 : -2147483648 ≤ (I40 235 7) ∧ (I40 235 7) < 2147483648 := hA42.1 _ _
              exact ⟨rfl, (by decide), fun hv hA' => hQ _ _ hR41 hA' (hv _ rfl) (fun k j hk => (hW43 k j (by omega))) (show 1 = 1 → (I 235 6) + 4 ≤ (I40 235 6) from by first | omega | (simp only [wr, wl] at *; omega)) (show (I40 235 6) ≤ (I40 235 7) from by first | omega | (simp only [wr, wl] at *; omega)) (show (I40 235 7) ≤ (I 236 2) from by first | omega | (simp only [wr, wl] at *; omega)) (show (I40 235 6) < (I 236 2) → (I40 235 6) < (I40 235 7) from by first | omega | (simp only [wr, wl] at *; omega)) (show (I 235 6) ≤ (I40 235 6) from by first | omega | (simp only [wr, wl] at *; omega)) (show 1 = 1 → (I 235 8) = 0 from by first | omega | (simp only [wr, wl] at *; omega)) (show 0 ≤ 1 ∧ 1 ≤ 1 from by first | omega | (simp only [wr, wl] at *; omega))⟩
theorem r_takes_11 (hF : FS F) (hR : Rg I) (h1 : I 235 6 ≤ I 235 7) (h2 : I 235 7 ≤ I 236 2) (h3 : I 235 6 < I 236 2 → I 235 6 < I 235 7) (hQ : ∀ (r : Int) (I' : pI), Rg I' → AR I' → iR r → (∀ k j, ¬ ((k = 235 ∧ (j = 6 ∨ j = 7))) → I' k j = I k j) → (r = 1 → (I 235 6) + 4 ≤ (I' 235 6)) → ((I' 235 6) ≤ (I' 235 7)) → ((I' 235 7) ≤ (I 236 2)) → ((I' 235 6) < (I 236 2) → (I' 235 6) < (I' 235 7)) → ((I 235 6) ≤ (I' 235 6)) → (r = 1 → (I 235 8) = 0) → (0 ≤ r ∧ r ≤ 1) → Q (some (vi r)) F I') : CallN G (d + 4) kX12_takes [vr 235, vr 4117] NP F I Q := by
  refine CallN_in (fun hok hA => CallN_out ?_)
  have g2 := Rg.n2 hR (Or.inl rfl)
  refine Call_wp (lv := [some (vr 235), some (vr 4117), none, none]) (by decide) ckX12_takes [] rfl rfl ?_
  refine ⟨_, rfl, (by decide), ?_⟩
  have a1 : -2147483648 ≤ (I 235 8) ∧ (I 235 8) < 2147483648 := hA.1 _ _
  refine ⟨fun (c2 : (¬ ((I 235 8) : Int) = 0)) => ?_, fun (c2 : (((I 235 8) : Int) = 0)) => ?_⟩
  ·
    refine ⟨fun _ => ?_, fun c => absurd (show ((0 : Int) = 0) from by decide) c⟩
    refine ⟨fun _ => ?_, fun c => absurd (show ((0 : Int) = 0) from by decide) c⟩
    have r3 : 0 ≤ (I 235 6) ∧ (I 235 6) ≤ 64 := Rg.f6 hR
    have a4 : -2147483648 ≤ (I 235 6) ∧ (I 235 6) < 2147483648 := hA.1 _ _
    have r5 : 0 ≤ (I 235 7) ∧ (I 235 7) ≤ 64 := Rg.f7 hR
    have a6 : -2147483648 ≤ (I 235 7) ∧ (I 235 7) < 2147483648 := hA.1 _ _
    have r7 : 0 ≤ (I 236 2) ∧ (I 236 2) ≤ 64 := Rg.n2 hR
    have a8 : -2147483648 ≤ (I 236 2) ∧ (I 236 2) < 2147483648 := hA.1 _ _
    exact ⟨rfl, (by decide), fun hv hA' => hQ _ _ hR hA' (hv _ rfl) (fun _ _ _ => rfl) (show 0 = 1 → (I 235 6) + 4 ≤ (I 235 6) from by first | omega | (simp only [wr, wl] at *; omega)) (show (I 235 6) ≤ (I 235 7) from by first | omega | (simp only [wr, wl] at *; omega)) (show (I 235 7) ≤ (I 236 2) from by first | omega | (simp only [wr, wl] at *; omega)) (show (I 235 6) < (I 236 2) → (I 235 6) < (I 235 7) from by first | omega | (simp only [wr, wl] at *; omega)) (show (I 235 6) ≤ (I 235 6) from by first | omega | (simp only [wr, wl] at *; omega)) (show 0 = 1 → (I 235 8) = 0 from by first | omega | (simp only [wr, wl] at *; omega)) (show 0 ≤ 0 ∧ 0 ≤ 1 from by first | omega | (simp only [wr, wl] at *; omega))⟩
  ·
    refine ⟨_, rfl, (by decide), ?_⟩
    have r9 : 0 ≤ (I 235 7) ∧ (I 235 7) ≤ 64 := Rg.f7 hR
    refine ⟨_, rfl, (by decide), ?_⟩
    have r10 : 0 ≤ (I 235 6) ∧ (I 235 6) ≤ 64 := Rg.f6 hR
    refine ⟨⟨11, (by decide), rfl⟩, ?_⟩
    refine Call_wp (lv := [some (vr 4117)]) (by decide) ckJ0_length_8abf5 [] rfl rfl ?_
    refine ⟨11, (by decide), rfl, ?_⟩
    refine Or.inr (Or.inr ⟨11, (by decide), rfl, ?_⟩)
    refine ⟨⟨11, (by decide), rfl⟩, ?_⟩
    refine Call_wp (lv := [some (vr 4117)]) (by decide) ckJ0_coder_7d493 [] rfl rfl ?_
    refine ⟨fun c => absurd c (show (¬ ((1 : Int) = 0)) from by decide), fun _ => ?_⟩
    refine ⟨11, (by decide), rfl, ?_⟩
    refine ⟨rfl, (by decide), ?_⟩
    refine ⟨rfl, ?_⟩
    have a11 : -2147483648 ≤ (I 235 7) ∧ (I 235 7) < 2147483648 := hA.1 _ _
    have a12 : -2147483648 ≤ (I 235 6) ∧ (I 235 6) < 2147483648 := hA.1 _ _
    have n13 : (wr ((I 235 7) - (I 235 6))) = (I 235 7) - (I 235 6) := wr_id (show -2147483648 ≤ ((I 235 7) - (I 235 6) : Int) ∧ ((I 235 7) - (I 235 6) : Int) < 2147483648 from by omega)
    refine ⟨fun (c14 : (¬ ((wr ((I 235 7) - (I 235 6))) : Int) = 4)) => ?_, fun (c14 : (((wr ((I 235 7) - (I 235 6))) : Int) = 4)) => ?_⟩
    ·
      refine ⟨fun _ => ?_, fun c => absurd (show ((0 : Int) = 0) from by decide) c⟩
      refine ⟨fun _ => ?_, fun c => absurd (show ((0 : Int) = 0) from by decide) c⟩
      have r15 : 0 ≤ (I 236 2) ∧ (I 236 2) ≤ 64 := Rg.n2 hR
      have a16 : -2147483648 ≤ (I 236 2) ∧ (I 236 2) < 2147483648 := hA.1 _ _
      exact ⟨rfl, (by decide), fun hv hA' => hQ _ _ hR hA' (hv _ rfl) (fun _ _ _ => rfl) (show 0 = 1 → (I 235 6) + 4 ≤ (I 235 6) from by first | omega | (simp only [wr, wl] at *; omega)) (show (I 235 6) ≤ (I 235 7) from by first | omega | (simp only [wr, wl] at *; omega)) (show (I 235 7) ≤ (I 236 2) from by first | omega | (simp only [wr, wl] at *; omega)) (show (I 235 6) < (I 236 2) → (I 235 6) < (I 235 7) from by first | omega | (simp only [wr, wl] at *; omega)) (show (I 235 6) ≤ (I 235 6) from by first | omega | (simp only [wr, wl] at *; omega)) (show 0 = 1 → (I 235 8) = 0 from by first | omega | (simp only [wr, wl] at *; omega)) (show 0 ≤ 0 ∧ 0 ≤ 1 from by first | omega | (simp only [wr, wl] at *; omega))⟩
    ·
      refine ⟨fun c => absurd c (show (¬ ((1 : Int) = 0)) from by decide), fun _ => ?_⟩
      refine ⟨⟨11, (by decide), rfl⟩, ?_⟩
      refine Call_wp (lv := [some (vr 4117)]) (by decide) ckJ0_length_8abf5 [] rfl rfl ?_
      refine ⟨11, (by decide), rfl, ?_⟩
      refine Or.inr (Or.inr ⟨11, (by decide), rfl, ?_⟩)
      refine ⟨⟨11, (by decide), rfl⟩, ?_⟩
      refine Call_wp (lv := [some (vr 4117)]) (by decide) ckJ0_coder_7d493 [] rfl rfl ?_
      refine ⟨fun c => absurd c (show (¬ ((1 : Int) = 0)) from by decide), fun _ => ?_⟩
      refine ⟨11, (by decide), rfl, ?_⟩
      refine ⟨rfl, (by decide), ?_⟩
      refine ⟨rfl, ?_⟩
      refine ⟨fun c => absurd c (show (¬ ((4 : Int) ≤ 0)) from by decide), fun _ => ?_⟩
      refine ⟨_, rfl, (by decide), ?_⟩
      refine fun w0 hw0 => ?_; obtain rfl : w0 = some 236 := hw0.symm.trans (FS.g hF rfl)
      refine ⟨_, rfl, (by decide), ?_⟩
      have n17 : (wr (1228 + (I 235 6))) = 1228 + (I 235 6) := wr_id (show -2147483648 ≤ (1228 + (I 235 6) : Int) ∧ (1228 + (I 235 6) : Int) < 2147483648 from by omega)
      have n18 : (wr ((wr (1228 + (I 235 6))) + 0)) = (wr (1228 + (I 235 6))) + 0 := wr_id (show -2147483648 ≤ ((wr (1228 + (I 235 6))) + 0 : Int) ∧ ((wr (1228 + (I 235 6))) + 0 : Int) < 2147483648 from by omega)
      refine ⟨_, rfl, (by decide), (show (0 : Int) ≤ (wr ((wr (1228 + (I 235 6))) + 0)) from by first | omega | (simp only [wr, wl] at *; omega)), (show (wr ((wr (1228 + (I 235 6))) + 0)) < (1340 : Int) from by first | omega | (simp only [wr, wl] at *; omega)), ?_⟩
      refine ⟨⟨11, (by decide), rfl⟩, ?_⟩
      refine Call_wp (lv := [some (vr 4117), some (vi 0)]) (by decide) ckJ0_charAt_5068e [] rfl rfl ?_
      refine ⟨⟨11, (by decide), rfl⟩, ?_⟩
      refine Call_wp (lv := [some (vr 4117)]) (by decide) ckJ0_isLatin1_aae02 [] rfl rfl ?_
      refine ⟨fun c => absurd c (show (¬ ((1 : Int) = 0)) from by decide), fun _ => ?_⟩
      refine ⟨11, (by decide), rfl, ?_⟩
      refine ⟨fun c => absurd (show ((0 : Int) = 0) from by decide) c, fun _ => ?_⟩
      refine ⟨rfl, (by decide), ?_⟩
      refine ⟨fun c => absurd c (show (¬ ((1 : Int) = 0)) from by decide), fun _ => ?_⟩
      refine ⟨11, (by decide), rfl, ?_⟩
      refine Call_wp (lv := [some (vr 4147), some (vi 0)]) (by decide) ckJ1_charAt_3b067 [] rfl rfl ?_
      refine Or.inr (Or.inr ⟨11, (by decide), rfl, ?_⟩)
      refine Call_wp (lv := [some (vi 0), some (vi 4)]) (by decide) ckJ0_checkIndex_df160 [] rfl rfl ?_
      refine Call_wp (lv := [some (vi 0), some (vi 4), some (gS G)]) (by decide) ckJ3_checkIndex_8e157 [] rfl rfl ?_
      refine ⟨fun c => absurd c (show (¬ ((0 : Int) < 0)) from by decide), fun _ => ?_⟩
      refine ⟨fun _ => ?_, fun c => absurd (show ((0 : Int) < 4) from by decide) c⟩
      refine ⟨rfl, ?_⟩
      refine ⟨rfl, ?_⟩
      refine ⟨11, (by decide), rfl, (by decide), (by decide), ?_⟩
      refine ⟨rfl, (by decide), ?_⟩
      refine ⟨rfl, (by decide), ?_⟩
      have a19 : -2147483648 ≤ (I 236 (Int.toNat (wr ((wr (1228 + (I 235 6))) + 0)))) ∧ (I 236 (Int.toNat (wr ((wr (1228 + (I 235 6))) + 0)))) < 2147483648 := hA.1 _ _
      refine ⟨fun (c20 : (¬ ((I 236 (Int.toNat (wr ((wr (1228 + (I 235 6))) + 0)))) : Int) = 104)) => ?_, fun (c20 : (((I 236 (Int.toNat (wr ((wr (1228 + (I 235 6))) + 0)))) : Int) = 104)) => ?_⟩
      ·
        refine ⟨fun _ => ?_, fun c => absurd (show ((0 : Int) = 0) from by decide) c⟩
        refine ⟨fun _ => ?_, fun c => absurd (show ((0 : Int) = 0) from by decide) c⟩
        have r21 : 0 ≤ (I 236 2) ∧ (I 236 2) ≤ 64 := Rg.n2 hR
        have a22 : -2147483648 ≤ (I 236 2) ∧ (I 236 2) < 2147483648 := hA.1 _ _
        exact ⟨rfl, (by decide), fun hv hA' => hQ _ _ hR hA' (hv _ rfl) (fun _ _ _ => rfl) (show 0 = 1 → (I 235 6) + 4 ≤ (I 235 6) from by first | omega | (simp only [wr, wl] at *; omega)) (show (I 235 6) ≤ (I 235 7) from by first | omega | (simp only [wr, wl] at *; omega)) (show (I 235 7) ≤ (I 236 2) from by first | omega | (simp only [wr, wl] at *; omega)) (show (I 235 6) < (I 236 2) → (I 235 6) < (I 235 7) from by first | omega | (simp only [wr, wl] at *; omega)) (show (I 235 6) ≤ (I 235 6) from by first | omega | (simp only [wr, wl] at *; omega)) (show 0 = 1 → (I 235 8) = 0 from by first | omega | (simp only [wr, wl] at *; omega)) (show 0 ≤ 0 ∧ 0 ≤ 1 from by first | omega | (simp only [wr, wl] at *; omega))⟩
      ·
        refine ⟨fun c => absurd c (show (¬ ((1 : Int) = 0)) from by decide), fun _ => ?_⟩
        refine ⟨⟨11, (by decide), rfl⟩, ?_⟩
        refine Call_wp (lv := [some (vr 4117)]) (by decide) ckJ0_length_8abf5 [] rfl rfl ?_
        refine ⟨11, (by decide), rfl, ?_⟩
        refine Or.inr (Or.inr ⟨11, (by decide), rfl, ?_⟩)
        refine ⟨⟨11, (by decide), rfl⟩, ?_⟩
        refine Call_wp (lv := [some (vr 4117)]) (by decide) ckJ0_coder_7d493 [] rfl rfl ?_
        refine ⟨fun c => absurd c (show (¬ ((1 : Int) = 0)) from by decide), fun _ => ?_⟩
        refine ⟨11, (by decide), rfl, ?_⟩
        refine ⟨rfl, (by decide), ?_⟩
        refine ⟨rfl, ?_⟩
        refine ⟨fun c => absurd c (show (¬ ((4 : Int) ≤ 1)) from by decide), fun _ => ?_⟩
        refine ⟨_, rfl, (by decide), ?_⟩
        refine fun w0 hw0 => ?_; obtain rfl : w0 = some 236 := hw0.symm.trans (FS.g hF rfl)
        refine ⟨_, rfl, (by decide), ?_⟩
        have n23 : (wr ((wr (1228 + (I 235 6))) + 1)) = (wr (1228 + (I 235 6))) + 1 := wr_id (show -2147483648 ≤ ((wr (1228 + (I 235 6))) + 1 : Int) ∧ ((wr (1228 + (I 235 6))) + 1 : Int) < 2147483648 from by omega)
        refine ⟨_, rfl, (by decide), (show (0 : Int) ≤ (wr ((wr (1228 + (I 235 6))) + 1)) from by first | omega | (simp only [wr, wl] at *; omega)), (show (wr ((wr (1228 + (I 235 6))) + 1)) < (1340 : Int) from by first | omega | (simp only [wr, wl] at *; omega)), ?_⟩
        refine ⟨⟨11, (by decide), rfl⟩, ?_⟩
        refine Call_wp (lv := [some (vr 4117), some (vi 1)]) (by decide) ckJ0_charAt_5068e [] rfl rfl ?_
        refine ⟨⟨11, (by decide), rfl⟩, ?_⟩
        refine Call_wp (lv := [some (vr 4117)]) (by decide) ckJ0_isLatin1_aae02 [] rfl rfl ?_
        refine ⟨fun c => absurd c (show (¬ ((1 : Int) = 0)) from by decide), fun _ => ?_⟩
        refine ⟨11, (by decide), rfl, ?_⟩
        refine ⟨fun c => absurd (show ((0 : Int) = 0) from by decide) c, fun _ => ?_⟩
        refine ⟨rfl, (by decide), ?_⟩
        refine ⟨fun c => absurd c (show (¬ ((1 : Int) = 0)) from by decide), fun _ => ?_⟩
        refine ⟨11, (by decide), rfl, ?_⟩
        refine Call_wp (lv := [some (vr 4147), some (vi 1)]) (by decide) ckJ1_charAt_3b067 [] rfl rfl ?_
        refine Or.inr (Or.inr ⟨11, (by decide), rfl, ?_⟩)
        refine Call_wp (lv := [some (vi 1), some (vi 4)]) (by decide) ckJ0_checkIndex_df160 [] rfl rfl ?_
        refine Call_wp (lv := [some (vi 1), some (vi 4), some (gS G)]) (by decide) ckJ3_checkIndex_8e157 [] rfl rfl ?_
        refine ⟨fun c => absurd c (show (¬ ((1 : Int) < 0)) from by decide), fun _ => ?_⟩
        refine ⟨fun _ => ?_, fun c => absurd (show ((1 : Int) < 4) from by decide) c⟩
        refine ⟨rfl, ?_⟩
        refine ⟨rfl, ?_⟩
        refine ⟨11, (by decide), rfl, (by decide), (by decide), ?_⟩
        refine ⟨rfl, (by decide), ?_⟩
        refine ⟨rfl, (by decide), ?_⟩
        have a24 : -2147483648 ≤ (I 236 (Int.toNat (wr ((wr (1228 + (I 235 6))) + 1)))) ∧ (I 236 (Int.toNat (wr ((wr (1228 + (I 235 6))) + 1)))) < 2147483648 := hA.1 _ _
        refine ⟨fun (c25 : (¬ ((I 236 (Int.toNat (wr ((wr (1228 + (I 235 6))) + 1)))) : Int) = 111)) => ?_, fun (c25 : (((I 236 (Int.toNat (wr ((wr (1228 + (I 235 6))) + 1)))) : Int) = 111)) => ?_⟩
        ·
          refine ⟨fun _ => ?_, fun c => absurd (show ((0 : Int) = 0) from by decide) c⟩
          refine ⟨fun _ => ?_, fun c => absurd (show ((0 : Int) = 0) from by decide) c⟩
          have r26 : 0 ≤ (I 236 2) ∧ (I 236 2) ≤ 64 := Rg.n2 hR
          have a27 : -2147483648 ≤ (I 236 2) ∧ (I 236 2) < 2147483648 := hA.1 _ _
          exact ⟨rfl, (by decide), fun hv hA' => hQ _ _ hR hA' (hv _ rfl) (fun _ _ _ => rfl) (show 0 = 1 → (I 235 6) + 4 ≤ (I 235 6) from by first | omega | (simp only [wr, wl] at *; omega)) (show (I 235 6) ≤ (I 235 7) from by first | omega | (simp only [wr, wl] at *; omega)) (show (I 235 7) ≤ (I 236 2) from by first | omega | (simp only [wr, wl] at *; omega)) (show (I 235 6) < (I 236 2) → (I 235 6) < (I 235 7) from by first | omega | (simp only [wr, wl] at *; omega)) (show (I 235 6) ≤ (I 235 6) from by first | omega | (simp only [wr, wl] at *; omega)) (show 0 = 1 → (I 235 8) = 0 from by first | omega | (simp only [wr, wl] at *; omega)) (show 0 ≤ 0 ∧ 0 ≤ 1 from by first | omega | (simp only [wr, wl] at *; omega))⟩
        ·
          refine ⟨fun c => absurd c (show (¬ ((1 : Int) = 0)) from by decide), fun _ => ?_⟩
          refine ⟨⟨11, (by decide), rfl⟩, ?_⟩
          refine Call_wp (lv := [some (vr 4117)]) (by decide) ckJ0_length_8abf5 [] rfl rfl ?_
          refine ⟨11, (by decide), rfl, ?_⟩
          refine Or.inr (Or.inr ⟨11, (by decide), rfl, ?_⟩)
          refine ⟨⟨11, (by decide), rfl⟩, ?_⟩
          refine Call_wp (lv := [some (vr 4117)]) (by decide) ckJ0_coder_7d493 [] rfl rfl ?_
          refine ⟨fun c => absurd c (show (¬ ((1 : Int) = 0)) from by decide), fun _ => ?_⟩
          refine ⟨11, (by decide), rfl, ?_⟩
          refine ⟨rfl, (by decide), ?_⟩
          refine ⟨rfl, ?_⟩
          refine ⟨fun c => absurd c (show (¬ ((4 : Int) ≤ 2)) from by decide), fun _ => ?_⟩
          refine ⟨_, rfl, (by decide), ?_⟩
          refine fun w0 hw0 => ?_; obtain rfl : w0 = some 236 := hw0.symm.trans (FS.g hF rfl)
          refine ⟨_, rfl, (by decide), ?_⟩
          have n28 : (wr ((wr (1228 + (I 235 6))) + 2)) = (wr (1228 + (I 235 6))) + 2 := wr_id (show -2147483648 ≤ ((wr (1228 + (I 235 6))) + 2 : Int) ∧ ((wr (1228 + (I 235 6))) + 2 : Int) < 2147483648 from by omega)
          refine ⟨_, rfl, (by decide), (show (0 : Int) ≤ (wr ((wr (1228 + (I 235 6))) + 2)) from by first | omega | (simp only [wr, wl] at *; omega)), (show (wr ((wr (1228 + (I 235 6))) + 2)) < (1340 : Int) from by first | omega | (simp only [wr, wl] at *; omega)), ?_⟩
          refine ⟨⟨11, (by decide), rfl⟩, ?_⟩
          refine Call_wp (lv := [some (vr 4117), some (vi 2)]) (by decide) ckJ0_charAt_5068e [] rfl rfl ?_
          refine ⟨⟨11, (by decide), rfl⟩, ?_⟩
          refine Call_wp (lv := [some (vr 4117)]) (by decide) ckJ0_isLatin1_aae02 [] rfl rfl ?_
          refine ⟨fun c => absurd c (show (¬ ((1 : Int) = 0)) from by decide), fun _ => ?_⟩
          refine ⟨11, (by decide), rfl, ?_⟩
          refine ⟨fun c => absurd (show ((0 : Int) = 0) from by decide) c, fun _ => ?_⟩
          refine ⟨rfl, (by decide), ?_⟩
          refine ⟨fun c => absurd c (show (¬ ((1 : Int) = 0)) from by decide), fun _ => ?_⟩
          refine ⟨11, (by decide), rfl, ?_⟩
          refine Call_wp (lv := [some (vr 4147), some (vi 2)]) (by decide) ckJ1_charAt_3b067 [] rfl rfl ?_
          refine Or.inr (Or.inr ⟨11, (by decide), rfl, ?_⟩)
          refine Call_wp (lv := [some (vi 2), some (vi 4)]) (by decide) ckJ0_checkIndex_df160 [] rfl rfl ?_
          refine Call_wp (lv := [some (vi 2), some (vi 4), some (gS G)]) (by decide) ckJ3_checkIndex_8e157 [] rfl rfl ?_
          refine ⟨fun c => absurd c (show (¬ ((2 : Int) < 0)) from by decide), fun _ => ?_⟩
          refine ⟨fun _ => ?_, fun c => absurd (show ((2 : Int) < 4) from by decide) c⟩
          refine ⟨rfl, ?_⟩
          refine ⟨rfl, ?_⟩
          refine ⟨11, (by decide), rfl, (by decide), (by decide), ?_⟩
          refine ⟨rfl, (by decide), ?_⟩
          refine ⟨rfl, (by decide), ?_⟩
          have a29 : -2147483648 ≤ (I 236 (Int.toNat (wr ((wr (1228 + (I 235 6))) + 2)))) ∧ (I 236 (Int.toNat (wr ((wr (1228 + (I 235 6))) + 2)))) < 2147483648 := hA.1 _ _
          refine ⟨fun (c30 : (¬ ((I 236 (Int.toNat (wr ((wr (1228 + (I 235 6))) + 2)))) : Int) = 108)) => ?_, fun (c30 : (((I 236 (Int.toNat (wr ((wr (1228 + (I 235 6))) + 2)))) : Int) = 108)) => ?_⟩
          ·
            refine ⟨fun _ => ?_, fun c => absurd (show ((0 : Int) = 0) from by decide) c⟩
            refine ⟨fun _ => ?_, fun c => absurd (show ((0 : Int) = 0) from by decide) c⟩
            have r31 : 0 ≤ (I 236 2) ∧ (I 236 2) ≤ 64 := Rg.n2 hR
            have a32 : -2147483648 ≤ (I 236 2) ∧ (I 236 2) < 2147483648 := hA.1 _ _
            exact ⟨rfl, (by decide), fun hv hA' => hQ _ _ hR hA' (hv _ rfl) (fun _ _ _ => rfl) (show 0 = 1 → (I 235 6) + 4 ≤ (I 235 6) from by first | omega | (simp only [wr, wl] at *; omega)) (show (I 235 6) ≤ (I 235 7) from by first | omega | (simp only [wr, wl] at *; omega)) (show (I 235 7) ≤ (I 236 2) from by first | omega | (simp only [wr, wl] at *; omega)) (show (I 235 6) < (I 236 2) → (I 235 6) < (I 235 7) from by first | omega | (simp only [wr, wl] at *; omega)) (show (I 235 6) ≤ (I 235 6) from by first | omega | (simp only [wr, wl] at *; omega)) (show 0 = 1 → (I 235 8) = 0 from by first | omega | (simp only [wr, wl] at *; omega)) (show 0 ≤ 0 ∧ 0 ≤ 1 from by first | omega | (simp only [wr, wl] at *; omega))⟩
          ·
            refine ⟨fun c => absurd c (show (¬ ((1 : Int) = 0)) from by decide), fun _ => ?_⟩
            refine ⟨⟨11, (by decide), rfl⟩, ?_⟩
            refine Call_wp (lv := [some (vr 4117)]) (by decide) ckJ0_length_8abf5 [] rfl rfl ?_
            refine ⟨11, (by decide), rfl, ?_⟩
            refine Or.inr (Or.inr ⟨11, (by decide), rfl, ?_⟩)
            refine ⟨⟨11, (by decide), rfl⟩, ?_⟩
            refine Call_wp (lv := [some (vr 4117)]) (by decide) ckJ0_coder_7d493 [] rfl rfl ?_
            refine ⟨fun c => absurd c (show (¬ ((1 : Int) = 0)) from by decide), fun _ => ?_⟩
            refine ⟨11, (by decide), rfl, ?_⟩
            refine ⟨rfl, (by decide), ?_⟩
            refine ⟨rfl, ?_⟩
            refine ⟨fun c => absurd c (show (¬ ((4 : Int) ≤ 3)) from by decide), fun _ => ?_⟩
            refine ⟨_, rfl, (by decide), ?_⟩
            refine fun w0 hw0 => ?_; obtain rfl : w0 = some 236 := hw0.symm.trans (FS.g hF rfl)
            refine ⟨_, rfl, (by decide), ?_⟩
            have n33 : (wr ((wr (1228 + (I 235 6))) + 3)) = (wr (1228 + (I 235 6))) + 3 := wr_id (show -2147483648 ≤ ((wr (1228 + (I 235 6))) + 3 : Int) ∧ ((wr (1228 + (I 235 6))) + 3 : Int) < 2147483648 from by omega)
            refine ⟨_, rfl, (by decide), (show (0 : Int) ≤ (wr ((wr (1228 + (I 235 6))) + 3)) from by first | omega | (simp only [wr, wl] at *; omega)), (show (wr ((wr (1228 + (I 235 6))) + 3)) < (1340 : Int) from by first | omega | (simp only [wr, wl] at *; omega)), ?_⟩
            refine ⟨⟨11, (by decide), rfl⟩, ?_⟩
            refine Call_wp (lv := [some (vr 4117), some (vi 3)]) (by decide) ckJ0_charAt_5068e [] rfl rfl ?_
            refine ⟨⟨11, (by decide), rfl⟩, ?_⟩
            refine Call_wp (lv := [some (vr 4117)]) (by decide) ckJ0_isLatin1_aae02 [] rfl rfl ?_
            refine ⟨fun c => absurd c (show (¬ ((1 : Int) = 0)) from by decide), fun _ => ?_⟩
            refine ⟨11, (by decide), rfl, ?_⟩
            refine ⟨fun c => absurd (show ((0 : Int) = 0) from by decide) c, fun _ => ?_⟩
            refine ⟨rfl, (by decide), ?_⟩
            refine ⟨fun c => absurd c (show (¬ ((1 : Int) = 0)) from by decide), fun _ => ?_⟩
            refine ⟨11, (by decide), rfl, ?_⟩
            refine Call_wp (lv := [some (vr 4147), some (vi 3)]) (by decide) ckJ1_charAt_3b067 [] rfl rfl ?_
            refine Or.inr (Or.inr ⟨11, (by decide), rfl, ?_⟩)
            refine Call_wp (lv := [some (vi 3), some (vi 4)]) (by decide) ckJ0_checkIndex_df160 [] rfl rfl ?_
            refine Call_wp (lv := [some (vi 3), some (vi 4), some (gS G)]) (by decide) ckJ3_checkIndex_8e157 [] rfl rfl ?_
            refine ⟨fun c => absurd c (show (¬ ((3 : Int) < 0)) from by decide), fun _ => ?_⟩
            refine ⟨fun _ => ?_, fun c => absurd (show ((3 : Int) < 4) from by decide) c⟩
            refine ⟨rfl, ?_⟩
            refine ⟨rfl, ?_⟩
            refine ⟨11, (by decide), rfl, (by decide), (by decide), ?_⟩
            refine ⟨rfl, (by decide), ?_⟩
            refine ⟨rfl, (by decide), ?_⟩
            have a34 : -2147483648 ≤ (I 236 (Int.toNat (wr ((wr (1228 + (I 235 6))) + 3)))) ∧ (I 236 (Int.toNat (wr ((wr (1228 + (I 235 6))) + 3)))) < 2147483648 := hA.1 _ _
            refine ⟨fun (c35 : (¬ ((I 236 (Int.toNat (wr ((wr (1228 + (I 235 6))) + 3)))) : Int) = 100)) => ?_, fun (c35 : (((I 236 (Int.toNat (wr ((wr (1228 + (I 235 6))) + 3)))) : Int) = 100)) => ?_⟩
            ·
              refine ⟨fun _ => ?_, fun c => absurd (show ((0 : Int) = 0) from by decide) c⟩
              refine ⟨fun _ => ?_, fun c => absurd (show ((0 : Int) = 0) from by decide) c⟩
              have r36 : 0 ≤ (I 236 2) ∧ (I 236 2) ≤ 64 := Rg.n2 hR
              have a37 : -2147483648 ≤ (I 236 2) ∧ (I 236 2) < 2147483648 := hA.1 _ _
              exact ⟨rfl, (by decide), fun hv hA' => hQ _ _ hR hA' (hv _ rfl) (fun _ _ _ => rfl) (show 0 = 1 → (I 235 6) + 4 ≤ (I 235 6) from by first | omega | (simp only [wr, wl] at *; omega)) (show (I 235 6) ≤ (I 235 7) from by first | omega | (simp only [wr, wl] at *; omega)) (show (I 235 7) ≤ (I 236 2) from by first | omega | (simp only [wr, wl] at *; omega)) (show (I 235 6) < (I 236 2) → (I 235 6) < (I 235 7) from by first | omega | (simp only [wr, wl] at *; omega)) (show (I 235 6) ≤ (I 235 6) from by first | omega | (simp only [wr, wl] at *; omega)) (show 0 = 1 → (I 235 8) = 0 from by first | omega | (simp only [wr, wl] at *; omega)) (show 0 ≤ 0 ∧ 0 ≤ 1 from by first | omega | (simp only [wr, wl] at *; omega))⟩
            ·
              refine ⟨fun c => absurd c (show (¬ ((1 : Int) = 0)) from by decide), fun _ => ?_⟩
              refine ⟨⟨11, (by decide), rfl⟩, ?_⟩
              refine Call_wp (lv := [some (vr 4117)]) (by decide) ckJ0_length_8abf5 [] rfl rfl ?_
              refine ⟨11, (by decide), rfl, ?_⟩
              refine Or.inr (Or.inr ⟨11, (by decide), rfl, ?_⟩)
              refine ⟨⟨11, (by decide), rfl⟩, ?_⟩
              refine Call_wp (lv := [some (vr 4117)]) (by decide) ckJ0_coder_7d493 [] rfl rfl ?_
              refine ⟨fun c => absurd c (show (¬ ((1 : Int) = 0)) from by decide), fun _ => ?_⟩
              refine ⟨11, (by decide), rfl, ?_⟩
              refine ⟨rfl, (by decide), ?_⟩
              refine ⟨rfl, ?_⟩
              refine ⟨fun _ => ?_, fun c => absurd (show ((4 : Int) ≤ 4) from by decide) c⟩
              refine ⟨fun c => absurd c (show (¬ ((1 : Int) = 0)) from by decide), fun _ => ?_⟩
              refine ⟨⟨_, rfl, (by decide)⟩, ?_⟩
              have r38 : 0 ≤ (I 236 2) ∧ (I 236 2) ≤ 64 := Rg.n2 hR
              have a39 : -2147483648 ≤ (I 236 2) ∧ (I 236 2) < 2147483648 := hA.1 _ _
              refine r_goOn hF hR (show (I 235 7) ≤ (I 236 2) from by first | omega | (simp only [wr, wl] at *; omega)) (fun I40 hR41 hA42 hW43 q44 q45 q46 q47 => ?_)
              have r48 : 0 ≤ (I40 235 6) ∧ (I40 235 6) ≤ 64 := Rg.f6 hR41
              have a49 : -2147483648 ≤ (I40 235 6) ∧ (I40 235 6) < 2147483648 := hA42.1 _ _
              have r50 : 0 ≤ (I40 235 7) ∧ (I40 235 7) ≤ 64 := Rg.f7 hR41
              have a51 : -2147483648 ≤ (I40 235 7) ∧ (I40 235 7) < 2147483648 := hA42.1 _ _
              exact ⟨rfl, (by decide), fun hv hA' => hQ _ _ hR41 hA' (hv _ rfl) (fun k j hk => (hW43 k j (by omega))) (show 1 = 1 → (I 235 6) + 4 ≤ (I40 235 6) from by first | omega | (simp only [wr, wl] at *; omega)) (show (I40 235 6) ≤ (I40 235 7) from by first | omega | (simp only [wr, wl] at *; omega)) (show (I40 235 7) ≤ (I 236 2) from by first | omega | (simp only [wr, wl] at *; omega)) (show (I40 235 6) < (I 236 2) → (I40 235 6) < (I40 235 7) from by first | omega | (simp only [wr, wl] at *; omega)) (show (I 235 6) ≤ (I40 235 6) from by first | omega | (simp only [wr, wl] at *; omega)) (show 1 = 1 → (I 235 8) = 0 from by first | omega | (simp only [wr, wl] at *; omega)) (show 0 ≤ 1 ∧ 1 ≤ 1 from by first | omega | (simp only [wr, wl] at *; omega))⟩
theorem r_takes_12 (hF : FS F) (hR : Rg I) (h1 : I 235 6 ≤ I 235 7) (h2 : I 235 7 ≤ I 236 2) (h3 : I 235 6 < I 236 2 → I 235 6 < I 235 7) (hQ : ∀ (r : Int) (I' : pI), Rg I' → AR I' → iR r → (∀ k j, ¬ ((k = 235 ∧ (j = 6 ∨ j = 7))) → I' k j = I k j) → (r = 1 → (I 235 6) + 4 ≤ (I' 235 6)) → ((I' 235 6) ≤ (I' 235 7)) → ((I' 235 7) ≤ (I 236 2)) → ((I' 235 6) < (I 236 2) → (I' 235 6) < (I' 235 7)) → ((I 235 6) ≤ (I' 235 6)) → (r = 1 → (I 235 8) = 0) → (0 ≤ r ∧ r ≤ 1) → Q (some (vi r)) F I') : CallN G (d + 4) kX12_takes [vr 235, vr 4118] NP F I Q := by
  refine CallN_in (fun hok hA => CallN_out ?_)
  have g2 := Rg.n2 hR (Or.inl rfl)
  refine Call_wp (lv := [some (vr 235), some (vr 4118), none, none]) (by decide) ckX12_takes [] rfl rfl ?_
  refine ⟨_, rfl, (by decide), ?_⟩
  have a1 : -2147483648 ≤ (I 235 8) ∧ (I 235 8) < 2147483648 := hA.1 _ _
  refine ⟨fun (c2 : (¬ ((I 235 8) : Int) = 0)) => ?_, fun (c2 : (((I 235 8) : Int) = 0)) => ?_⟩
  ·
    refine ⟨fun _ => ?_, fun c => absurd (show ((0 : Int) = 0) from by decide) c⟩
    refine ⟨fun _ => ?_, fun c => absurd (show ((0 : Int) = 0) from by decide) c⟩
    have r3 : 0 ≤ (I 235 6) ∧ (I 235 6) ≤ 64 := Rg.f6 hR
    have a4 : -2147483648 ≤ (I 235 6) ∧ (I 235 6) < 2147483648 := hA.1 _ _
    have r5 : 0 ≤ (I 235 7) ∧ (I 235 7) ≤ 64 := Rg.f7 hR
    have a6 : -2147483648 ≤ (I 235 7) ∧ (I 235 7) < 2147483648 := hA.1 _ _
    have r7 : 0 ≤ (I 236 2) ∧ (I 236 2) ≤ 64 := Rg.n2 hR
    have a8 : -2147483648 ≤ (I 236 2) ∧ (I 236 2) < 2147483648 := hA.1 _ _
    exact ⟨rfl, (by decide), fun hv hA' => hQ _ _ hR hA' (hv _ rfl) (fun _ _ _ => rfl) (show 0 = 1 → (I 235 6) + 4 ≤ (I 235 6) from by first | omega | (simp only [wr, wl] at *; omega)) (show (I 235 6) ≤ (I 235 7) from by first | omega | (simp only [wr, wl] at *; omega)) (show (I 235 7) ≤ (I 236 2) from by first | omega | (simp only [wr, wl] at *; omega)) (show (I 235 6) < (I 236 2) → (I 235 6) < (I 235 7) from by first | omega | (simp only [wr, wl] at *; omega)) (show (I 235 6) ≤ (I 235 6) from by first | omega | (simp only [wr, wl] at *; omega)) (show 0 = 1 → (I 235 8) = 0 from by first | omega | (simp only [wr, wl] at *; omega)) (show 0 ≤ 0 ∧ 0 ≤ 1 from by first | omega | (simp only [wr, wl] at *; omega))⟩
  ·
    refine ⟨_, rfl, (by decide), ?_⟩
    have r9 : 0 ≤ (I 235 7) ∧ (I 235 7) ≤ 64 := Rg.f7 hR
    refine ⟨_, rfl, (by decide), ?_⟩
    have r10 : 0 ≤ (I 235 6) ∧ (I 235 6) ≤ 64 := Rg.f6 hR
    refine ⟨⟨12, (by decide), rfl⟩, ?_⟩
    refine Call_wp (lv := [some (vr 4118)]) (by decide) ckJ0_length_8abf5 [] rfl rfl ?_
    refine ⟨12, (by decide), rfl, ?_⟩
    refine Or.inr (Or.inr ⟨12, (by decide), rfl, ?_⟩)
    refine ⟨⟨12, (by decide), rfl⟩, ?_⟩
    refine Call_wp (lv := [some (vr 4118)]) (by decide) ckJ0_coder_7d493 [] rfl rfl ?_
    refine ⟨fun c => absurd c (show (¬ ((1 : Int) = 0)) from by decide), fun _ => ?_⟩
    refine ⟨12, (by decide), rfl, ?_⟩
    refine ⟨rfl, (by decide), ?_⟩
    refine ⟨rfl, ?_⟩
    have a11 : -2147483648 ≤ (I 235 7) ∧ (I 235 7) < 2147483648 := hA.1 _ _
    have a12 : -2147483648 ≤ (I 235 6) ∧ (I 235 6) < 2147483648 := hA.1 _ _
    have n13 : (wr ((I 235 7) - (I 235 6))) = (I 235 7) - (I 235 6) := wr_id (show -2147483648 ≤ ((I 235 7) - (I 235 6) : Int) ∧ ((I 235 7) - (I 235 6) : Int) < 2147483648 from by omega)
    refine ⟨fun (c14 : (¬ ((wr ((I 235 7) - (I 235 6))) : Int) = 4)) => ?_, fun (c14 : (((wr ((I 235 7) - (I 235 6))) : Int) = 4)) => ?_⟩
    ·
      refine ⟨fun _ => ?_, fun c => absurd (show ((0 : Int) = 0) from by decide) c⟩
      refine ⟨fun _ => ?_, fun c => absurd (show ((0 : Int) = 0) from by decide) c⟩
      have r15 : 0 ≤ (I 236 2) ∧ (I 236 2) ≤ 64 := Rg.n2 hR
      have a16 : -2147483648 ≤ (I 236 2) ∧ (I 236 2) < 2147483648 := hA.1 _ _
      exact ⟨rfl, (by decide), fun hv hA' => hQ _ _ hR hA' (hv _ rfl) (fun _ _ _ => rfl) (show 0 = 1 → (I 235 6) + 4 ≤ (I 235 6) from by first | omega | (simp only [wr, wl] at *; omega)) (show (I 235 6) ≤ (I 235 7) from by first | omega | (simp only [wr, wl] at *; omega)) (show (I 235 7) ≤ (I 236 2) from by first | omega | (simp only [wr, wl] at *; omega)) (show (I 235 6) < (I 236 2) → (I 235 6) < (I 235 7) from by first | omega | (simp only [wr, wl] at *; omega)) (show (I 235 6) ≤ (I 235 6) from by first | omega | (simp only [wr, wl] at *; omega)) (show 0 = 1 → (I 235 8) = 0 from by first | omega | (simp only [wr, wl] at *; omega)) (show 0 ≤ 0 ∧ 0 ≤ 1 from by first | omega | (simp only [wr, wl] at *; omega))⟩
    ·
      refine ⟨fun c => absurd c (show (¬ ((1 : Int) = 0)) from by decide), fun _ => ?_⟩
      refine ⟨⟨12, (by decide), rfl⟩, ?_⟩
      refine Call_wp (lv := [some (vr 4118)]) (by decide) ckJ0_length_8abf5 [] rfl rfl ?_
      refine ⟨12, (by decide), rfl, ?_⟩
      refine Or.inr (Or.inr ⟨12, (by decide), rfl, ?_⟩)
      refine ⟨⟨12, (by decide), rfl⟩, ?_⟩
      refine Call_wp (lv := [some (vr 4118)]) (by decide) ckJ0_coder_7d493 [] rfl rfl ?_
      refine ⟨fun c => absurd c (show (¬ ((1 : Int) = 0)) from by decide), fun _ => ?_⟩
      refine ⟨12, (by decide), rfl, ?_⟩
      refine ⟨rfl, (by decide), ?_⟩
      refine ⟨rfl, ?_⟩
      refine ⟨fun c => absurd c (show (¬ ((4 : Int) ≤ 0)) from by decide), fun _ => ?_⟩
      refine ⟨_, rfl, (by decide), ?_⟩
      refine fun w0 hw0 => ?_; obtain rfl : w0 = some 236 := hw0.symm.trans (FS.g hF rfl)
      refine ⟨_, rfl, (by decide), ?_⟩
      have n17 : (wr (1228 + (I 235 6))) = 1228 + (I 235 6) := wr_id (show -2147483648 ≤ (1228 + (I 235 6) : Int) ∧ (1228 + (I 235 6) : Int) < 2147483648 from by omega)
      have n18 : (wr ((wr (1228 + (I 235 6))) + 0)) = (wr (1228 + (I 235 6))) + 0 := wr_id (show -2147483648 ≤ ((wr (1228 + (I 235 6))) + 0 : Int) ∧ ((wr (1228 + (I 235 6))) + 0 : Int) < 2147483648 from by omega)
      refine ⟨_, rfl, (by decide), (show (0 : Int) ≤ (wr ((wr (1228 + (I 235 6))) + 0)) from by first | omega | (simp only [wr, wl] at *; omega)), (show (wr ((wr (1228 + (I 235 6))) + 0)) < (1340 : Int) from by first | omega | (simp only [wr, wl] at *; omega)), ?_⟩
      refine ⟨⟨12, (by decide), rfl⟩, ?_⟩
      refine Call_wp (lv := [some (vr 4118), some (vi 0)]) (by decide) ckJ0_charAt_5068e [] rfl rfl ?_
      refine ⟨⟨12, (by decide), rfl⟩, ?_⟩
      refine Call_wp (lv := [some (vr 4118)]) (by decide) ckJ0_isLatin1_aae02 [] rfl rfl ?_
      refine ⟨fun c => absurd c (show (¬ ((1 : Int) = 0)) from by decide), fun _ => ?_⟩
      refine ⟨12, (by decide), rfl, ?_⟩
      refine ⟨fun c => absurd (show ((0 : Int) = 0) from by decide) c, fun _ => ?_⟩
      refine ⟨rfl, (by decide), ?_⟩
      refine ⟨fun c => absurd c (show (¬ ((1 : Int) = 0)) from by decide), fun _ => ?_⟩
      refine ⟨12, (by decide), rfl, ?_⟩
      refine Call_wp (lv := [some (vr 4148), some (vi 0)]) (by decide) ckJ1_charAt_3b067 [] rfl rfl ?_
      refine Or.inr (Or.inr ⟨12, (by decide), rfl, ?_⟩)
      refine Call_wp (lv := [some (vi 0), some (vi 4)]) (by decide) ckJ0_checkIndex_df160 [] rfl rfl ?_
      refine Call_wp (lv := [some (vi 0), some (vi 4), some (gS G)]) (by decide) ckJ3_checkIndex_8e157 [] rfl rfl ?_
      refine ⟨fun c => absurd c (show (¬ ((0 : Int) < 0)) from by decide), fun _ => ?_⟩
      refine ⟨fun _ => ?_, fun c => absurd (show ((0 : Int) < 4) from by decide) c⟩
      refine ⟨rfl, ?_⟩
      refine ⟨rfl, ?_⟩
      refine ⟨12, (by decide), rfl, (by decide), (by decide), ?_⟩
      refine ⟨rfl, (by decide), ?_⟩
      refine ⟨rfl, (by decide), ?_⟩
      have a19 : -2147483648 ≤ (I 236 (Int.toNat (wr ((wr (1228 + (I 235 6))) + 0)))) ∧ (I 236 (Int.toNat (wr ((wr (1228 + (I 235 6))) + 0)))) < 2147483648 := hA.1 _ _
      refine ⟨fun (c20 : (¬ ((I 236 (Int.toNat (wr ((wr (1228 + (I 235 6))) + 0)))) : Int) = 98)) => ?_, fun (c20 : (((I 236 (Int.toNat (wr ((wr (1228 + (I 235 6))) + 0)))) : Int) = 98)) => ?_⟩
      ·
        refine ⟨fun _ => ?_, fun c => absurd (show ((0 : Int) = 0) from by decide) c⟩
        refine ⟨fun _ => ?_, fun c => absurd (show ((0 : Int) = 0) from by decide) c⟩
        have r21 : 0 ≤ (I 236 2) ∧ (I 236 2) ≤ 64 := Rg.n2 hR
        have a22 : -2147483648 ≤ (I 236 2) ∧ (I 236 2) < 2147483648 := hA.1 _ _
        exact ⟨rfl, (by decide), fun hv hA' => hQ _ _ hR hA' (hv _ rfl) (fun _ _ _ => rfl) (show 0 = 1 → (I 235 6) + 4 ≤ (I 235 6) from by first | omega | (simp only [wr, wl] at *; omega)) (show (I 235 6) ≤ (I 235 7) from by first | omega | (simp only [wr, wl] at *; omega)) (show (I 235 7) ≤ (I 236 2) from by first | omega | (simp only [wr, wl] at *; omega)) (show (I 235 6) < (I 236 2) → (I 235 6) < (I 235 7) from by first | omega | (simp only [wr, wl] at *; omega)) (show (I 235 6) ≤ (I 235 6) from by first | omega | (simp only [wr, wl] at *; omega)) (show 0 = 1 → (I 235 8) = 0 from by first | omega | (simp only [wr, wl] at *; omega)) (show 0 ≤ 0 ∧ 0 ≤ 1 from by first | omega | (simp only [wr, wl] at *; omega))⟩
      ·
        refine ⟨fun c => absurd c (show (¬ ((1 : Int) = 0)) from by decide), fun _ => ?_⟩
        refine ⟨⟨12, (by decide), rfl⟩, ?_⟩
        refine Call_wp (lv := [some (vr 4118)]) (by decide) ckJ0_length_8abf5 [] rfl rfl ?_
        refine ⟨12, (by decide), rfl, ?_⟩
        refine Or.inr (Or.inr ⟨12, (by decide), rfl, ?_⟩)
        refine ⟨⟨12, (by decide), rfl⟩, ?_⟩
        refine Call_wp (lv := [some (vr 4118)]) (by decide) ckJ0_coder_7d493 [] rfl rfl ?_
        refine ⟨fun c => absurd c (show (¬ ((1 : Int) = 0)) from by decide), fun _ => ?_⟩
        refine ⟨12, (by decide), rfl, ?_⟩
        refine ⟨rfl, (by decide), ?_⟩
        refine ⟨rfl, ?_⟩
        refine ⟨fun c => absurd c (show (¬ ((4 : Int) ≤ 1)) from by decide), fun _ => ?_⟩
        refine ⟨_, rfl, (by decide), ?_⟩
        refine fun w0 hw0 => ?_; obtain rfl : w0 = some 236 := hw0.symm.trans (FS.g hF rfl)
        refine ⟨_, rfl, (by decide), ?_⟩
        have n23 : (wr ((wr (1228 + (I 235 6))) + 1)) = (wr (1228 + (I 235 6))) + 1 := wr_id (show -2147483648 ≤ ((wr (1228 + (I 235 6))) + 1 : Int) ∧ ((wr (1228 + (I 235 6))) + 1 : Int) < 2147483648 from by omega)
        refine ⟨_, rfl, (by decide), (show (0 : Int) ≤ (wr ((wr (1228 + (I 235 6))) + 1)) from by first | omega | (simp only [wr, wl] at *; omega)), (show (wr ((wr (1228 + (I 235 6))) + 1)) < (1340 : Int) from by first | omega | (simp only [wr, wl] at *; omega)), ?_⟩
        refine ⟨⟨12, (by decide), rfl⟩, ?_⟩
        refine Call_wp (lv := [some (vr 4118), some (vi 1)]) (by decide) ckJ0_charAt_5068e [] rfl rfl ?_
        refine ⟨⟨12, (by decide), rfl⟩, ?_⟩
        refine Call_wp (lv := [some (vr 4118)]) (by decide) ckJ0_isLatin1_aae02 [] rfl rfl ?_
        refine ⟨fun c => absurd c (show (¬ ((1 : Int) = 0)) from by decide), fun _ => ?_⟩
        refine ⟨12, (by decide), rfl, ?_⟩
        refine ⟨fun c => absurd (show ((0 : Int) = 0) from by decide) c, fun _ => ?_⟩
        refine ⟨rfl, (by decide), ?_⟩
        refine ⟨fun c => absurd c (show (¬ ((1 : Int) = 0)) from by decide), fun _ => ?_⟩
        refine ⟨12, (by decide), rfl, ?_⟩
        refine Call_wp (lv := [some (vr 4148), some (vi 1)]) (by decide) ckJ1_charAt_3b067 [] rfl rfl ?_
        refine Or.inr (Or.inr ⟨12, (by decide), rfl, ?_⟩)
        refine Call_wp (lv := [some (vi 1), some (vi 4)]) (by decide) ckJ0_checkIndex_df160 [] rfl rfl ?_
        refine Call_wp (lv := [some (vi 1), some (vi 4), some (gS G)]) (by decide) ckJ3_checkIndex_8e157 [] rfl rfl ?_
        refine ⟨fun c => absurd c (show (¬ ((1 : Int) < 0)) from by decide), fun _ => ?_⟩
        refine ⟨fun _ => ?_, fun c => absurd (show ((1 : Int) < 4) from by decide) c⟩
        refine ⟨rfl, ?_⟩
        refine ⟨rfl, ?_⟩
        refine ⟨12, (by decide), rfl, (by decide), (by decide), ?_⟩
        refine ⟨rfl, (by decide), ?_⟩
        refine ⟨rfl, (by decide), ?_⟩
        have a24 : -2147483648 ≤ (I 236 (Int.toNat (wr ((wr (1228 + (I 235 6))) + 1)))) ∧ (I 236 (Int.toNat (wr ((wr (1228 + (I 235 6))) + 1)))) < 2147483648 := hA.1 _ _
        refine ⟨fun (c25 : (¬ ((I 236 (Int.toNat (wr ((wr (1228 + (I 235 6))) + 1)))) : Int) = 97)) => ?_, fun (c25 : (((I 236 (Int.toNat (wr ((wr (1228 + (I 235 6))) + 1)))) : Int) = 97)) => ?_⟩
        ·
          refine ⟨fun _ => ?_, fun c => absurd (show ((0 : Int) = 0) from by decide) c⟩
          refine ⟨fun _ => ?_, fun c => absurd (show ((0 : Int) = 0) from by decide) c⟩
          have r26 : 0 ≤ (I 236 2) ∧ (I 236 2) ≤ 64 := Rg.n2 hR
          have a27 : -2147483648 ≤ (I 236 2) ∧ (I 236 2) < 2147483648 := hA.1 _ _
          exact ⟨rfl, (by decide), fun hv hA' => hQ _ _ hR hA' (hv _ rfl) (fun _ _ _ => rfl) (show 0 = 1 → (I 235 6) + 4 ≤ (I 235 6) from by first | omega | (simp only [wr, wl] at *; omega)) (show (I 235 6) ≤ (I 235 7) from by first | omega | (simp only [wr, wl] at *; omega)) (show (I 235 7) ≤ (I 236 2) from by first | omega | (simp only [wr, wl] at *; omega)) (show (I 235 6) < (I 236 2) → (I 235 6) < (I 235 7) from by first | omega | (simp only [wr, wl] at *; omega)) (show (I 235 6) ≤ (I 235 6) from by first | omega | (simp only [wr, wl] at *; omega)) (show 0 = 1 → (I 235 8) = 0 from by first | omega | (simp only [wr, wl] at *; omega)) (show 0 ≤ 0 ∧ 0 ≤ 1 from by first | omega | (simp only [wr, wl] at *; omega))⟩
        ·
          refine ⟨fun c => absurd c (show (¬ ((1 : Int) = 0)) from by decide), fun _ => ?_⟩
          refine ⟨⟨12, (by decide), rfl⟩, ?_⟩
          refine Call_wp (lv := [some (vr 4118)]) (by decide) ckJ0_length_8abf5 [] rfl rfl ?_
          refine ⟨12, (by decide), rfl, ?_⟩
          refine Or.inr (Or.inr ⟨12, (by decide), rfl, ?_⟩)
          refine ⟨⟨12, (by decide), rfl⟩, ?_⟩
          refine Call_wp (lv := [some (vr 4118)]) (by decide) ckJ0_coder_7d493 [] rfl rfl ?_
          refine ⟨fun c => absurd c (show (¬ ((1 : Int) = 0)) from by decide), fun _ => ?_⟩
          refine ⟨12, (by decide), rfl, ?_⟩
          refine ⟨rfl, (by decide), ?_⟩
          refine ⟨rfl, ?_⟩
          refine ⟨fun c => absurd c (show (¬ ((4 : Int) ≤ 2)) from by decide), fun _ => ?_⟩
          refine ⟨_, rfl, (by decide), ?_⟩
          refine fun w0 hw0 => ?_; obtain rfl : w0 = some 236 := hw0.symm.trans (FS.g hF rfl)
          refine ⟨_, rfl, (by decide), ?_⟩
          have n28 : (wr ((wr (1228 + (I 235 6))) + 2)) = (wr (1228 + (I 235 6))) + 2 := wr_id (show -2147483648 ≤ ((wr (1228 + (I 235 6))) + 2 : Int) ∧ ((wr (1228 + (I 235 6))) + 2 : Int) < 2147483648 from by omega)
          refine ⟨_, rfl, (by decide), (show (0 : Int) ≤ (wr ((wr (1228 + (I 235 6))) + 2)) from by first | omega | (simp only [wr, wl] at *; omega)), (show (wr ((wr (1228 + (I 235 6))) + 2)) < (1340 : Int) from by first | omega | (simp only [wr, wl] at *; omega)), ?_⟩
          refine ⟨⟨12, (by decide), rfl⟩, ?_⟩
          refine Call_wp (lv := [some (vr 4118), some (vi 2)]) (by decide) ckJ0_charAt_5068e [] rfl rfl ?_
          refine ⟨⟨12, (by decide), rfl⟩, ?_⟩
          refine Call_wp (lv := [some (vr 4118)]) (by decide) ckJ0_isLatin1_aae02 [] rfl rfl ?_
          refine ⟨fun c => absurd c (show (¬ ((1 : Int) = 0)) from by decide), fun _ => ?_⟩
          refine ⟨12, (by decide), rfl, ?_⟩
          refine ⟨fun c => absurd (show ((0 : Int) = 0) from by decide) c, fun _ => ?_⟩
          refine ⟨rfl, (by decide), ?_⟩
          refine ⟨fun c => absurd c (show (¬ ((1 : Int) = 0)) from by decide), fun _ => ?_⟩
          refine ⟨12, (by decide), rfl, ?_⟩
          refine Call_wp (lv := [some (vr 4148), some (vi 2)]) (by decide) ckJ1_charAt_3b067 [] rfl rfl ?_
          refine Or.inr (Or.inr ⟨12, (by decide), rfl, ?_⟩)
          refine Call_wp (lv := [some (vi 2), some (vi 4)]) (by decide) ckJ0_checkIndex_df160 [] rfl rfl ?_
          refine Call_wp (lv := [some (vi 2), some (vi 4), some (gS G)]) (by decide) ckJ3_checkIndex_8e157 [] rfl rfl ?_
          refine ⟨fun c => absurd c (show (¬ ((2 : Int) < 0)) from by decide), fun _ => ?_⟩
          refine ⟨fun _ => ?_, fun c => absurd (show ((2 : Int) < 4) from by decide) c⟩
          refine ⟨rfl, ?_⟩
          refine ⟨rfl, ?_⟩
          refine ⟨12, (by decide), rfl, (by decide), (by decide), ?_⟩
          refine ⟨rfl, (by decide), ?_⟩
          refine ⟨rfl, (by decide), ?_⟩
          have a29 : -2147483648 ≤ (I 236 (Int.toNat (wr ((wr (1228 + (I 235 6))) + 2)))) ∧ (I 236 (Int.toNat (wr ((wr (1228 + (I 235 6))) + 2)))) < 2147483648 := hA.1 _ _
          refine ⟨fun (c30 : (¬ ((I 236 (Int.toNat (wr ((wr (1228 + (I 235 6))) + 2)))) : Int) = 99)) => ?_, fun (c30 : (((I 236 (Int.toNat (wr ((wr (1228 + (I 235 6))) + 2)))) : Int) = 99)) => ?_⟩
          ·
            refine ⟨fun _ => ?_, fun c => absurd (show ((0 : Int) = 0) from by decide) c⟩
            refine ⟨fun _ => ?_, fun c => absurd (show ((0 : Int) = 0) from by decide) c⟩
            have r31 : 0 ≤ (I 236 2) ∧ (I 236 2) ≤ 64 := Rg.n2 hR
            have a32 : -2147483648 ≤ (I 236 2) ∧ (I 236 2) < 2147483648 := hA.1 _ _
            exact ⟨rfl, (by decide), fun hv hA' => hQ _ _ hR hA' (hv _ rfl) (fun _ _ _ => rfl) (show 0 = 1 → (I 235 6) + 4 ≤ (I 235 6) from by first | omega | (simp only [wr, wl] at *; omega)) (show (I 235 6) ≤ (I 235 7) from by first | omega | (simp only [wr, wl] at *; omega)) (show (I 235 7) ≤ (I 236 2) from by first | omega | (simp only [wr, wl] at *; omega)) (show (I 235 6) < (I 236 2) → (I 235 6) < (I 235 7) from by first | omega | (simp only [wr, wl] at *; omega)) (show (I 235 6) ≤ (I 235 6) from by first | omega | (simp only [wr, wl] at *; omega)) (show 0 = 1 → (I 235 8) = 0 from by first | omega | (simp only [wr, wl] at *; omega)) (show 0 ≤ 0 ∧ 0 ≤ 1 from by first | omega | (simp only [wr, wl] at *; omega))⟩
          ·
            refine ⟨fun c => absurd c (show (¬ ((1 : Int) = 0)) from by decide), fun _ => ?_⟩
            refine ⟨⟨12, (by decide), rfl⟩, ?_⟩
            refine Call_wp (lv := [some (vr 4118)]) (by decide) ckJ0_length_8abf5 [] rfl rfl ?_
            refine ⟨12, (by decide), rfl, ?_⟩
            refine Or.inr (Or.inr ⟨12, (by decide), rfl, ?_⟩)
            refine ⟨⟨12, (by decide), rfl⟩, ?_⟩
            refine Call_wp (lv := [some (vr 4118)]) (by decide) ckJ0_coder_7d493 [] rfl rfl ?_
            refine ⟨fun c => absurd c (show (¬ ((1 : Int) = 0)) from by decide), fun _ => ?_⟩
            refine ⟨12, (by decide), rfl, ?_⟩
            refine ⟨rfl, (by decide), ?_⟩
            refine ⟨rfl, ?_⟩
            refine ⟨fun c => absurd c (show (¬ ((4 : Int) ≤ 3)) from by decide), fun _ => ?_⟩
            refine ⟨_, rfl, (by decide), ?_⟩
            refine fun w0 hw0 => ?_; obtain rfl : w0 = some 236 := hw0.symm.trans (FS.g hF rfl)
            refine ⟨_, rfl, (by decide), ?_⟩
            have n33 : (wr ((wr (1228 + (I 235 6))) + 3)) = (wr (1228 + (I 235 6))) + 3 := wr_id (show -2147483648 ≤ ((wr (1228 + (I 235 6))) + 3 : Int) ∧ ((wr (1228 + (I 235 6))) + 3 : Int) < 2147483648 from by omega)
            refine ⟨_, rfl, (by decide), (show (0 : Int) ≤ (wr ((wr (1228 + (I 235 6))) + 3)) from by first | omega | (simp only [wr, wl] at *; omega)), (show (wr ((wr (1228 + (I 235 6))) + 3)) < (1340 : Int) from by first | omega | (simp only [wr, wl] at *; omega)), ?_⟩
            refine ⟨⟨12, (by decide), rfl⟩, ?_⟩
            refine Call_wp (lv := [some (vr 4118), some (vi 3)]) (by decide) ckJ0_charAt_5068e [] rfl rfl ?_
            refine ⟨⟨12, (by decide), rfl⟩, ?_⟩
            refine Call_wp (lv := [some (vr 4118)]) (by decide) ckJ0_isLatin1_aae02 [] rfl rfl ?_
            refine ⟨fun c => absurd c (show (¬ ((1 : Int) = 0)) from by decide), fun _ => ?_⟩
            refine ⟨12, (by decide), rfl, ?_⟩
            refine ⟨fun c => absurd (show ((0 : Int) = 0) from by decide) c, fun _ => ?_⟩
            refine ⟨rfl, (by decide), ?_⟩
            refine ⟨fun c => absurd c (show (¬ ((1 : Int) = 0)) from by decide), fun _ => ?_⟩
            refine ⟨12, (by decide), rfl, ?_⟩
            refine Call_wp (lv := [some (vr 4148), some (vi 3)]) (by decide) ckJ1_charAt_3b067 [] rfl rfl ?_
            refine Or.inr (Or.inr ⟨12, (by decide), rfl, ?_⟩)
            refine Call_wp (lv := [some (vi 3), some (vi 4)]) (by decide) ckJ0_checkIndex_df160 [] rfl rfl ?_
            refine Call_wp (lv := [some (vi 3), some (vi 4), some (gS G)]) (by decide) ckJ3_checkIndex_8e157 [] rfl rfl ?_
            refine ⟨fun c => absurd c (show (¬ ((3 : Int) < 0)) from by decide), fun _ => ?_⟩
            refine ⟨fun _ => ?_, fun c => absurd (show ((3 : Int) < 4) from by decide) c⟩
            refine ⟨rfl, ?_⟩
            refine ⟨rfl, ?_⟩
            refine ⟨12, (by decide), rfl, (by decide), (by decide), ?_⟩
            refine ⟨rfl, (by decide), ?_⟩
            refine ⟨rfl, (by decide), ?_⟩
            have a34 : -2147483648 ≤ (I 236 (Int.toNat (wr ((wr (1228 + (I 235 6))) + 3)))) ∧ (I 236 (Int.toNat (wr ((wr (1228 + (I 235 6))) + 3)))) < 2147483648 := hA.1 _ _
            refine ⟨fun (c35 : (¬ ((I 236 (Int.toNat (wr ((wr (1228 + (I 235 6))) + 3)))) : Int) = 107)) => ?_, fun (c35 : (((I 236 (Int.toNat (wr ((wr (1228 + (I 235 6))) + 3)))) : Int) = 107)) => ?_⟩
            ·
              refine ⟨fun _ => ?_, fun c => absurd (show ((0 : Int) = 0) from by decide) c⟩
              refine ⟨fun _ => ?_, fun c => absurd (show ((0 : Int) = 0) from by decide) c⟩
              have r36 : 0 ≤ (I 236 2) ∧ (I 236 2) ≤ 64 := Rg.n2 hR
              have a37 : -2147483648 ≤ (I 236 2) ∧ (I 236 2) < 2147483648 := hA.1 _ _
              exact ⟨rfl, (by decide), fun hv hA' => hQ _ _ hR hA' (hv _ rfl) (fun _ _ _ => rfl) (show 0 = 1 → (I 235 6) + 4 ≤ (I 235 6) from by first | omega | (simp only [wr, wl] at *; omega)) (show (I 235 6) ≤ (I 235 7) from by first | omega | (simp only [wr, wl] at *; omega)) (show (I 235 7) ≤ (I 236 2) from by first | omega | (simp only [wr, wl] at *; omega)) (show (I 235 6) < (I 236 2) → (I 235 6) < (I 235 7) from by first | omega | (simp only [wr, wl] at *; omega)) (show (I 235 6) ≤ (I 235 6) from by first | omega | (simp only [wr, wl] at *; omega)) (show 0 = 1 → (I 235 8) = 0 from by first | omega | (simp only [wr, wl] at *; omega)) (show 0 ≤ 0 ∧ 0 ≤ 1 from by first | omega | (simp only [wr, wl] at *; omega))⟩
            ·
              refine ⟨fun c => absurd c (show (¬ ((1 : Int) = 0)) from by decide), fun _ => ?_⟩
              refine ⟨⟨12, (by decide), rfl⟩, ?_⟩
              refine Call_wp (lv := [some (vr 4118)]) (by decide) ckJ0_length_8abf5 [] rfl rfl ?_
              refine ⟨12, (by decide), rfl, ?_⟩
              refine Or.inr (Or.inr ⟨12, (by decide), rfl, ?_⟩)
              refine ⟨⟨12, (by decide), rfl⟩, ?_⟩
              refine Call_wp (lv := [some (vr 4118)]) (by decide) ckJ0_coder_7d493 [] rfl rfl ?_
              refine ⟨fun c => absurd c (show (¬ ((1 : Int) = 0)) from by decide), fun _ => ?_⟩
              refine ⟨12, (by decide), rfl, ?_⟩
              refine ⟨rfl, (by decide), ?_⟩
              refine ⟨rfl, ?_⟩
              refine ⟨fun _ => ?_, fun c => absurd (show ((4 : Int) ≤ 4) from by decide) c⟩
              refine ⟨fun c => absurd c (show (¬ ((1 : Int) = 0)) from by decide), fun _ => ?_⟩
              refine ⟨⟨_, rfl, (by decide)⟩, ?_⟩
              have r38 : 0 ≤ (I 236 2) ∧ (I 236 2) ≤ 64 := Rg.n2 hR
              have a39 : -2147483648 ≤ (I 236 2) ∧ (I 236 2) < 2147483648 := hA.1 _ _
              refine r_goOn hF hR (show (I 235 7) ≤ (I 236 2) from by first | omega | (simp only [wr, wl] at *; omega)) (fun I40 hR41 hA42 hW43 q44 q45 q46 q47 => ?_)
              have r48 : 0 ≤ (I40 235 6) ∧ (I40 235 6) ≤ 64 := Rg.f6 hR41
              have a49 : -2147483648 ≤ (I40 235 6) ∧ (I40 235 6) < 2147483648 := hA42.1 _ _
              have r50 : 0 ≤ (I40 235 7) ∧ (I40 235 7) ≤ 64 := Rg.f7 hR41
              have a51 : -2147483648 ≤ (I40 235 7) ∧ (I40 235 7) < 2147483648 := hA42.1 _ _
              exact ⟨rfl, (by decide), fun hv hA' => hQ _ _ hR41 hA' (hv _ rfl) (fun k j hk => (hW43 k j (by omega))) (show 1 = 1 → (I 235 6) + 4 ≤ (I40 235 6) from by first | omega | (simp only [wr, wl] at *; omega)) (show (I40 235 6) ≤ (I40 235 7) from by first | omega | (simp only [wr, wl] at *; omega)) (show (I40 235 7) ≤ (I 236 2) from by first | omega | (simp only [wr, wl] at *; omega)) (show (I40 235 6) < (I 236 2) → (I40 235 6) < (I40 235 7) from by first | omega | (simp only [wr, wl] at *; omega)) (show (I 235 6) ≤ (I40 235 6) from by first | omega | (simp only [wr, wl] at *; omega)) (show 1 = 1 → (I 235 8) = 0 from by first | omega | (simp only [wr, wl] at *; omega)) (show 0 ≤ 1 ∧ 1 ≤ 1 from by first | omega | (simp only [wr, wl] at *; omega))⟩
theorem r_takes_13 (hF : FS F) (hR : Rg I) (h1 : I 235 6 ≤ I 235 7) (h2 : I 235 7 ≤ I 236 2) (h3 : I 235 6 < I 236 2 → I 235 6 < I 235 7) (hQ : ∀ (r : Int) (I' : pI), Rg I' → AR I' → iR r → (∀ k j, ¬ ((k = 235 ∧ (j = 6 ∨ j = 7))) → I' k j = I k j) → (r = 1 → (I 235 6) + 4 ≤ (I' 235 6)) → ((I' 235 6) ≤ (I' 235 7)) → ((I' 235 7) ≤ (I 236 2)) → ((I' 235 6) < (I 236 2) → (I' 235 6) < (I' 235 7)) → ((I 235 6) ≤ (I' 235 6)) → (r = 1 → (I 235 8) = 0) → (0 ≤ r ∧ r ≤ 1) → Q (some (vi r)) F I') : CallN G (d + 4) kX12_takes [vr 235, vr 4119] NP F I Q := by
  refine CallN_in (fun hok hA => CallN_out ?_)
  have g2 := Rg.n2 hR (Or.inl rfl)
  refine Call_wp (lv := [some (vr 235), some (vr 4119), none, none]) (by decide) ckX12_takes [] rfl rfl ?_
  refine ⟨_, rfl, (by decide), ?_⟩
  have a1 : -2147483648 ≤ (I 235 8) ∧ (I 235 8) < 2147483648 := hA.1 _ _
  refine ⟨fun (c2 : (¬ ((I 235 8) : Int) = 0)) => ?_, fun (c2 : (((I 235 8) : Int) = 0)) => ?_⟩
  ·
    refine ⟨fun _ => ?_, fun c => absurd (show ((0 : Int) = 0) from by decide) c⟩
    refine ⟨fun _ => ?_, fun c => absurd (show ((0 : Int) = 0) from by decide) c⟩
    have r3 : 0 ≤ (I 235 6) ∧ (I 235 6) ≤ 64 := Rg.f6 hR
    have a4 : -2147483648 ≤ (I 235 6) ∧ (I 235 6) < 2147483648 := hA.1 _ _
    have r5 : 0 ≤ (I 235 7) ∧ (I 235 7) ≤ 64 := Rg.f7 hR
    have a6 : -2147483648 ≤ (I 235 7) ∧ (I 235 7) < 2147483648 := hA.1 _ _
    have r7 : 0 ≤ (I 236 2) ∧ (I 236 2) ≤ 64 := Rg.n2 hR
    have a8 : -2147483648 ≤ (I 236 2) ∧ (I 236 2) < 2147483648 := hA.1 _ _
    exact ⟨rfl, (by decide), fun hv hA' => hQ _ _ hR hA' (hv _ rfl) (fun _ _ _ => rfl) (show 0 = 1 → (I 235 6) + 4 ≤ (I 235 6) from by first | omega | (simp only [wr, wl] at *; omega)) (show (I 235 6) ≤ (I 235 7) from by first | omega | (simp only [wr, wl] at *; omega)) (show (I 235 7) ≤ (I 236 2) from by first | omega | (simp only [wr, wl] at *; omega)) (show (I 235 6) < (I 236 2) → (I 235 6) < (I 235 7) from by first | omega | (simp only [wr, wl] at *; omega)) (show (I 235 6) ≤ (I 235 6) from by first | omega | (simp only [wr, wl] at *; omega)) (show 0 = 1 → (I 235 8) = 0 from by first | omega | (simp only [wr, wl] at *; omega)) (show 0 ≤ 0 ∧ 0 ≤ 1 from by first | omega | (simp only [wr, wl] at *; omega))⟩
  ·
    refine ⟨_, rfl, (by decide), ?_⟩
    have r9 : 0 ≤ (I 235 7) ∧ (I 235 7) ≤ 64 := Rg.f7 hR
    refine ⟨_, rfl, (by decide), ?_⟩
    have r10 : 0 ≤ (I 235 6) ∧ (I 235 6) ≤ 64 := Rg.f6 hR
    refine ⟨⟨13, (by decide), rfl⟩, ?_⟩
    refine Call_wp (lv := [some (vr 4119)]) (by decide) ckJ0_length_8abf5 [] rfl rfl ?_
    refine ⟨13, (by decide), rfl, ?_⟩
    refine Or.inr (Or.inr ⟨13, (by decide), rfl, ?_⟩)
    refine ⟨⟨13, (by decide), rfl⟩, ?_⟩
    refine Call_wp (lv := [some (vr 4119)]) (by decide) ckJ0_coder_7d493 [] rfl rfl ?_
    refine ⟨fun c => absurd c (show (¬ ((1 : Int) = 0)) from by decide), fun _ => ?_⟩
    refine ⟨13, (by decide), rfl, ?_⟩
    refine ⟨rfl, (by decide), ?_⟩
    refine ⟨rfl, ?_⟩
    have a11 : -2147483648 ≤ (I 235 7) ∧ (I 235 7) < 2147483648 := hA.1 _ _
    have a12 : -2147483648 ≤ (I 235 6) ∧ (I 235 6) < 2147483648 := hA.1 _ _
    have n13 : (wr ((I 235 7) - (I 235 6))) = (I 235 7) - (I 235 6) := wr_id (show -2147483648 ≤ ((I 235 7) - (I 235 6) : Int) ∧ ((I 235 7) - (I 235 6) : Int) < 2147483648 from by omega)
    refine ⟨fun (c14 : (¬ ((wr ((I 235 7) - (I 235 6))) : Int) = 4)) => ?_, fun (c14 : (((wr ((I 235 7) - (I 235 6))) : Int) = 4)) => ?_⟩
    ·
      refine ⟨fun _ => ?_, fun c => absurd (show ((0 : Int) = 0) from by decide) c⟩
      refine ⟨fun _ => ?_, fun c => absurd (show ((0 : Int) = 0) from by decide) c⟩
      have r15 : 0 ≤ (I 236 2) ∧ (I 236 2) ≤ 64 := Rg.n2 hR
      have a16 : -2147483648 ≤ (I 236 2) ∧ (I 236 2) < 2147483648 := hA.1 _ _
      exact ⟨rfl, (by decide), fun hv hA' => hQ _ _ hR hA' (hv _ rfl) (fun _ _ _ => rfl) (show 0 = 1 → (I 235 6) + 4 ≤ (I 235 6) from by first | omega | (simp only [wr, wl] at *; omega)) (show (I 235 6) ≤ (I 235 7) from by first | omega | (simp only [wr, wl] at *; omega)) (show (I 235 7) ≤ (I 236 2) from by first | omega | (simp only [wr, wl] at *; omega)) (show (I 235 6) < (I 236 2) → (I 235 6) < (I 235 7) from by first | omega | (simp only [wr, wl] at *; omega)) (show (I 235 6) ≤ (I 235 6) from by first | omega | (simp only [wr, wl] at *; omega)) (show 0 = 1 → (I 235 8) = 0 from by first | omega | (simp only [wr, wl] at *; omega)) (show 0 ≤ 0 ∧ 0 ≤ 1 from by first | omega | (simp only [wr, wl] at *; omega))⟩
    ·
      refine ⟨fun c => absurd c (show (¬ ((1 : Int) = 0)) from by decide), fun _ => ?_⟩
      refine ⟨⟨13, (by decide), rfl⟩, ?_⟩
      refine Call_wp (lv := [some (vr 4119)]) (by decide) ckJ0_length_8abf5 [] rfl rfl ?_
      refine ⟨13, (by decide), rfl, ?_⟩
      refine Or.inr (Or.inr ⟨13, (by decide), rfl, ?_⟩)
      refine ⟨⟨13, (by decide), rfl⟩, ?_⟩
      refine Call_wp (lv := [some (vr 4119)]) (by decide) ckJ0_coder_7d493 [] rfl rfl ?_
      refine ⟨fun c => absurd c (show (¬ ((1 : Int) = 0)) from by decide), fun _ => ?_⟩
      refine ⟨13, (by decide), rfl, ?_⟩
      refine ⟨rfl, (by decide), ?_⟩
      refine ⟨rfl, ?_⟩
      refine ⟨fun c => absurd c (show (¬ ((4 : Int) ≤ 0)) from by decide), fun _ => ?_⟩
      refine ⟨_, rfl, (by decide), ?_⟩
      refine fun w0 hw0 => ?_; obtain rfl : w0 = some 236 := hw0.symm.trans (FS.g hF rfl)
      refine ⟨_, rfl, (by decide), ?_⟩
      have n17 : (wr (1228 + (I 235 6))) = 1228 + (I 235 6) := wr_id (show -2147483648 ≤ (1228 + (I 235 6) : Int) ∧ (1228 + (I 235 6) : Int) < 2147483648 from by omega)
      have n18 : (wr ((wr (1228 + (I 235 6))) + 0)) = (wr (1228 + (I 235 6))) + 0 := wr_id (show -2147483648 ≤ ((wr (1228 + (I 235 6))) + 0 : Int) ∧ ((wr (1228 + (I 235 6))) + 0 : Int) < 2147483648 from by omega)
      refine ⟨_, rfl, (by decide), (show (0 : Int) ≤ (wr ((wr (1228 + (I 235 6))) + 0)) from by first | omega | (simp only [wr, wl] at *; omega)), (show (wr ((wr (1228 + (I 235 6))) + 0)) < (1340 : Int) from by first | omega | (simp only [wr, wl] at *; omega)), ?_⟩
      refine ⟨⟨13, (by decide), rfl⟩, ?_⟩
      refine Call_wp (lv := [some (vr 4119), some (vi 0)]) (by decide) ckJ0_charAt_5068e [] rfl rfl ?_
      refine ⟨⟨13, (by decide), rfl⟩, ?_⟩
      refine Call_wp (lv := [some (vr 4119)]) (by decide) ckJ0_isLatin1_aae02 [] rfl rfl ?_
      refine ⟨fun c => absurd c (show (¬ ((1 : Int) = 0)) from by decide), fun _ => ?_⟩
      refine ⟨13, (by decide), rfl, ?_⟩
      refine ⟨fun c => absurd (show ((0 : Int) = 0) from by decide) c, fun _ => ?_⟩
      refine ⟨rfl, (by decide), ?_⟩
      refine ⟨fun c => absurd c (show (¬ ((1 : Int) = 0)) from by decide), fun _ => ?_⟩
      refine ⟨13, (by decide), rfl, ?_⟩
      refine Call_wp (lv := [some (vr 4149), some (vi 0)]) (by decide) ckJ1_charAt_3b067 [] rfl rfl ?_
      refine Or.inr (Or.inr ⟨13, (by decide), rfl, ?_⟩)
      refine Call_wp (lv := [some (vi 0), some (vi 4)]) (by decide) ckJ0_checkIndex_df160 [] rfl rfl ?_
      refine Call_wp (lv := [some (vi 0), some (vi 4), some (gS G)]) (by decide) ckJ3_checkIndex_8e157 [] rfl rfl ?_
      refine ⟨fun c => absurd c (show (¬ ((0 : Int) < 0)) from by decide), fun _ => ?_⟩
      refine ⟨fun _ => ?_, fun c => absurd (show ((0 : Int) < 4) from by decide) c⟩
      refine ⟨rfl, ?_⟩
      refine ⟨rfl, ?_⟩
      refine ⟨13, (by decide), rfl, (by decide), (by decide), ?_⟩
      refine ⟨rfl, (by decide), ?_⟩
      refine ⟨rfl, (by decide), ?_⟩
      have a19 : -2147483648 ≤ (I 236 (Int.toNat (wr ((wr (1228 + (I 235 6))) + 0)))) ∧ (I 236 (Int.toNat (wr ((wr (1228 + (I 235 6))) + 0)))) < 2147483648 := hA.1 _ _
      refine ⟨fun (c20 : (¬ ((I 236 (Int.toNat (wr ((wr (1228 + (I 235 6))) + 0)))) : Int) = 114)) => ?_, fun (c20 : (((I 236 (Int.toNat (wr ((wr (1228 + (I 235 6))) + 0)))) : Int) = 114)) => ?_⟩
      ·
        refine ⟨fun _ => ?_, fun c => absurd (show ((0 : Int) = 0) from by decide) c⟩
        refine ⟨fun _ => ?_, fun c => absurd (show ((0 : Int) = 0) from by decide) c⟩
        have r21 : 0 ≤ (I 236 2) ∧ (I 236 2) ≤ 64 := Rg.n2 hR
        have a22 : -2147483648 ≤ (I 236 2) ∧ (I 236 2) < 2147483648 := hA.1 _ _
        exact ⟨rfl, (by decide), fun hv hA' => hQ _ _ hR hA' (hv _ rfl) (fun _ _ _ => rfl) (show 0 = 1 → (I 235 6) + 4 ≤ (I 235 6) from by first | omega | (simp only [wr, wl] at *; omega)) (show (I 235 6) ≤ (I 235 7) from by first | omega | (simp only [wr, wl] at *; omega)) (show (I 235 7) ≤ (I 236 2) from by first | omega | (simp only [wr, wl] at *; omega)) (show (I 235 6) < (I 236 2) → (I 235 6) < (I 235 7) from by first | omega | (simp only [wr, wl] at *; omega)) (show (I 235 6) ≤ (I 235 6) from by first | omega | (simp only [wr, wl] at *; omega)) (show 0 = 1 → (I 235 8) = 0 from by first | omega | (simp only [wr, wl] at *; omega)) (show 0 ≤ 0 ∧ 0 ≤ 1 from by first | omega | (simp only [wr, wl] at *; omega))⟩
      ·
        refine ⟨fun c => absurd c (show (¬ ((1 : Int) = 0)) from by decide), fun _ => ?_⟩
        refine ⟨⟨13, (by decide), rfl⟩, ?_⟩
        refine Call_wp (lv := [some (vr 4119)]) (by decide) ckJ0_length_8abf5 [] rfl rfl ?_
        refine ⟨13, (by decide), rfl, ?_⟩
        refine Or.inr (Or.inr ⟨13, (by decide), rfl, ?_⟩)
        refine ⟨⟨13, (by decide), rfl⟩, ?_⟩
        refine Call_wp (lv := [some (vr 4119)]) (by decide) ckJ0_coder_7d493 [] rfl rfl ?_
        refine ⟨fun c => absurd c (show (¬ ((1 : Int) = 0)) from by decide), fun _ => ?_⟩
        refine ⟨13, (by decide), rfl, ?_⟩
        refine ⟨rfl, (by decide), ?_⟩
        refine ⟨rfl, ?_⟩
        refine ⟨fun c => absurd c (show (¬ ((4 : Int) ≤ 1)) from by decide), fun _ => ?_⟩
        refine ⟨_, rfl, (by decide), ?_⟩
        refine fun w0 hw0 => ?_; obtain rfl : w0 = some 236 := hw0.symm.trans (FS.g hF rfl)
        refine ⟨_, rfl, (by decide), ?_⟩
        have n23 : (wr ((wr (1228 + (I 235 6))) + 1)) = (wr (1228 + (I 235 6))) + 1 := wr_id (show -2147483648 ≤ ((wr (1228 + (I 235 6))) + 1 : Int) ∧ ((wr (1228 + (I 235 6))) + 1 : Int) < 2147483648 from by omega)
        refine ⟨_, rfl, (by decide), (show (0 : Int) ≤ (wr ((wr (1228 + (I 235 6))) + 1)) from by first | omega | (simp only [wr, wl] at *; omega)), (show (wr ((wr (1228 + (I 235 6))) + 1)) < (1340 : Int) from by first | omega | (simp only [wr, wl] at *; omega)), ?_⟩
        refine ⟨⟨13, (by decide), rfl⟩, ?_⟩
        refine Call_wp (lv := [some (vr 4119), some (vi 1)]) (by decide) ckJ0_charAt_5068e [] rfl rfl ?_
        refine ⟨⟨13, (by decide), rfl⟩, ?_⟩
        refine Call_wp (lv := [some (vr 4119)]) (by decide) ckJ0_isLatin1_aae02 [] rfl rfl ?_
        refine ⟨fun c => absurd c (show (¬ ((1 : Int) = 0)) from by decide), fun _ => ?_⟩
        refine ⟨13, (by decide), rfl, ?_⟩
        refine ⟨fun c => absurd (show ((0 : Int) = 0) from by decide) c, fun _ => ?_⟩
        refine ⟨rfl, (by decide), ?_⟩
        refine ⟨fun c => absurd c (show (¬ ((1 : Int) = 0)) from by decide), fun _ => ?_⟩
        refine ⟨13, (by decide), rfl, ?_⟩
        refine Call_wp (lv := [some (vr 4149), some (vi 1)]) (by decide) ckJ1_charAt_3b067 [] rfl rfl ?_
        refine Or.inr (Or.inr ⟨13, (by decide), rfl, ?_⟩)
        refine Call_wp (lv := [some (vi 1), some (vi 4)]) (by decide) ckJ0_checkIndex_df160 [] rfl rfl ?_
        refine Call_wp (lv := [some (vi 1), some (vi 4), some (gS G)]) (by decide) ckJ3_checkIndex_8e157 [] rfl rfl ?_
        refine ⟨fun c => absurd c (show (¬ ((1 : Int) < 0)) from by decide), fun _ => ?_⟩
        refine ⟨fun _ => ?_, fun c => absurd (show ((1 : Int) < 4) from by decide) c⟩
        refine ⟨rfl, ?_⟩
        refine ⟨rfl, ?_⟩
        refine ⟨13, (by decide), rfl, (by decide), (by decide), ?_⟩
        refine ⟨rfl, (by decide), ?_⟩
        refine ⟨rfl, (by decide), ?_⟩
        have a24 : -2147483648 ≤ (I 236 (Int.toNat (wr ((wr (1228 + (I 235 6))) + 1)))) ∧ (I 236 (Int.toNat (wr ((wr (1228 + (I 235 6))) + 1)))) < 2147483648 := hA.1 _ _
        refine ⟨fun (c25 : (¬ ((I 236 (Int.toNat (wr ((wr (1228 + (I 235 6))) + 1)))) : Int) = 101)) => ?_, fun (c25 : (((I 236 (Int.toNat (wr ((wr (1228 + (I 235 6))) + 1)))) : Int) = 101)) => ?_⟩
        ·
          refine ⟨fun _ => ?_, fun c => absurd (show ((0 : Int) = 0) from by decide) c⟩
          refine ⟨fun _ => ?_, fun c => absurd (show ((0 : Int) = 0) from by decide) c⟩
          have r26 : 0 ≤ (I 236 2) ∧ (I 236 2) ≤ 64 := Rg.n2 hR
          have a27 : -2147483648 ≤ (I 236 2) ∧ (I 236 2) < 2147483648 := hA.1 _ _
          exact ⟨rfl, (by decide), fun hv hA' => hQ _ _ hR hA' (hv _ rfl) (fun _ _ _ => rfl) (show 0 = 1 → (I 235 6) + 4 ≤ (I 235 6) from by first | omega | (simp only [wr, wl] at *; omega)) (show (I 235 6) ≤ (I 235 7) from by first | omega | (simp only [wr, wl] at *; omega)) (show (I 235 7) ≤ (I 236 2) from by first | omega | (simp only [wr, wl] at *; omega)) (show (I 235 6) < (I 236 2) → (I 235 6) < (I 235 7) from by first | omega | (simp only [wr, wl] at *; omega)) (show (I 235 6) ≤ (I 235 6) from by first | omega | (simp only [wr, wl] at *; omega)) (show 0 = 1 → (I 235 8) = 0 from by first | omega | (simp only [wr, wl] at *; omega)) (show 0 ≤ 0 ∧ 0 ≤ 1 from by first | omega | (simp only [wr, wl] at *; omega))⟩
        ·
          refine ⟨fun c => absurd c (show (¬ ((1 : Int) = 0)) from by decide), fun _ => ?_⟩
          refine ⟨⟨13, (by decide), rfl⟩, ?_⟩
          refine Call_wp (lv := [some (vr 4119)]) (by decide) ckJ0_length_8abf5 [] rfl rfl ?_
          refine ⟨13, (by decide), rfl, ?_⟩
          refine Or.inr (Or.inr ⟨13, (by decide), rfl, ?_⟩)
          refine ⟨⟨13, (by decide), rfl⟩, ?_⟩
          refine Call_wp (lv := [some (vr 4119)]) (by decide) ckJ0_coder_7d493 [] rfl rfl ?_
          refine ⟨fun c => absurd c (show (¬ ((1 : Int) = 0)) from by decide), fun _ => ?_⟩
          refine ⟨13, (by decide), rfl, ?_⟩
          refine ⟨rfl, (by decide), ?_⟩
          refine ⟨rfl, ?_⟩
          refine ⟨fun c => absurd c (show (¬ ((4 : Int) ≤ 2)) from by decide), fun _ => ?_⟩
          refine ⟨_, rfl, (by decide), ?_⟩
          refine fun w0 hw0 => ?_; obtain rfl : w0 = some 236 := hw0.symm.trans (FS.g hF rfl)
          refine ⟨_, rfl, (by decide), ?_⟩
          have n28 : (wr ((wr (1228 + (I 235 6))) + 2)) = (wr (1228 + (I 235 6))) + 2 := wr_id (show -2147483648 ≤ ((wr (1228 + (I 235 6))) + 2 : Int) ∧ ((wr (1228 + (I 235 6))) + 2 : Int) < 2147483648 from by omega)
          refine ⟨_, rfl, (by decide), (show (0 : Int) ≤ (wr ((wr (1228 + (I 235 6))) + 2)) from by first | omega | (simp only [wr, wl] at *; omega)), (show (wr ((wr (1228 + (I 235 6))) + 2)) < (1340 : Int) from by first | omega | (simp only [wr, wl] at *; omega)), ?_⟩
          refine ⟨⟨13, (by decide), rfl⟩, ?_⟩
          refine Call_wp (lv := [some (vr 4119), some (vi 2)]) (by decide) ckJ0_charAt_5068e [] rfl rfl ?_
          refine ⟨⟨13, (by decide), rfl⟩, ?_⟩
          refine Call_wp (lv := [some (vr 4119)]) (by decide) ckJ0_isLatin1_aae02 [] rfl rfl ?_
          refine ⟨fun c => absurd c (show (¬ ((1 : Int) = 0)) from by decide), fun _ => ?_⟩
          refine ⟨13, (by decide), rfl, ?_⟩
          refine ⟨fun c => absurd (show ((0 : Int) = 0) from by decide) c, fun _ => ?_⟩
          refine ⟨rfl, (by decide), ?_⟩
          refine ⟨fun c => absurd c (show (¬ ((1 : Int) = 0)) from by decide), fun _ => ?_⟩
          refine ⟨13, (by decide), rfl, ?_⟩
          refine Call_wp (lv := [some (vr 4149), some (vi 2)]) (by decide) ckJ1_charAt_3b067 [] rfl rfl ?_
          refine Or.inr (Or.inr ⟨13, (by decide), rfl, ?_⟩)
          refine Call_wp (lv := [some (vi 2), some (vi 4)]) (by decide) ckJ0_checkIndex_df160 [] rfl rfl ?_
          refine Call_wp (lv := [some (vi 2), some (vi 4), some (gS G)]) (by decide) ckJ3_checkIndex_8e157 [] rfl rfl ?_
          refine ⟨fun c => absurd c (show (¬ ((2 : Int) < 0)) from by decide), fun _ => ?_⟩
          refine ⟨fun _ => ?_, fun c => absurd (show ((2 : Int) < 4) from by decide) c⟩
          refine ⟨rfl, ?_⟩
          refine ⟨rfl, ?_⟩
          refine ⟨13, (by decide), rfl, (by decide), (by decide), ?_⟩
          refine ⟨rfl, (by decide), ?_⟩
          refine ⟨rfl, (by decide), ?_⟩
          have a29 : -2147483648 ≤ (I 236 (Int.toNat (wr ((wr (1228 + (I 235 6))) + 2)))) ∧ (I 236 (Int.toNat (wr ((wr (1228 + (I 235 6))) + 2)))) < 2147483648 := hA.1 _ _
          refine ⟨fun (c30 : (¬ ((I 236 (Int.toNat (wr ((wr (1228 + (I 235 6))) + 2)))) : Int) = 97)) => ?_, fun (c30 : (((I 236 (Int.toNat (wr ((wr (1228 + (I 235 6))) + 2)))) : Int) = 97)) => ?_⟩
          ·
            refine ⟨fun _ => ?_, fun c => absurd (show ((0 : Int) = 0) from by decide) c⟩
            refine ⟨fun _ => ?_, fun c => absurd (show ((0 : Int) = 0) from by decide) c⟩
            have r31 : 0 ≤ (I 236 2) ∧ (I 236 2) ≤ 64 := Rg.n2 hR
            have a32 : -2147483648 ≤ (I 236 2) ∧ (I 236 2) < 2147483648 := hA.1 _ _
            exact ⟨rfl, (by decide), fun hv hA' => hQ _ _ hR hA' (hv _ rfl) (fun _ _ _ => rfl) (show 0 = 1 → (I 235 6) + 4 ≤ (I 235 6) from by first | omega | (simp only [wr, wl] at *; omega)) (show (I 235 6) ≤ (I 235 7) from by first | omega | (simp only [wr, wl] at *; omega)) (show (I 235 7) ≤ (I 236 2) from by first | omega | (simp only [wr, wl] at *; omega)) (show (I 235 6) < (I 236 2) → (I 235 6) < (I 235 7) from by first | omega | (simp only [wr, wl] at *; omega)) (show (I 235 6) ≤ (I 235 6) from by first | omega | (simp only [wr, wl] at *; omega)) (show 0 = 1 → (I 235 8) = 0 from by first | omega | (simp only [wr, wl] at *; omega)) (show 0 ≤ 0 ∧ 0 ≤ 1 from by first | omega | (simp only [wr, wl] at *; omega))⟩
          ·
            refine ⟨fun c => absurd c (show (¬ ((1 : Int) = 0)) from by decide), fun _ => ?_⟩
            refine ⟨⟨13, (by decide), rfl⟩, ?_⟩
            refine Call_wp (lv := [some (vr 4119)]) (by decide) ckJ0_length_8abf5 [] rfl rfl ?_
            refine ⟨13, (by decide), rfl, ?_⟩
            refine Or.inr (Or.inr ⟨13, (by decide), rfl, ?_⟩)
            refine ⟨⟨13, (by decide), rfl⟩, ?_⟩
            refine Call_wp (lv := [some (vr 4119)]) (by decide) ckJ0_coder_7d493 [] rfl rfl ?_
            refine ⟨fun c => absurd c (show (¬ ((1 : Int) = 0)) from by decide), fun _ => ?_⟩
            refine ⟨13, (by decide), rfl, ?_⟩
            refine ⟨rfl, (by decide), ?_⟩
            refine ⟨rfl, ?_⟩
            refine ⟨fun c => absurd c (show (¬ ((4 : Int) ≤ 3)) from by decide), fun _ => ?_⟩
            refine ⟨_, rfl, (by decide), ?_⟩
            refine fun w0 hw0 => ?_; obtain rfl : w0 = some 236 := hw0.symm.trans (FS.g hF rfl)
            refine ⟨_, rfl, (by decide), ?_⟩
            have n33 : (wr ((wr (1228 + (I 235 6))) + 3)) = (wr (1228 + (I 235 6))) + 3 := wr_id (show -2147483648 ≤ ((wr (1228 + (I 235 6))) + 3 : Int) ∧ ((wr (1228 + (I 235 6))) + 3 : Int) < 2147483648 from by omega)
            refine ⟨_, rfl, (by decide), (show (0 : Int) ≤ (wr ((wr (1228 + (I 235 6))) + 3)) from by first | omega | (simp only [wr, wl] at *; omega)), (show (wr ((wr (1228 + (I 235 6))) + 3)) < (1340 : Int) from by first | omega | (simp only [wr, wl] at *; omega)), ?_⟩
            refine ⟨⟨13, (by decide), rfl⟩, ?_⟩
            refine Call_wp (lv := [some (vr 4119), some (vi 3)]) (by decide) ckJ0_charAt_5068e [] rfl rfl ?_
            refine ⟨⟨13, (by decide), rfl⟩, ?_⟩
            refine Call_wp (lv := [some (vr 4119)]) (by decide) ckJ0_isLatin1_aae02 [] rfl rfl ?_
            refine ⟨fun c => absurd c (show (¬ ((1 : Int) = 0)) from by decide), fun _ => ?_⟩
            refine ⟨13, (by decide), rfl, ?_⟩
            refine ⟨fun c => absurd (show ((0 : Int) = 0) from by decide) c, fun _ => ?_⟩
            refine ⟨rfl, (by decide), ?_⟩
            refine ⟨fun c => absurd c (show (¬ ((1 : Int) = 0)) from by decide), fun _ => ?_⟩
            refine ⟨13, (by decide), rfl, ?_⟩
            refine Call_wp (lv := [some (vr 4149), some (vi 3)]) (by decide) ckJ1_charAt_3b067 [] rfl rfl ?_
            refine Or.inr (Or.inr ⟨13, (by decide), rfl, ?_⟩)
            refine Call_wp (lv := [some (vi 3), some (vi 4)]) (by decide) ckJ0_checkIndex_df160 [] rfl rfl ?_
            refine Call_wp (lv := [some (vi 3), some (vi 4), some (gS G)]) (by decide) ckJ3_checkIndex_8e157 [] rfl rfl ?_
            refine ⟨fun c => absurd c (show (¬ ((3 : Int) < 0)) from by decide), fun _ => ?_⟩
            refine ⟨fun _ => ?_, fun c => absurd (show ((3 : Int) < 4) from by decide) c⟩
            refine ⟨rfl, ?_⟩
            refine ⟨rfl, ?_⟩
            refine ⟨13, (by decide), rfl, (by decide), (by decide), ?_⟩
            refine ⟨rfl, (by decide), ?_⟩
            refine ⟨rfl, (by decide), ?_⟩
            have a34 : -2147483648 ≤ (I 236 (Int.toNat (wr ((wr (1228 + (I 235 6))) + 3)))) ∧ (I 236 (Int.toNat (wr ((wr (1228 + (I 235 6))) + 3)))) < 2147483648 := hA.1 _ _
            refine ⟨fun (c35 : (¬ ((I 236 (Int.toNat (wr ((wr (1228 + (I 235 6))) + 3)))) : Int) = 100)) => ?_, fun (c35 : (((I 236 (Int.toNat (wr ((wr (1228 + (I 235 6))) + 3)))) : Int) = 100)) => ?_⟩
            ·
              refine ⟨fun _ => ?_, fun c => absurd (show ((0 : Int) = 0) from by decide) c⟩
              refine ⟨fun _ => ?_, fun c => absurd (show ((0 : Int) = 0) from by decide) c⟩
              have r36 : 0 ≤ (I 236 2) ∧ (I 236 2) ≤ 64 := Rg.n2 hR
              have a37 : -2147483648 ≤ (I 236 2) ∧ (I 236 2) < 2147483648 := hA.1 _ _
              exact ⟨rfl, (by decide), fun hv hA' => hQ _ _ hR hA' (hv _ rfl) (fun _ _ _ => rfl) (show 0 = 1 → (I 235 6) + 4 ≤ (I 235 6) from by first | omega | (simp only [wr, wl] at *; omega)) (show (I 235 6) ≤ (I 235 7) from by first | omega | (simp only [wr, wl] at *; omega)) (show (I 235 7) ≤ (I 236 2) from by first | omega | (simp only [wr, wl] at *; omega)) (show (I 235 6) < (I 236 2) → (I 235 6) < (I 235 7) from by first | omega | (simp only [wr, wl] at *; omega)) (show (I 235 6) ≤ (I 235 6) from by first | omega | (simp only [wr, wl] at *; omega)) (show 0 = 1 → (I 235 8) = 0 from by first | omega | (simp only [wr, wl] at *; omega)) (show 0 ≤ 0 ∧ 0 ≤ 1 from by first | omega | (simp only [wr, wl] at *; omega))⟩
            ·
              refine ⟨fun c => absurd c (show (¬ ((1 : Int) = 0)) from by decide), fun _ => ?_⟩
              refine ⟨⟨13, (by decide), rfl⟩, ?_⟩
              refine Call_wp (lv := [some (vr 4119)]) (by decide) ckJ0_length_8abf5 [] rfl rfl ?_
              refine ⟨13, (by decide), rfl, ?_⟩
              refine Or.inr (Or.inr ⟨13, (by decide), rfl, ?_⟩)
              refine ⟨⟨13, (by decide), rfl⟩, ?_⟩
              refine Call_wp (lv := [some (vr 4119)]) (by decide) ckJ0_coder_7d493 [] rfl rfl ?_
              refine ⟨fun c => absurd c (show (¬ ((1 : Int) = 0)) from by decide), fun _ => ?_⟩
              refine ⟨13, (by decide), rfl, ?_⟩
              refine ⟨rfl, (by decide), ?_⟩
              refine ⟨rfl, ?_⟩
              refine ⟨fun _ => ?_, fun c => absurd (show ((4 : Int) ≤ 4) from by decide) c⟩
              refine ⟨fun c => absurd c (show (¬ ((1 : Int) = 0)) from by decide), fun _ => ?_⟩
              refine ⟨⟨_, rfl, (by decide)⟩, ?_⟩
              have r38 : 0 ≤ (I 236 2) ∧ (I 236 2) ≤ 64 := Rg.n2 hR
              have a39 : -2147483648 ≤ (I 236 2) ∧ (I 236 2) < 2147483648 := hA.1 _ _
              refine r_goOn hF hR (show (I 235 7) ≤ (I 236 2) from by first | omega | (simp only [wr, wl] at *; omega)) (fun I40 hR41 hA42 hW43 q44 q45 q46 q47 => ?_)
              have r48 : 0 ≤ (I40 235 6) ∧ (I40 235 6) ≤ 64 := Rg.f6 hR41
              have a49 : -2147483648 ≤ (I40 235 6) ∧ (I40 235 6) < 2147483648 := hA42.1 _ _
              have r50 : 0 ≤ (I40 235 7) ∧ (I40 235 7) ≤ 64 := Rg.f7 hR41
              have a51 : -2147483648 ≤ (I40 235 7) ∧ (I40 235 7) < 2147483648 := hA42.1 _ _
              exact ⟨rfl, (by decide), fun hv hA' => hQ _ _ hR41 hA' (hv _ rfl) (fun k j hk => (hW43 k j (by omega))) (show 1 = 1 → (I 235 6) + 4 ≤ (I40 235 6) from by first | omega | (simp only [wr, wl] at *; omega)) (show (I40 235 6) ≤ (I40 235 7) from by first | omega | (simp only [wr, wl] at *; omega)) (show (I40 235 7) ≤ (I 236 2) from by first | omega | (simp only [wr, wl] at *; omega)) (show (I40 235 6) < (I 236 2) → (I40 235 6) < (I40 235 7) from by first | omega | (simp only [wr, wl] at *; omega)) (show (I 235 6) ≤ (I40 235 6) from by first | omega | (simp only [wr, wl] at *; omega)) (show 1 = 1 → (I 235 8) = 0 from by first | omega | (simp only [wr, wl] at *; omega)) (show 0 ≤ 1 ∧ 1 ≤ 1 from by first | omega | (simp only [wr, wl] at *; omega))⟩
theorem r_takes_14 (hF : FS F) (hR : Rg I) (h1 : I 235 6 ≤ I 235 7) (h2 : I 235 7 ≤ I 236 2) (h3 : I 235 6 < I 236 2 → I 235 6 < I 235 7) (hQ : ∀ (r : Int) (I' : pI), Rg I' → AR I' → iR r → (∀ k j, ¬ ((k = 235 ∧ (j = 6 ∨ j = 7))) → I' k j = I k j) → (r = 1 → (I 235 6) + 4 ≤ (I' 235 6)) → ((I' 235 6) ≤ (I' 235 7)) → ((I' 235 7) ≤ (I 236 2)) → ((I' 235 6) < (I 236 2) → (I' 235 6) < (I' 235 7)) → ((I 235 6) ≤ (I' 235 6)) → (r = 1 → (I 235 8) = 0) → (0 ≤ r ∧ r ≤ 1) → Q (some (vi r)) F I') : CallN G (d + 4) kX12_takes [vr 235, vr 4120] NP F I Q := by
  refine CallN_in (fun hok hA => CallN_out ?_)
  have g2 := Rg.n2 hR (Or.inl rfl)
  refine Call_wp (lv := [some (vr 235), some (vr 4120), none, none]) (by decide) ckX12_takes [] rfl rfl ?_
  refine ⟨_, rfl, (by decide), ?_⟩
  have a1 : -2147483648 ≤ (I 235 8) ∧ (I 235 8) < 2147483648 := hA.1 _ _
  refine ⟨fun (c2 : (¬ ((I 235 8) : Int) = 0)) => ?_, fun (c2 : (((I 235 8) : Int) = 0)) => ?_⟩
  ·
    refine ⟨fun _ => ?_, fun c => absurd (show ((0 : Int) = 0) from by decide) c⟩
    refine ⟨fun _ => ?_, fun c => absurd (show ((0 : Int) = 0) from by decide) c⟩
    have r3 : 0 ≤ (I 235 6) ∧ (I 235 6) ≤ 64 := Rg.f6 hR
    have a4 : -2147483648 ≤ (I 235 6) ∧ (I 235 6) < 2147483648 := hA.1 _ _
    have r5 : 0 ≤ (I 235 7) ∧ (I 235 7) ≤ 64 := Rg.f7 hR
    have a6 : -2147483648 ≤ (I 235 7) ∧ (I 235 7) < 2147483648 := hA.1 _ _
    have r7 : 0 ≤ (I 236 2) ∧ (I 236 2) ≤ 64 := Rg.n2 hR
    have a8 : -2147483648 ≤ (I 236 2) ∧ (I 236 2) < 2147483648 := hA.1 _ _
    exact ⟨rfl, (by decide), fun hv hA' => hQ _ _ hR hA' (hv _ rfl) (fun _ _ _ => rfl) (show 0 = 1 → (I 235 6) + 4 ≤ (I 235 6) from by first | omega | (simp only [wr, wl] at *; omega)) (show (I 235 6) ≤ (I 235 7) from by first | omega | (simp only [wr, wl] at *; omega)) (show (I 235 7) ≤ (I 236 2) from by first | omega | (simp only [wr, wl] at *; omega)) (show (I 235 6) < (I 236 2) → (I 235 6) < (I 235 7) from by first | omega | (simp only [wr, wl] at *; omega)) (show (I 235 6) ≤ (I 235 6) from by first | omega | (simp only [wr, wl] at *; omega)) (show 0 = 1 → (I 235 8) = 0 from by first | omega | (simp only [wr, wl] at *; omega)) (show 0 ≤ 0 ∧ 0 ≤ 1 from by first | omega | (simp only [wr, wl] at *; omega))⟩
  ·
    refine ⟨_, rfl, (by decide), ?_⟩
    have r9 : 0 ≤ (I 235 7) ∧ (I 235 7) ≤ 64 := Rg.f7 hR
    refine ⟨_, rfl, (by decide), ?_⟩
    have r10 : 0 ≤ (I 235 6) ∧ (I 235 6) ≤ 64 := Rg.f6 hR
    refine ⟨⟨14, (by decide), rfl⟩, ?_⟩
    refine Call_wp (lv := [some (vr 4120)]) (by decide) ckJ0_length_8abf5 [] rfl rfl ?_
    refine ⟨14, (by decide), rfl, ?_⟩
    refine Or.inr (Or.inr ⟨14, (by decide), rfl, ?_⟩)
    refine ⟨⟨14, (by decide), rfl⟩, ?_⟩
    refine Call_wp (lv := [some (vr 4120)]) (by decide) ckJ0_coder_7d493 [] rfl rfl ?_
    refine ⟨fun c => absurd c (show (¬ ((1 : Int) = 0)) from by decide), fun _ => ?_⟩
    refine ⟨14, (by decide), rfl, ?_⟩
    refine ⟨rfl, (by decide), ?_⟩
    refine ⟨rfl, ?_⟩
    have a11 : -2147483648 ≤ (I 235 7) ∧ (I 235 7) < 2147483648 := hA.1 _ _
    have a12 : -2147483648 ≤ (I 235 6) ∧ (I 235 6) < 2147483648 := hA.1 _ _
    have n13 : (wr ((I 235 7) - (I 235 6))) = (I 235 7) - (I 235 6) := wr_id (show -2147483648 ≤ ((I 235 7) - (I 235 6) : Int) ∧ ((I 235 7) - (I 235 6) : Int) < 2147483648 from by omega)
    refine ⟨fun (c14 : (¬ ((wr ((I 235 7) - (I 235 6))) : Int) = 4)) => ?_, fun (c14 : (((wr ((I 235 7) - (I 235 6))) : Int) = 4)) => ?_⟩
    ·
      refine ⟨fun _ => ?_, fun c => absurd (show ((0 : Int) = 0) from by decide) c⟩
      refine ⟨fun _ => ?_, fun c => absurd (show ((0 : Int) = 0) from by decide) c⟩
      have r15 : 0 ≤ (I 236 2) ∧ (I 236 2) ≤ 64 := Rg.n2 hR
      have a16 : -2147483648 ≤ (I 236 2) ∧ (I 236 2) < 2147483648 := hA.1 _ _
      exact ⟨rfl, (by decide), fun hv hA' => hQ _ _ hR hA' (hv _ rfl) (fun _ _ _ => rfl) (show 0 = 1 → (I 235 6) + 4 ≤ (I 235 6) from by first | omega | (simp only [wr, wl] at *; omega)) (show (I 235 6) ≤ (I 235 7) from by first | omega | (simp only [wr, wl] at *; omega)) (show (I 235 7) ≤ (I 236 2) from by first | omega | (simp only [wr, wl] at *; omega)) (show (I 235 6) < (I 236 2) → (I 235 6) < (I 235 7) from by first | omega | (simp only [wr, wl] at *; omega)) (show (I 235 6) ≤ (I 235 6) from by first | omega | (simp only [wr, wl] at *; omega)) (show 0 = 1 → (I 235 8) = 0 from by first | omega | (simp only [wr, wl] at *; omega)) (show 0 ≤ 0 ∧ 0 ≤ 1 from by first | omega | (simp only [wr, wl] at *; omega))⟩
    ·
      refine ⟨fun c => absurd c (show (¬ ((1 : Int) = 0)) from by decide), fun _ => ?_⟩
      refine ⟨⟨14, (by decide), rfl⟩, ?_⟩
      refine Call_wp (lv := [some (vr 4120)]) (by decide) ckJ0_length_8abf5 [] rfl rfl ?_
      refine ⟨14, (by decide), rfl, ?_⟩
      refine Or.inr (Or.inr ⟨14, (by decide), rfl, ?_⟩)
      refine ⟨⟨14, (by decide), rfl⟩, ?_⟩
      refine Call_wp (lv := [some (vr 4120)]) (by decide) ckJ0_coder_7d493 [] rfl rfl ?_
      refine ⟨fun c => absurd c (show (¬ ((1 : Int) = 0)) from by decide), fun _ => ?_⟩
      refine ⟨14, (by decide), rfl, ?_⟩
      refine ⟨rfl, (by decide), ?_⟩
      refine ⟨rfl, ?_⟩
      refine ⟨fun c => absurd c (show (¬ ((4 : Int) ≤ 0)) from by decide), fun _ => ?_⟩
      refine ⟨_, rfl, (by decide), ?_⟩
      refine fun w0 hw0 => ?_; obtain rfl : w0 = some 236 := hw0.symm.trans (FS.g hF rfl)
      refine ⟨_, rfl, (by decide), ?_⟩
      have n17 : (wr (1228 + (I 235 6))) = 1228 + (I 235 6) := wr_id (show -2147483648 ≤ (1228 + (I 235 6) : Int) ∧ (1228 + (I 235 6) : Int) < 2147483648 from by omega)
      have n18 : (wr ((wr (1228 + (I 235 6))) + 0)) = (wr (1228 + (I 235 6))) + 0 := wr_id (show -2147483648 ≤ ((wr (1228 + (I 235 6))) + 0 : Int) ∧ ((wr (1228 + (I 235 6))) + 0 : Int) < 2147483648 from by omega)
      refine ⟨_, rfl, (by decide), (show (0 : Int) ≤ (wr ((wr (1228 + (I 235 6))) + 0)) from by first | omega | (simp only [wr, wl] at *; omega)), (show (wr ((wr (1228 + (I 235 6))) + 0)) < (1340 : Int) from by first | omega | (simp only [wr, wl] at *; omega)), ?_⟩
      refine ⟨⟨14, (by decide), rfl⟩, ?_⟩
      refine Call_wp (lv := [some (vr 4120), some (vi 0)]) (by decide) ckJ0_charAt_5068e [] rfl rfl ?_
      refine ⟨⟨14, (by decide), rfl⟩, ?_⟩
      refine Call_wp (lv := [some (vr 4120)]) (by decide) ckJ0_isLatin1_aae02 [] rfl rfl ?_
      refine ⟨fun c => absurd c (show (¬ ((1 : Int) = 0)) from by decide), fun _ => ?_⟩
      refine ⟨14, (by decide), rfl, ?_⟩
      refine ⟨fun c => absurd (show ((0 : Int) = 0) from by decide) c, fun _ => ?_⟩
      refine ⟨rfl, (by decide), ?_⟩
      refine ⟨fun c => absurd c (show (¬ ((1 : Int) = 0)) from by decide), fun _ => ?_⟩
      refine ⟨14, (by decide), rfl, ?_⟩
      refine Call_wp (lv := [some (vr 4150), some (vi 0)]) (by decide) ckJ1_charAt_3b067 [] rfl rfl ?_
      refine Or.inr (Or.inr ⟨14, (by decide), rfl, ?_⟩)
      refine Call_wp (lv := [some (vi 0), some (vi 4)]) (by decide) ckJ0_checkIndex_df160 [] rfl rfl ?_
      refine Call_wp (lv := [some (vi 0), some (vi 4), some (gS G)]) (by decide) ckJ3_checkIndex_8e157 [] rfl rfl ?_
      refine ⟨fun c => absurd c (show (¬ ((0 : Int) < 0)) from by decide), fun _ => ?_⟩
      refine ⟨fun _ => ?_, fun c => absurd (show ((0 : Int) < 4) from by decide) c⟩
      refine ⟨rfl, ?_⟩
      refine ⟨rfl, ?_⟩
      refine ⟨14, (by decide), rfl, (by decide), (by decide), ?_⟩
      refine ⟨rfl, (by decide), ?_⟩
      refine ⟨rfl, (by decide), ?_⟩
      have a19 : -2147483648 ≤ (I 236 (Int.toNat (wr ((wr (1228 + (I 235 6))) + 0)))) ∧ (I 236 (Int.toNat (wr ((wr (1228 + (I 235 6))) + 0)))) < 2147483648 := hA.1 _ _
      refine ⟨fun (c20 : (¬ ((I 236 (Int.toNat (wr ((wr (1228 + (I 235 6))) + 0)))) : Int) = 116)) => ?_, fun (c20 : (((I 236 (Int.toNat (wr ((wr (1228 + (I 235 6))) + 0)))) : Int) = 116)) => ?_⟩
      ·
        refine ⟨fun _ => ?_, fun c => absurd (show ((0 : Int) = 0) from by decide) c⟩
        refine ⟨fun _ => ?_, fun c => absurd (show ((0 : Int) = 0) from by decide) c⟩
        have r21 : 0 ≤ (I 236 2) ∧ (I 236 2) ≤ 64 := Rg.n2 hR
        have a22 : -2147483648 ≤ (I 236 2) ∧ (I 236 2) < 2147483648 := hA.1 _ _
        exact ⟨rfl, (by decide), fun hv hA' => hQ _ _ hR hA' (hv _ rfl) (fun _ _ _ => rfl) (show 0 = 1 → (I 235 6) + 4 ≤ (I 235 6) from by first | omega | (simp only [wr, wl] at *; omega)) (show (I 235 6) ≤ (I 235 7) from by first | omega | (simp only [wr, wl] at *; omega)) (show (I 235 7) ≤ (I 236 2) from by first | omega | (simp only [wr, wl] at *; omega)) (show (I 235 6) < (I 236 2) → (I 235 6) < (I 235 7) from by first | omega | (simp only [wr, wl] at *; omega)) (show (I 235 6) ≤ (I 235 6) from by first | omega | (simp only [wr, wl] at *; omega)) (show 0 = 1 → (I 235 8) = 0 from by first | omega | (simp only [wr, wl] at *; omega)) (show 0 ≤ 0 ∧ 0 ≤ 1 from by first | omega | (simp only [wr, wl] at *; omega))⟩
      ·
        refine ⟨fun c => absurd c (show (¬ ((1 : Int) = 0)) from by decide), fun _ => ?_⟩
        refine ⟨⟨14, (by decide), rfl⟩, ?_⟩
        refine Call_wp (lv := [some (vr 4120)]) (by decide) ckJ0_length_8abf5 [] rfl rfl ?_
        refine ⟨14, (by decide), rfl, ?_⟩
        refine Or.inr (Or.inr ⟨14, (by decide), rfl, ?_⟩)
        refine ⟨⟨14, (by decide), rfl⟩, ?_⟩
        refine Call_wp (lv := [some (vr 4120)]) (by decide) ckJ0_coder_7d493 [] rfl rfl ?_
        refine ⟨fun c => absurd c (show (¬ ((1 : Int) = 0)) from by decide), fun _ => ?_⟩
        refine ⟨14, (by decide), rfl, ?_⟩
        refine ⟨rfl, (by decide), ?_⟩
        refine ⟨rfl, ?_⟩
        refine ⟨fun c => absurd c (show (¬ ((4 : Int) ≤ 1)) from by decide), fun _ => ?_⟩
        refine ⟨_, rfl, (by decide), ?_⟩
        refine fun w0 hw0 => ?_; obtain rfl : w0 = some 236 := hw0.symm.trans (FS.g hF rfl)
        refine ⟨_, rfl, (by decide), ?_⟩
        have n23 : (wr ((wr (1228 + (I 235 6))) + 1)) = (wr (1228 + (I 235 6))) + 1 := wr_id (show -2147483648 ≤ ((wr (1228 + (I 235 6))) + 1 : Int) ∧ ((wr (1228 + (I 235 6))) + 1 : Int) < 2147483648 from by omega)
        refine ⟨_, rfl, (by decide), (show (0 : Int) ≤ (wr ((wr (1228 + (I 235 6))) + 1)) from by first | omega | (simp only [wr, wl] at *; omega)), (show (wr ((wr (1228 + (I 235 6))) + 1)) < (1340 : Int) from by first | omega | (simp only [wr, wl] at *; omega)), ?_⟩
        refine ⟨⟨14, (by decide), rfl⟩, ?_⟩
        refine Call_wp (lv := [some (vr 4120), some (vi 1)]) (by decide) ckJ0_charAt_5068e [] rfl rfl ?_
        refine ⟨⟨14, (by decide), rfl⟩, ?_⟩
        refine Call_wp (lv := [some (vr 4120)]) (by decide) ckJ0_isLatin1_aae02 [] rfl rfl ?_
        refine ⟨fun c => absurd c (show (¬ ((1 : Int) = 0)) from by decide), fun _ => ?_⟩
        refine ⟨14, (by decide), rfl, ?_⟩
        refine ⟨fun c => absurd (show ((0 : Int) = 0) from by decide) c, fun _ => ?_⟩
        refine ⟨rfl, (by decide), ?_⟩
        refine ⟨fun c => absurd c (show (¬ ((1 : Int) = 0)) from by decide), fun _ => ?_⟩
        refine ⟨14, (by decide), rfl, ?_⟩
        refine Call_wp (lv := [some (vr 4150), some (vi 1)]) (by decide) ckJ1_charAt_3b067 [] rfl rfl ?_
        refine Or.inr (Or.inr ⟨14, (by decide), rfl, ?_⟩)
        refine Call_wp (lv := [some (vi 1), some (vi 4)]) (by decide) ckJ0_checkIndex_df160 [] rfl rfl ?_
        refine Call_wp (lv := [some (vi 1), some (vi 4), some (gS G)]) (by decide) ckJ3_checkIndex_8e157 [] rfl rfl ?_
        refine ⟨fun c => absurd c (show (¬ ((1 : Int) < 0)) from by decide), fun _ => ?_⟩
        refine ⟨fun _ => ?_, fun c => absurd (show ((1 : Int) < 4) from by decide) c⟩
        refine ⟨rfl, ?_⟩
        refine ⟨rfl, ?_⟩
        refine ⟨14, (by decide), rfl, (by decide), (by decide), ?_⟩
        refine ⟨rfl, (by decide), ?_⟩
        refine ⟨rfl, (by decide), ?_⟩
        have a24 : -2147483648 ≤ (I 236 (Int.toNat (wr ((wr (1228 + (I 235 6))) + 1)))) ∧ (I 236 (Int.toNat (wr ((wr (1228 + (I 235 6))) + 1)))) < 2147483648 := hA.1 _ _
        refine ⟨fun (c25 : (¬ ((I 236 (Int.toNat (wr ((wr (1228 + (I 235 6))) + 1)))) : Int) = 105)) => ?_, fun (c25 : (((I 236 (Int.toNat (wr ((wr (1228 + (I 235 6))) + 1)))) : Int) = 105)) => ?_⟩
        ·
          refine ⟨fun _ => ?_, fun c => absurd (show ((0 : Int) = 0) from by decide) c⟩
          refine ⟨fun _ => ?_, fun c => absurd (show ((0 : Int) = 0) from by decide) c⟩
          have r26 : 0 ≤ (I 236 2) ∧ (I 236 2) ≤ 64 := Rg.n2 hR
          have a27 : -2147483648 ≤ (I 236 2) ∧ (I 236 2) < 2147483648 := hA.1 _ _
          exact ⟨rfl, (by decide), fun hv hA' => hQ _ _ hR hA' (hv _ rfl) (fun _ _ _ => rfl) (show 0 = 1 → (I 235 6) + 4 ≤ (I 235 6) from by first | omega | (simp only [wr, wl] at *; omega)) (show (I 235 6) ≤ (I 235 7) from by first | omega | (simp only [wr, wl] at *; omega)) (show (I 235 7) ≤ (I 236 2) from by first | omega | (simp only [wr, wl] at *; omega)) (show (I 235 6) < (I 236 2) → (I 235 6) < (I 235 7) from by first | omega | (simp only [wr, wl] at *; omega)) (show (I 235 6) ≤ (I 235 6) from by first | omega | (simp only [wr, wl] at *; omega)) (show 0 = 1 → (I 235 8) = 0 from by first | omega | (simp only [wr, wl] at *; omega)) (show 0 ≤ 0 ∧ 0 ≤ 1 from by first | omega | (simp only [wr, wl] at *; omega))⟩
        ·
          refine ⟨fun c => absurd c (show (¬ ((1 : Int) = 0)) from by decide), fun _ => ?_⟩
          refine ⟨⟨14, (by decide), rfl⟩, ?_⟩
          refine Call_wp (lv := [some (vr 4120)]) (by decide) ckJ0_length_8abf5 [] rfl rfl ?_
          refine ⟨14, (by decide), rfl, ?_⟩
          refine Or.inr (Or.inr ⟨14, (by decide), rfl, ?_⟩)
          refine ⟨⟨14, (by decide), rfl⟩, ?_⟩
          refine Call_wp (lv := [some (vr 4120)]) (by decide) ckJ0_coder_7d493 [] rfl rfl ?_
          refine ⟨fun c => absurd c (show (¬ ((1 : Int) = 0)) from by decide), fun _ => ?_⟩
          refine ⟨14, (by decide), rfl, ?_⟩
          refine ⟨rfl, (by decide), ?_⟩
          refine ⟨rfl, ?_⟩
          refine ⟨fun c => absurd c (show (¬ ((4 : Int) ≤ 2)) from by decide), fun _ => ?_⟩
          refine ⟨_, rfl, (by decide), ?_⟩
          refine fun w0 hw0 => ?_; obtain rfl : w0 = some 236 := hw0.symm.trans (FS.g hF rfl)
          refine ⟨_, rfl, (by decide), ?_⟩
          have n28 : (wr ((wr (1228 + (I 235 6))) + 2)) = (wr (1228 + (I 235 6))) + 2 := wr_id (show -2147483648 ≤ ((wr (1228 + (I 235 6))) + 2 : Int) ∧ ((wr (1228 + (I 235 6))) + 2 : Int) < 2147483648 from by omega)
          refine ⟨_, rfl, (by decide), (show (0 : Int) ≤ (wr ((wr (1228 + (I 235 6))) + 2)) from by first | omega | (simp only [wr, wl] at *; omega)), (show (wr ((wr (1228 + (I 235 6))) + 2)) < (1340 : Int) from by first | omega | (simp only [wr, wl] at *; omega)), ?_⟩
          refine ⟨⟨14, (by decide), rfl⟩, ?_⟩
          refine Call_wp (lv := [some (vr 4120), some (vi 2)]) (by decide) ckJ0_charAt_5068e [] rfl rfl ?_
          refine ⟨⟨14, (by decide), rfl⟩, ?_⟩
          refine Call_wp (lv := [some (vr 4120)]) (by decide) ckJ0_isLatin1_aae02 [] rfl rfl ?_
          refine ⟨fun c => absurd c (show (¬ ((1 : Int) = 0)) from by decide), fun _ => ?_⟩
          refine ⟨14, (by decide), rfl, ?_⟩
          refine ⟨fun c => absurd (show ((0 : Int) = 0) from by decide) c, fun _ => ?_⟩
          refine ⟨rfl, (by decide), ?_⟩
          refine ⟨fun c => absurd c (show (¬ ((1 : Int) = 0)) from by decide), fun _ => ?_⟩
          refine ⟨14, (by decide), rfl, ?_⟩
          refine Call_wp (lv := [some (vr 4150), some (vi 2)]) (by decide) ckJ1_charAt_3b067 [] rfl rfl ?_
          refine Or.inr (Or.inr ⟨14, (by decide), rfl, ?_⟩)
          refine Call_wp (lv := [some (vi 2), some (vi 4)]) (by decide) ckJ0_checkIndex_df160 [] rfl rfl ?_
          refine Call_wp (lv := [some (vi 2), some (vi 4), some (gS G)]) (by decide) ckJ3_checkIndex_8e157 [] rfl rfl ?_
          refine ⟨fun c => absurd c (show (¬ ((2 : Int) < 0)) from by decide), fun _ => ?_⟩
          refine ⟨fun _ => ?_, fun c => absurd (show ((2 : Int) < 4) from by decide) c⟩
          refine ⟨rfl, ?_⟩
          refine ⟨rfl, ?_⟩
          refine ⟨14, (by decide), rfl, (by decide), (by decide), ?_⟩
          refine ⟨rfl, (by decide), ?_⟩
          refine ⟨rfl, (by decide), ?_⟩
          have a29 : -2147483648 ≤ (I 236 (Int.toNat (wr ((wr (1228 + (I 235 6))) + 2)))) ∧ (I 236 (Int.toNat (wr ((wr (1228 + (I 235 6))) + 2)))) < 2147483648 := hA.1 _ _
          refine ⟨fun (c30 : (¬ ((I 236 (Int.toNat (wr ((wr (1228 + (I 235 6))) + 2)))) : Int) = 108)) => ?_, fun (c30 : (((I 236 (Int.toNat (wr ((wr (1228 + (I 235 6))) + 2)))) : Int) = 108)) => ?_⟩
          ·
            refine ⟨fun _ => ?_, fun c => absurd (show ((0 : Int) = 0) from by decide) c⟩
            refine ⟨fun _ => ?_, fun c => absurd (show ((0 : Int) = 0) from by decide) c⟩
            have r31 : 0 ≤ (I 236 2) ∧ (I 236 2) ≤ 64 := Rg.n2 hR
            have a32 : -2147483648 ≤ (I 236 2) ∧ (I 236 2) < 2147483648 := hA.1 _ _
            exact ⟨rfl, (by decide), fun hv hA' => hQ _ _ hR hA' (hv _ rfl) (fun _ _ _ => rfl) (show 0 = 1 → (I 235 6) + 4 ≤ (I 235 6) from by first | omega | (simp only [wr, wl] at *; omega)) (show (I 235 6) ≤ (I 235 7) from by first | omega | (simp only [wr, wl] at *; omega)) (show (I 235 7) ≤ (I 236 2) from by first | omega | (simp only [wr, wl] at *; omega)) (show (I 235 6) < (I 236 2) → (I 235 6) < (I 235 7) from by first | omega | (simp only [wr, wl] at *; omega)) (show (I 235 6) ≤ (I 235 6) from by first | omega | (simp only [wr, wl] at *; omega)) (show 0 = 1 → (I 235 8) = 0 from by first | omega | (simp only [wr, wl] at *; omega)) (show 0 ≤ 0 ∧ 0 ≤ 1 from by first | omega | (simp only [wr, wl] at *; omega))⟩
          ·
            refine ⟨fun c => absurd c (show (¬ ((1 : Int) = 0)) from by decide), fun _ => ?_⟩
            refine ⟨⟨14, (by decide), rfl⟩, ?_⟩
            refine Call_wp (lv := [some (vr 4120)]) (by decide) ckJ0_length_8abf5 [] rfl rfl ?_
            refine ⟨14, (by decide), rfl, ?_⟩
            refine Or.inr (Or.inr ⟨14, (by decide), rfl, ?_⟩)
            refine ⟨⟨14, (by decide), rfl⟩, ?_⟩
            refine Call_wp (lv := [some (vr 4120)]) (by decide) ckJ0_coder_7d493 [] rfl rfl ?_
            refine ⟨fun c => absurd c (show (¬ ((1 : Int) = 0)) from by decide), fun _ => ?_⟩
            refine ⟨14, (by decide), rfl, ?_⟩
            refine ⟨rfl, (by decide), ?_⟩
            refine ⟨rfl, ?_⟩
            refine ⟨fun c => absurd c (show (¬ ((4 : Int) ≤ 3)) from by decide), fun _ => ?_⟩
            refine ⟨_, rfl, (by decide), ?_⟩
            refine fun w0 hw0 => ?_; obtain rfl : w0 = some 236 := hw0.symm.trans (FS.g hF rfl)
            refine ⟨_, rfl, (by decide), ?_⟩
            have n33 : (wr ((wr (1228 + (I 235 6))) + 3)) = (wr (1228 + (I 235 6))) + 3 := wr_id (show -2147483648 ≤ ((wr (1228 + (I 235 6))) + 3 : Int) ∧ ((wr (1228 + (I 235 6))) + 3 : Int) < 2147483648 from by omega)
            refine ⟨_, rfl, (by decide), (show (0 : Int) ≤ (wr ((wr (1228 + (I 235 6))) + 3)) from by first | omega | (simp only [wr, wl] at *; omega)), (show (wr ((wr (1228 + (I 235 6))) + 3)) < (1340 : Int) from by first | omega | (simp only [wr, wl] at *; omega)), ?_⟩
            refine ⟨⟨14, (by decide), rfl⟩, ?_⟩
            refine Call_wp (lv := [some (vr 4120), some (vi 3)]) (by decide) ckJ0_charAt_5068e [] rfl rfl ?_
            refine ⟨⟨14, (by decide), rfl⟩, ?_⟩
            refine Call_wp (lv := [some (vr 4120)]) (by decide) ckJ0_isLatin1_aae02 [] rfl rfl ?_
            refine ⟨fun c => absurd c (show (¬ ((1 : Int) = 0)) from by decide), fun _ => ?_⟩
            refine ⟨14, (by decide), rfl, ?_⟩
            refine ⟨fun c => absurd (show ((0 : Int) = 0) from by decide) c, fun _ => ?_⟩
            refine ⟨rfl, (by decide), ?_⟩
            refine ⟨fun c => absurd c (show (¬ ((1 : Int) = 0)) from by decide), fun _ => ?_⟩
            refine ⟨14, (by decide), rfl, ?_⟩
            refine Call_wp (lv := [some (vr 4150), some (vi 3)]) (by decide) ckJ1_charAt_3b067 [] rfl rfl ?_
            refine Or.inr (Or.inr ⟨14, (by decide), rfl, ?_⟩)
            refine Call_wp (lv := [some (vi 3), some (vi 4)]) (by decide) ckJ0_checkIndex_df160 [] rfl rfl ?_
            refine Call_wp (lv := [some (vi 3), some (vi 4), some (gS G)]) (by decide) ckJ3_checkIndex_8e157 [] rfl rfl ?_
            refine ⟨fun c => absurd c (show (¬ ((3 : Int) < 0)) from by decide), fun _ => ?_⟩
            refine ⟨fun _ => ?_, fun c => absurd (show ((3 : Int) < 4) from by decide) c⟩
            refine ⟨rfl, ?_⟩
            refine ⟨rfl, ?_⟩
            refine ⟨14, (by decide), rfl, (by decide), (by decide), ?_⟩
            refine ⟨rfl, (by decide), ?_⟩
            refine ⟨rfl, (by decide), ?_⟩
            have a34 : -2147483648 ≤ (I 236 (Int.toNat (wr ((wr (1228 + (I 235 6))) + 3)))) ∧ (I 236 (Int.toNat (wr ((wr (1228 + (I 235 6))) + 3)))) < 2147483648 := hA.1 _ _
            refine ⟨fun (c35 : (¬ ((I 236 (Int.toNat (wr ((wr (1228 + (I 235 6))) + 3)))) : Int) = 108)) => ?_, fun (c35 : (((I 236 (Int.toNat (wr ((wr (1228 + (I 235 6))) + 3)))) : Int) = 108)) => ?_⟩
            ·
              refine ⟨fun _ => ?_, fun c => absurd (show ((0 : Int) = 0) from by decide) c⟩
              refine ⟨fun _ => ?_, fun c => absurd (show ((0 : Int) = 0) from by decide) c⟩
              have r36 : 0 ≤ (I 236 2) ∧ (I 236 2) ≤ 64 := Rg.n2 hR
              have a37 : -2147483648 ≤ (I 236 2) ∧ (I 236 2) < 2147483648 := hA.1 _ _
              exact ⟨rfl, (by decide), fun hv hA' => hQ _ _ hR hA' (hv _ rfl) (fun _ _ _ => rfl) (show 0 = 1 → (I 235 6) + 4 ≤ (I 235 6) from by first | omega | (simp only [wr, wl] at *; omega)) (show (I 235 6) ≤ (I 235 7) from by first | omega | (simp only [wr, wl] at *; omega)) (show (I 235 7) ≤ (I 236 2) from by first | omega | (simp only [wr, wl] at *; omega)) (show (I 235 6) < (I 236 2) → (I 235 6) < (I 235 7) from by first | omega | (simp only [wr, wl] at *; omega)) (show (I 235 6) ≤ (I 235 6) from by first | omega | (simp only [wr, wl] at *; omega)) (show 0 = 1 → (I 235 8) = 0 from by first | omega | (simp only [wr, wl] at *; omega)) (show 0 ≤ 0 ∧ 0 ≤ 1 from by first | omega | (simp only [wr, wl] at *; omega))⟩
            ·
              refine ⟨fun c => absurd c (show (¬ ((1 : Int) = 0)) from by decide), fun _ => ?_⟩
              refine ⟨⟨14, (by decide), rfl⟩, ?_⟩
              refine Call_wp (lv := [some (vr 4120)]) (by decide) ckJ0_length_8abf5 [] rfl rfl ?_
              refine ⟨14, (by decide), rfl, ?_⟩
              refine Or.inr (Or.inr ⟨14, (by decide), rfl, ?_⟩)
              refine ⟨⟨14, (by decide), rfl⟩, ?_⟩
              refine Call_wp (lv := [some (vr 4120)]) (by decide) ckJ0_coder_7d493 [] rfl rfl ?_
              refine ⟨fun c => absurd c (show (¬ ((1 : Int) = 0)) from by decide), fun _ => ?_⟩
              refine ⟨14, (by decide), rfl, ?_⟩
              refine ⟨rfl, (by decide), ?_⟩
              refine ⟨rfl, ?_⟩
              refine ⟨fun _ => ?_, fun c => absurd (show ((4 : Int) ≤ 4) from by decide) c⟩
              refine ⟨fun c => absurd c (show (¬ ((1 : Int) = 0)) from by decide), fun _ => ?_⟩
              refine ⟨⟨_, rfl, (by decide)⟩, ?_⟩
              have r38 : 0 ≤ (I 236 2) ∧ (I 236 2) ≤ 64 := Rg.n2 hR
              have a39 : -2147483648 ≤ (I 236 2) ∧ (I 236 2) < 2147483648 := hA.1 _ _
              refine r_goOn hF hR (show (I 235 7) ≤ (I 236 2) from by first | omega | (simp only [wr, wl] at *; omega)) (fun I40 hR41 hA42 hW43 q44 q45 q46 q47 => ?_)
              have r48 : 0 ≤ (I40 235 6) ∧ (I40 235 6) ≤ 64 := Rg.f6 hR41
              have a49 : -2147483648 ≤ (I40 235 6) ∧ (I40 235 6) < 2147483648 := hA42.1 _ _
              have r50 : 0 ≤ (I40 235 7) ∧ (I40 235 7) ≤ 64 := Rg.f7 hR41
              have a51 : -2147483648 ≤ (I40 235 7) ∧ (I40 235 7) < 2147483648 := hA42.1 _ _
              exact ⟨rfl, (by decide), fun hv hA' => hQ _ _ hR41 hA' (hv _ rfl) (fun k j hk => (hW43 k j (by omega))) (show 1 = 1 → (I 235 6) + 4 ≤ (I40 235 6) from by first | omega | (simp only [wr, wl] at *; omega)) (show (I40 235 6) ≤ (I40 235 7) from by first | omega | (simp only [wr, wl] at *; omega)) (show (I40 235 7) ≤ (I 236 2) from by first | omega | (simp only [wr, wl] at *; omega)) (show (I40 235 6) < (I 236 2) → (I40 235 6) < (I40 235 7) from by first | omega | (simp only [wr, wl] at *; omega)) (show (I 235 6) ≤ (I40 235 6) from by first | omega | (simp only [wr, wl] at *; omega)) (show 1 = 1 → (I 235 8) = 0 from by first | omega | (simp only [wr, wl] at *; omega)) (show 0 ≤ 1 ∧ 1 ≤ 1 from by first | omega | (simp only [wr, wl] at *; omega))⟩
theorem r_takes_15 (hF : FS F) (hR : Rg I) (h1 : I 235 6 ≤ I 235 7) (h2 : I 235 7 ≤ I 236 2) (h3 : I 235 6 < I 236 2 → I 235 6 < I 235 7) (hQ : ∀ (r : Int) (I' : pI), Rg I' → AR I' → iR r → (∀ k j, ¬ ((k = 235 ∧ (j = 6 ∨ j = 7))) → I' k j = I k j) → (r = 1 → (I 235 6) + 1 ≤ (I' 235 6)) → ((I' 235 6) ≤ (I' 235 7)) → ((I' 235 7) ≤ (I 236 2)) → ((I' 235 6) < (I 236 2) → (I' 235 6) < (I' 235 7)) → ((I 235 6) ≤ (I' 235 6)) → (r = 1 → (I 235 8) = 0) → (0 ≤ r ∧ r ≤ 1) → Q (some (vi r)) F I') : CallN G (d + 4) kX12_takes [vr 235, vr 4121] NP F I Q := by
  refine CallN_in (fun hok hA => CallN_out ?_)
  have g2 := Rg.n2 hR (Or.inl rfl)
  refine Call_wp (lv := [some (vr 235), some (vr 4121), none, none]) (by decide) ckX12_takes [] rfl rfl ?_
  refine ⟨_, rfl, (by decide), ?_⟩
  have a1 : -2147483648 ≤ (I 235 8) ∧ (I 235 8) < 2147483648 := hA.1 _ _
  refine ⟨fun (c2 : (¬ ((I 235 8) : Int) = 0)) => ?_, fun (c2 : (((I 235 8) : Int) = 0)) => ?_⟩
  ·
    refine ⟨fun _ => ?_, fun c => absurd (show ((0 : Int) = 0) from by decide) c⟩
    refine ⟨fun _ => ?_, fun c => absurd (show ((0 : Int) = 0) from by decide) c⟩
    have r3 : 0 ≤ (I 235 6) ∧ (I 235 6) ≤ 64 := Rg.f6 hR
    have a4 : -2147483648 ≤ (I 235 6) ∧ (I 235 6) < 2147483648 := hA.1 _ _
    have r5 : 0 ≤ (I 235 7) ∧ (I 235 7) ≤ 64 := Rg.f7 hR
    have a6 : -2147483648 ≤ (I 235 7) ∧ (I 235 7) < 2147483648 := hA.1 _ _
    have r7 : 0 ≤ (I 236 2) ∧ (I 236 2) ≤ 64 := Rg.n2 hR
    have a8 : -2147483648 ≤ (I 236 2) ∧ (I 236 2) < 2147483648 := hA.1 _ _
    exact ⟨rfl, (by decide), fun hv hA' => hQ _ _ hR hA' (hv _ rfl) (fun _ _ _ => rfl) (show 0 = 1 → (I 235 6) + 1 ≤ (I 235 6) from by first | omega | (simp only [wr, wl] at *; omega)) (show (I 235 6) ≤ (I 235 7) from by first | omega | (simp only [wr, wl] at *; omega)) (show (I 235 7) ≤ (I 236 2) from by first | omega | (simp only [wr, wl] at *; omega)) (show (I 235 6) < (I 236 2) → (I 235 6) < (I 235 7) from by first | omega | (simp only [wr, wl] at *; omega)) (show (I 235 6) ≤ (I 235 6) from by first | omega | (simp only [wr, wl] at *; omega)) (show 0 = 1 → (I 235 8) = 0 from by first | omega | (simp only [wr, wl] at *; omega)) (show 0 ≤ 0 ∧ 0 ≤ 1 from by first | omega | (simp only [wr, wl] at *; omega))⟩
  ·
    refine ⟨_, rfl, (by decide), ?_⟩
    have r9 : 0 ≤ (I 235 7) ∧ (I 235 7) ≤ 64 := Rg.f7 hR
    refine ⟨_, rfl, (by decide), ?_⟩
    have r10 : 0 ≤ (I 235 6) ∧ (I 235 6) ≤ 64 := Rg.f6 hR
    refine ⟨⟨15, (by decide), rfl⟩, ?_⟩
    refine Call_wp (lv := [some (vr 4121)]) (by decide) ckJ0_length_8abf5 [] rfl rfl ?_
    refine ⟨15, (by decide), rfl, ?_⟩
    refine Or.inr (Or.inr ⟨15, (by decide), rfl, ?_⟩)
    refine ⟨⟨15, (by decide), rfl⟩, ?_⟩
    refine Call_wp (lv := [some (vr 4121)]) (by decide) ckJ0_coder_7d493 [] rfl rfl ?_
    refine ⟨fun c => absurd c (show (¬ ((1 : Int) = 0)) from by decide), fun _ => ?_⟩
    refine ⟨15, (by decide), rfl, ?_⟩
    refine ⟨rfl, (by decide), ?_⟩
    refine ⟨rfl, ?_⟩
    have a11 : -2147483648 ≤ (I 235 7) ∧ (I 235 7) < 2147483648 := hA.1 _ _
    have a12 : -2147483648 ≤ (I 235 6) ∧ (I 235 6) < 2147483648 := hA.1 _ _
    have n13 : (wr ((I 235 7) - (I 235 6))) = (I 235 7) - (I 235 6) := wr_id (show -2147483648 ≤ ((I 235 7) - (I 235 6) : Int) ∧ ((I 235 7) - (I 235 6) : Int) < 2147483648 from by omega)
    refine ⟨fun (c14 : (¬ ((wr ((I 235 7) - (I 235 6))) : Int) = 1)) => ?_, fun (c14 : (((wr ((I 235 7) - (I 235 6))) : Int) = 1)) => ?_⟩
    ·
      refine ⟨fun _ => ?_, fun c => absurd (show ((0 : Int) = 0) from by decide) c⟩
      refine ⟨fun _ => ?_, fun c => absurd (show ((0 : Int) = 0) from by decide) c⟩
      have r15 : 0 ≤ (I 236 2) ∧ (I 236 2) ≤ 64 := Rg.n2 hR
      have a16 : -2147483648 ≤ (I 236 2) ∧ (I 236 2) < 2147483648 := hA.1 _ _
      exact ⟨rfl, (by decide), fun hv hA' => hQ _ _ hR hA' (hv _ rfl) (fun _ _ _ => rfl) (show 0 = 1 → (I 235 6) + 1 ≤ (I 235 6) from by first | omega | (simp only [wr, wl] at *; omega)) (show (I 235 6) ≤ (I 235 7) from by first | omega | (simp only [wr, wl] at *; omega)) (show (I 235 7) ≤ (I 236 2) from by first | omega | (simp only [wr, wl] at *; omega)) (show (I 235 6) < (I 236 2) → (I 235 6) < (I 235 7) from by first | omega | (simp only [wr, wl] at *; omega)) (show (I 235 6) ≤ (I 235 6) from by first | omega | (simp only [wr, wl] at *; omega)) (show 0 = 1 → (I 235 8) = 0 from by first | omega | (simp only [wr, wl] at *; omega)) (show 0 ≤ 0 ∧ 0 ≤ 1 from by first | omega | (simp only [wr, wl] at *; omega))⟩
    ·
      refine ⟨fun c => absurd c (show (¬ ((1 : Int) = 0)) from by decide), fun _ => ?_⟩
      refine ⟨⟨15, (by decide), rfl⟩, ?_⟩
      refine Call_wp (lv := [some (vr 4121)]) (by decide) ckJ0_length_8abf5 [] rfl rfl ?_
      refine ⟨15, (by decide), rfl, ?_⟩
      refine Or.inr (Or.inr ⟨15, (by decide), rfl, ?_⟩)
      refine ⟨⟨15, (by decide), rfl⟩, ?_⟩
      refine Call_wp (lv := [some (vr 4121)]) (by decide) ckJ0_coder_7d493 [] rfl rfl ?_
      refine ⟨fun c => absurd c (show (¬ ((1 : Int) = 0)) from by decide), fun _ => ?_⟩
      refine ⟨15, (by decide), rfl, ?_⟩
      refine ⟨rfl, (by decide), ?_⟩
      refine ⟨rfl, ?_⟩
      refine ⟨fun c => absurd c (show (¬ ((1 : Int) ≤ 0)) from by decide), fun _ => ?_⟩
      refine ⟨_, rfl, (by decide), ?_⟩
      refine fun w0 hw0 => ?_; obtain rfl : w0 = some 236 := hw0.symm.trans (FS.g hF rfl)
      refine ⟨_, rfl, (by decide), ?_⟩
      have n17 : (wr (1228 + (I 235 6))) = 1228 + (I 235 6) := wr_id (show -2147483648 ≤ (1228 + (I 235 6) : Int) ∧ (1228 + (I 235 6) : Int) < 2147483648 from by omega)
      have n18 : (wr ((wr (1228 + (I 235 6))) + 0)) = (wr (1228 + (I 235 6))) + 0 := wr_id (show -2147483648 ≤ ((wr (1228 + (I 235 6))) + 0 : Int) ∧ ((wr (1228 + (I 235 6))) + 0 : Int) < 2147483648 from by omega)
      refine ⟨_, rfl, (by decide), (show (0 : Int) ≤ (wr ((wr (1228 + (I 235 6))) + 0)) from by first | omega | (simp only [wr, wl] at *; omega)), (show (wr ((wr (1228 + (I 235 6))) + 0)) < (1340 : Int) from by first | omega | (simp only [wr, wl] at *; omega)), ?_⟩
      refine ⟨⟨15, (by decide), rfl⟩, ?_⟩
      refine Call_wp (lv := [some (vr 4121), some (vi 0)]) (by decide) ckJ0_charAt_5068e [] rfl rfl ?_
      refine ⟨⟨15, (by decide), rfl⟩, ?_⟩
      refine Call_wp (lv := [some (vr 4121)]) (by decide) ckJ0_isLatin1_aae02 [] rfl rfl ?_
      refine ⟨fun c => absurd c (show (¬ ((1 : Int) = 0)) from by decide), fun _ => ?_⟩
      refine ⟨15, (by decide), rfl, ?_⟩
      refine ⟨fun c => absurd (show ((0 : Int) = 0) from by decide) c, fun _ => ?_⟩
      refine ⟨rfl, (by decide), ?_⟩
      refine ⟨fun c => absurd c (show (¬ ((1 : Int) = 0)) from by decide), fun _ => ?_⟩
      refine ⟨15, (by decide), rfl, ?_⟩
      refine Call_wp (lv := [some (vr 4151), some (vi 0)]) (by decide) ckJ1_charAt_3b067 [] rfl rfl ?_
      refine Or.inr (Or.inr ⟨15, (by decide), rfl, ?_⟩)
      refine Call_wp (lv := [some (vi 0), some (vi 1)]) (by decide) ckJ0_checkIndex_df160 [] rfl rfl ?_
      refine Call_wp (lv := [some (vi 0), some (vi 1), some (gS G)]) (by decide) ckJ3_checkIndex_8e157 [] rfl rfl ?_
      refine ⟨fun c => absurd c (show (¬ ((0 : Int) < 0)) from by decide), fun _ => ?_⟩
      refine ⟨fun _ => ?_, fun c => absurd (show ((0 : Int) < 1) from by decide) c⟩
      refine ⟨rfl, ?_⟩
      refine ⟨rfl, ?_⟩
      refine ⟨15, (by decide), rfl, (by decide), (by decide), ?_⟩
      refine ⟨rfl, (by decide), ?_⟩
      refine ⟨rfl, (by decide), ?_⟩
      have a19 : -2147483648 ≤ (I 236 (Int.toNat (wr ((wr (1228 + (I 235 6))) + 0)))) ∧ (I 236 (Int.toNat (wr ((wr (1228 + (I 235 6))) + 0)))) < 2147483648 := hA.1 _ _
      refine ⟨fun (c20 : (¬ ((I 236 (Int.toNat (wr ((wr (1228 + (I 235 6))) + 0)))) : Int) = 44)) => ?_, fun (c20 : (((I 236 (Int.toNat (wr ((wr (1228 + (I 235 6))) + 0)))) : Int) = 44)) => ?_⟩
      ·
        refine ⟨fun _ => ?_, fun c => absurd (show ((0 : Int) = 0) from by decide) c⟩
        refine ⟨fun _ => ?_, fun c => absurd (show ((0 : Int) = 0) from by decide) c⟩
        have r21 : 0 ≤ (I 236 2) ∧ (I 236 2) ≤ 64 := Rg.n2 hR
        have a22 : -2147483648 ≤ (I 236 2) ∧ (I 236 2) < 2147483648 := hA.1 _ _
        exact ⟨rfl, (by decide), fun hv hA' => hQ _ _ hR hA' (hv _ rfl) (fun _ _ _ => rfl) (show 0 = 1 → (I 235 6) + 1 ≤ (I 235 6) from by first | omega | (simp only [wr, wl] at *; omega)) (show (I 235 6) ≤ (I 235 7) from by first | omega | (simp only [wr, wl] at *; omega)) (show (I 235 7) ≤ (I 236 2) from by first | omega | (simp only [wr, wl] at *; omega)) (show (I 235 6) < (I 236 2) → (I 235 6) < (I 235 7) from by first | omega | (simp only [wr, wl] at *; omega)) (show (I 235 6) ≤ (I 235 6) from by first | omega | (simp only [wr, wl] at *; omega)) (show 0 = 1 → (I 235 8) = 0 from by first | omega | (simp only [wr, wl] at *; omega)) (show 0 ≤ 0 ∧ 0 ≤ 1 from by first | omega | (simp only [wr, wl] at *; omega))⟩
      ·
        refine ⟨fun c => absurd c (show (¬ ((1 : Int) = 0)) from by decide), fun _ => ?_⟩
        refine ⟨⟨15, (by decide), rfl⟩, ?_⟩
        refine Call_wp (lv := [some (vr 4121)]) (by decide) ckJ0_length_8abf5 [] rfl rfl ?_
        refine ⟨15, (by decide), rfl, ?_⟩
        refine Or.inr (Or.inr ⟨15, (by decide), rfl, ?_⟩)
        refine ⟨⟨15, (by decide), rfl⟩, ?_⟩
        refine Call_wp (lv := [some (vr 4121)]) (by decide) ckJ0_coder_7d493 [] rfl rfl ?_
        refine ⟨fun c => absurd c (show (¬ ((1 : Int) = 0)) from by decide), fun _ => ?_⟩
        refine ⟨15, (by decide), rfl, ?_⟩
        refine ⟨rfl, (by decide), ?_⟩
        refine ⟨rfl, ?_⟩
        refine ⟨fun _ => ?_, fun c => absurd (show ((1 : Int) ≤ 1) from by decide) c⟩
        refine ⟨fun c => absurd c (show (¬ ((1 : Int) = 0)) from by decide), fun _ => ?_⟩
        refine ⟨⟨_, rfl, (by decide)⟩, ?_⟩
        have r23 : 0 ≤ (I 236 2) ∧ (I 236 2) ≤ 64 := Rg.n2 hR
        have a24 : -2147483648 ≤ (I 236 2) ∧ (I 236 2) < 2147483648 := hA.1 _ _
        refine r_goOn hF hR (show (I 235 7) ≤ (I 236 2) from by first | omega | (simp only [wr, wl] at *; omega)) (fun I25 hR26 hA27 hW28 q29 q30 q31 q32 => ?_)
        have r33 : 0 ≤ (I25 235 6) ∧ (I25 235 6) ≤ 64 := Rg.f6 hR26
        have a34 : -2147483648 ≤ (I25 235 6) ∧ (I25 235 6) < 2147483648 := hA27.1 _ _
        have r35 : 0 ≤ (I25 235 7) ∧ (I25 235 7) ≤ 64 := Rg.f7 hR26
        have a36 : -2147483648 ≤ (I25 235 7) ∧ (I25 235 7) < 2147483648 := hA27.1 _ _
        exact ⟨rfl, (by decide), fun hv hA' => hQ _ _ hR26 hA' (hv _ rfl) (fun k j hk => (hW28 k j (by omega))) (show 1 = 1 → (I 235 6) + 1 ≤ (I25 235 6) from by first | omega | (simp only [wr, wl] at *; omega)) (show (I25 235 6) ≤ (I25 235 7) from by first | omega | (simp only [wr, wl] at *; omega)) (show (I25 235 7) ≤ (I 236 2) from by first | omega | (simp only [wr, wl] at *; omega)) (show (I25 235 6) < (I 236 2) → (I25 235 6) < (I25 235 7) from by first | omega | (simp only [wr, wl] at *; omega)) (show (I 235 6) ≤ (I25 235 6) from by first | omega | (simp only [wr, wl] at *; omega)) (show 1 = 1 → (I 235 8) = 0 from by first | omega | (simp only [wr, wl] at *; omega)) (show 0 ≤ 1 ∧ 1 ≤ 1 from by first | omega | (simp only [wr, wl] at *; omega))⟩
theorem r_takes_16 (hF : FS F) (hR : Rg I) (h1 : I 235 6 ≤ I 235 7) (h2 : I 235 7 ≤ I 236 2) (h3 : I 235 6 < I 236 2 → I 235 6 < I 235 7) (hQ : ∀ (r : Int) (I' : pI), Rg I' → AR I' → iR r → (∀ k j, ¬ ((k = 235 ∧ (j = 6 ∨ j = 7))) → I' k j = I k j) → (r = 1 → (I 235 6) + 1 ≤ (I' 235 6)) → ((I' 235 6) ≤ (I' 235 7)) → ((I' 235 7) ≤ (I 236 2)) → ((I' 235 6) < (I 236 2) → (I' 235 6) < (I' 235 7)) → ((I 235 6) ≤ (I' 235 6)) → (r = 1 → (I 235 8) = 0) → (0 ≤ r ∧ r ≤ 1) → Q (some (vi r)) F I') : CallN G (d + 4) kX12_takes [vr 235, vr 4122] NP F I Q := by
  refine CallN_in (fun hok hA => CallN_out ?_)
  have g2 := Rg.n2 hR (Or.inl rfl)
  refine Call_wp (lv := [some (vr 235), some (vr 4122), none, none]) (by decide) ckX12_takes [] rfl rfl ?_
  refine ⟨_, rfl, (by decide), ?_⟩
  have a1 : -2147483648 ≤ (I 235 8) ∧ (I 235 8) < 2147483648 := hA.1 _ _
  refine ⟨fun (c2 : (¬ ((I 235 8) : Int) = 0)) => ?_, fun (c2 : (((I 235 8) : Int) = 0)) => ?_⟩
  ·
    refine ⟨fun _ => ?_, fun c => absurd (show ((0 : Int) = 0) from by decide) c⟩
    refine ⟨fun _ => ?_, fun c => absurd (show ((0 : Int) = 0) from by decide) c⟩
    have r3 : 0 ≤ (I 235 6) ∧ (I 235 6) ≤ 64 := Rg.f6 hR
    have a4 : -2147483648 ≤ (I 235 6) ∧ (I 235 6) < 2147483648 := hA.1 _ _
    have r5 : 0 ≤ (I 235 7) ∧ (I 235 7) ≤ 64 := Rg.f7 hR
    have a6 : -2147483648 ≤ (I 235 7) ∧ (I 235 7) < 2147483648 := hA.1 _ _
    have r7 : 0 ≤ (I 236 2) ∧ (I 236 2) ≤ 64 := Rg.n2 hR
    have a8 : -2147483648 ≤ (I 236 2) ∧ (I 236 2) < 2147483648 := hA.1 _ _
    exact ⟨rfl, (by decide), fun hv hA' => hQ _ _ hR hA' (hv _ rfl) (fun _ _ _ => rfl) (show 0 = 1 → (I 235 6) + 1 ≤ (I 235 6) from by first | omega | (simp only [wr, wl] at *; omega)) (show (I 235 6) ≤ (I 235 7) from by first | omega | (simp only [wr, wl] at *; omega)) (show (I 235 7) ≤ (I 236 2) from by first | omega | (simp only [wr, wl] at *; omega)) (show (I 235 6) < (I 236 2) → (I 235 6) < (I 235 7) from by first | omega | (simp only [wr, wl] at *; omega)) (show (I 235 6) ≤ (I 235 6) from by first | omega | (simp only [wr, wl] at *; omega)) (show 0 = 1 → (I 235 8) = 0 from by first | omega | (simp only [wr, wl] at *; omega)) (show 0 ≤ 0 ∧ 0 ≤ 1 from by first | omega | (simp only [wr, wl] at *; omega))⟩
  ·
    refine ⟨_, rfl, (by decide), ?_⟩
    have r9 : 0 ≤ (I 235 7) ∧ (I 235 7) ≤ 64 := Rg.f7 hR
    refine ⟨_, rfl, (by decide), ?_⟩
    have r10 : 0 ≤ (I 235 6) ∧ (I 235 6) ≤ 64 := Rg.f6 hR
    refine ⟨⟨16, (by decide), rfl⟩, ?_⟩
    refine Call_wp (lv := [some (vr 4122)]) (by decide) ckJ0_length_8abf5 [] rfl rfl ?_
    refine ⟨16, (by decide), rfl, ?_⟩
    refine Or.inr (Or.inr ⟨16, (by decide), rfl, ?_⟩)
    refine ⟨⟨16, (by decide), rfl⟩, ?_⟩
    refine Call_wp (lv := [some (vr 4122)]) (by decide) ckJ0_coder_7d493 [] rfl rfl ?_
    refine ⟨fun c => absurd c (show (¬ ((1 : Int) = 0)) from by decide), fun _ => ?_⟩
    refine ⟨16, (by decide), rfl, ?_⟩
    refine ⟨rfl, (by decide), ?_⟩
    refine ⟨rfl, ?_⟩
    have a11 : -2147483648 ≤ (I 235 7) ∧ (I 235 7) < 2147483648 := hA.1 _ _
    have a12 : -2147483648 ≤ (I 235 6) ∧ (I 235 6) < 2147483648 := hA.1 _ _
    have n13 : (wr ((I 235 7) - (I 235 6))) = (I 235 7) - (I 235 6) := wr_id (show -2147483648 ≤ ((I 235 7) - (I 235 6) : Int) ∧ ((I 235 7) - (I 235 6) : Int) < 2147483648 from by omega)
    refine ⟨fun (c14 : (¬ ((wr ((I 235 7) - (I 235 6))) : Int) = 1)) => ?_, fun (c14 : (((wr ((I 235 7) - (I 235 6))) : Int) = 1)) => ?_⟩
    ·
      refine ⟨fun _ => ?_, fun c => absurd (show ((0 : Int) = 0) from by decide) c⟩
      refine ⟨fun _ => ?_, fun c => absurd (show ((0 : Int) = 0) from by decide) c⟩
      have r15 : 0 ≤ (I 236 2) ∧ (I 236 2) ≤ 64 := Rg.n2 hR
      have a16 : -2147483648 ≤ (I 236 2) ∧ (I 236 2) < 2147483648 := hA.1 _ _
      exact ⟨rfl, (by decide), fun hv hA' => hQ _ _ hR hA' (hv _ rfl) (fun _ _ _ => rfl) (show 0 = 1 → (I 235 6) + 1 ≤ (I 235 6) from by first | omega | (simp only [wr, wl] at *; omega)) (show (I 235 6) ≤ (I 235 7) from by first | omega | (simp only [wr, wl] at *; omega)) (show (I 235 7) ≤ (I 236 2) from by first | omega | (simp only [wr, wl] at *; omega)) (show (I 235 6) < (I 236 2) → (I 235 6) < (I 235 7) from by first | omega | (simp only [wr, wl] at *; omega)) (show (I 235 6) ≤ (I 235 6) from by first | omega | (simp only [wr, wl] at *; omega)) (show 0 = 1 → (I 235 8) = 0 from by first | omega | (simp only [wr, wl] at *; omega)) (show 0 ≤ 0 ∧ 0 ≤ 1 from by first | omega | (simp only [wr, wl] at *; omega))⟩
    ·
      refine ⟨fun c => absurd c (show (¬ ((1 : Int) = 0)) from by decide), fun _ => ?_⟩
      refine ⟨⟨16, (by decide), rfl⟩, ?_⟩
      refine Call_wp (lv := [some (vr 4122)]) (by decide) ckJ0_length_8abf5 [] rfl rfl ?_
      refine ⟨16, (by decide), rfl, ?_⟩
      refine Or.inr (Or.inr ⟨16, (by decide), rfl, ?_⟩)
      refine ⟨⟨16, (by decide), rfl⟩, ?_⟩
      refine Call_wp (lv := [some (vr 4122)]) (by decide) ckJ0_coder_7d493 [] rfl rfl ?_
      refine ⟨fun c => absurd c (show (¬ ((1 : Int) = 0)) from by decide), fun _ => ?_⟩
      refine ⟨16, (by decide), rfl, ?_⟩
      refine ⟨rfl, (by decide), ?_⟩
      refine ⟨rfl, ?_⟩
      refine ⟨fun c => absurd c (show (¬ ((1 : Int) ≤ 0)) from by decide), fun _ => ?_⟩
      refine ⟨_, rfl, (by decide), ?_⟩
      refine fun w0 hw0 => ?_; obtain rfl : w0 = some 236 := hw0.symm.trans (FS.g hF rfl)
      refine ⟨_, rfl, (by decide), ?_⟩
      have n17 : (wr (1228 + (I 235 6))) = 1228 + (I 235 6) := wr_id (show -2147483648 ≤ (1228 + (I 235 6) : Int) ∧ (1228 + (I 235 6) : Int) < 2147483648 from by omega)
      have n18 : (wr ((wr (1228 + (I 235 6))) + 0)) = (wr (1228 + (I 235 6))) + 0 := wr_id (show -2147483648 ≤ ((wr (1228 + (I 235 6))) + 0 : Int) ∧ ((wr (1228 + (I 235 6))) + 0 : Int) < 2147483648 from by omega)
      refine ⟨_, rfl, (by decide), (show (0 : Int) ≤ (wr ((wr (1228 + (I 235 6))) + 0)) from by first | omega | (simp only [wr, wl] at *; omega)), (show (wr ((wr (1228 + (I 235 6))) + 0)) < (1340 : Int) from by first | omega | (simp only [wr, wl] at *; omega)), ?_⟩
      refine ⟨⟨16, (by decide), rfl⟩, ?_⟩
      refine Call_wp (lv := [some (vr 4122), some (vi 0)]) (by decide) ckJ0_charAt_5068e [] rfl rfl ?_
      refine ⟨⟨16, (by decide), rfl⟩, ?_⟩
      refine Call_wp (lv := [some (vr 4122)]) (by decide) ckJ0_isLatin1_aae02 [] rfl rfl ?_
      refine ⟨fun c => absurd c (show (¬ ((1 : Int) = 0)) from by decide), fun _ => ?_⟩
      refine ⟨16, (by decide), rfl, ?_⟩
      refine ⟨fun c => absurd (show ((0 : Int) = 0) from by decide) c, fun _ => ?_⟩
      refine ⟨rfl, (by decide), ?_⟩
      refine ⟨fun c => absurd c (show (¬ ((1 : Int) = 0)) from by decide), fun _ => ?_⟩
      refine ⟨16, (by decide), rfl, ?_⟩
      refine Call_wp (lv := [some (vr 4152), some (vi 0)]) (by decide) ckJ1_charAt_3b067 [] rfl rfl ?_
      refine Or.inr (Or.inr ⟨16, (by decide), rfl, ?_⟩)
      refine Call_wp (lv := [some (vi 0), some (vi 1)]) (by decide) ckJ0_checkIndex_df160 [] rfl rfl ?_
      refine Call_wp (lv := [some (vi 0), some (vi 1), some (gS G)]) (by decide) ckJ3_checkIndex_8e157 [] rfl rfl ?_
      refine ⟨fun c => absurd c (show (¬ ((0 : Int) < 0)) from by decide), fun _ => ?_⟩
      refine ⟨fun _ => ?_, fun c => absurd (show ((0 : Int) < 1) from by decide) c⟩
      refine ⟨rfl, ?_⟩
      refine ⟨rfl, ?_⟩
      refine ⟨16, (by decide), rfl, (by decide), (by decide), ?_⟩
      refine ⟨rfl, (by decide), ?_⟩
      refine ⟨rfl, (by decide), ?_⟩
      have a19 : -2147483648 ≤ (I 236 (Int.toNat (wr ((wr (1228 + (I 235 6))) + 0)))) ∧ (I 236 (Int.toNat (wr ((wr (1228 + (I 235 6))) + 0)))) < 2147483648 := hA.1 _ _
      refine ⟨fun (c20 : (¬ ((I 236 (Int.toNat (wr ((wr (1228 + (I 235 6))) + 0)))) : Int) = 59)) => ?_, fun (c20 : (((I 236 (Int.toNat (wr ((wr (1228 + (I 235 6))) + 0)))) : Int) = 59)) => ?_⟩
      ·
        refine ⟨fun _ => ?_, fun c => absurd (show ((0 : Int) = 0) from by decide) c⟩
        refine ⟨fun _ => ?_, fun c => absurd (show ((0 : Int) = 0) from by decide) c⟩
        have r21 : 0 ≤ (I 236 2) ∧ (I 236 2) ≤ 64 := Rg.n2 hR
        have a22 : -2147483648 ≤ (I 236 2) ∧ (I 236 2) < 2147483648 := hA.1 _ _
        exact ⟨rfl, (by decide), fun hv hA' => hQ _ _ hR hA' (hv _ rfl) (fun _ _ _ => rfl) (show 0 = 1 → (I 235 6) + 1 ≤ (I 235 6) from by first | omega | (simp only [wr, wl] at *; omega)) (show (I 235 6) ≤ (I 235 7) from by first | omega | (simp only [wr, wl] at *; omega)) (show (I 235 7) ≤ (I 236 2) from by first | omega | (simp only [wr, wl] at *; omega)) (show (I 235 6) < (I 236 2) → (I 235 6) < (I 235 7) from by first | omega | (simp only [wr, wl] at *; omega)) (show (I 235 6) ≤ (I 235 6) from by first | omega | (simp only [wr, wl] at *; omega)) (show 0 = 1 → (I 235 8) = 0 from by first | omega | (simp only [wr, wl] at *; omega)) (show 0 ≤ 0 ∧ 0 ≤ 1 from by first | omega | (simp only [wr, wl] at *; omega))⟩
      ·
        refine ⟨fun c => absurd c (show (¬ ((1 : Int) = 0)) from by decide), fun _ => ?_⟩
        refine ⟨⟨16, (by decide), rfl⟩, ?_⟩
        refine Call_wp (lv := [some (vr 4122)]) (by decide) ckJ0_length_8abf5 [] rfl rfl ?_
        refine ⟨16, (by decide), rfl, ?_⟩
        refine Or.inr (Or.inr ⟨16, (by decide), rfl, ?_⟩)
        refine ⟨⟨16, (by decide), rfl⟩, ?_⟩
        refine Call_wp (lv := [some (vr 4122)]) (by decide) ckJ0_coder_7d493 [] rfl rfl ?_
        refine ⟨fun c => absurd c (show (¬ ((1 : Int) = 0)) from by decide), fun _ => ?_⟩
        refine ⟨16, (by decide), rfl, ?_⟩
        refine ⟨rfl, (by decide), ?_⟩
        refine ⟨rfl, ?_⟩
        refine ⟨fun _ => ?_, fun c => absurd (show ((1 : Int) ≤ 1) from by decide) c⟩
        refine ⟨fun c => absurd c (show (¬ ((1 : Int) = 0)) from by decide), fun _ => ?_⟩
        refine ⟨⟨_, rfl, (by decide)⟩, ?_⟩
        have r23 : 0 ≤ (I 236 2) ∧ (I 236 2) ≤ 64 := Rg.n2 hR
        have a24 : -2147483648 ≤ (I 236 2) ∧ (I 236 2) < 2147483648 := hA.1 _ _
        refine r_goOn hF hR (show (I 235 7) ≤ (I 236 2) from by first | omega | (simp only [wr, wl] at *; omega)) (fun I25 hR26 hA27 hW28 q29 q30 q31 q32 => ?_)
        have r33 : 0 ≤ (I25 235 6) ∧ (I25 235 6) ≤ 64 := Rg.f6 hR26
        have a34 : -2147483648 ≤ (I25 235 6) ∧ (I25 235 6) < 2147483648 := hA27.1 _ _
        have r35 : 0 ≤ (I25 235 7) ∧ (I25 235 7) ≤ 64 := Rg.f7 hR26
        have a36 : -2147483648 ≤ (I25 235 7) ∧ (I25 235 7) < 2147483648 := hA27.1 _ _
        exact ⟨rfl, (by decide), fun hv hA' => hQ _ _ hR26 hA' (hv _ rfl) (fun k j hk => (hW28 k j (by omega))) (show 1 = 1 → (I 235 6) + 1 ≤ (I25 235 6) from by first | omega | (simp only [wr, wl] at *; omega)) (show (I25 235 6) ≤ (I25 235 7) from by first | omega | (simp only [wr, wl] at *; omega)) (show (I25 235 7) ≤ (I 236 2) from by first | omega | (simp only [wr, wl] at *; omega)) (show (I25 235 6) < (I 236 2) → (I25 235 6) < (I25 235 7) from by first | omega | (simp only [wr, wl] at *; omega)) (show (I 235 6) ≤ (I25 235 6) from by first | omega | (simp only [wr, wl] at *; omega)) (show 1 = 1 → (I 235 8) = 0 from by first | omega | (simp only [wr, wl] at *; omega)) (show 0 ≤ 1 ∧ 1 ≤ 1 from by first | omega | (simp only [wr, wl] at *; omega))⟩
theorem r_takes_17 (hF : FS F) (hR : Rg I) (h1 : I 235 6 ≤ I 235 7) (h2 : I 235 7 ≤ I 236 2) (h3 : I 235 6 < I 236 2 → I 235 6 < I 235 7) (hQ : ∀ (r : Int) (I' : pI), Rg I' → AR I' → iR r → (∀ k j, ¬ ((k = 235 ∧ (j = 6 ∨ j = 7))) → I' k j = I k j) → (r = 1 → (I 235 6) + 4 ≤ (I' 235 6)) → ((I' 235 6) ≤ (I' 235 7)) → ((I' 235 7) ≤ (I 236 2)) → ((I' 235 6) < (I 236 2) → (I' 235 6) < (I' 235 7)) → ((I 235 6) ≤ (I' 235 6)) → (r = 1 → (I 235 8) = 0) → (0 ≤ r ∧ r ≤ 1) → Q (some (vi r)) F I') : CallN G (d + 4) kX12_takes [vr 235, vr 4123] NP F I Q := by
  refine CallN_in (fun hok hA => CallN_out ?_)
  have g2 := Rg.n2 hR (Or.inl rfl)
  refine Call_wp (lv := [some (vr 235), some (vr 4123), none, none]) (by decide) ckX12_takes [] rfl rfl ?_
  refine ⟨_, rfl, (by decide), ?_⟩
  have a1 : -2147483648 ≤ (I 235 8) ∧ (I 235 8) < 2147483648 := hA.1 _ _
  refine ⟨fun (c2 : (¬ ((I 235 8) : Int) = 0)) => ?_, fun (c2 : (((I 235 8) : Int) = 0)) => ?_⟩
  ·
    refine ⟨fun _ => ?_, fun c => absurd (show ((0 : Int) = 0) from by decide) c⟩
    refine ⟨fun _ => ?_, fun c => absurd (show ((0 : Int) = 0) from by decide) c⟩
    have r3 : 0 ≤ (I 235 6) ∧ (I 235 6) ≤ 64 := Rg.f6 hR
    have a4 : -2147483648 ≤ (I 235 6) ∧ (I 235 6) < 2147483648 := hA.1 _ _
    have r5 : 0 ≤ (I 235 7) ∧ (I 235 7) ≤ 64 := Rg.f7 hR
    have a6 : -2147483648 ≤ (I 235 7) ∧ (I 235 7) < 2147483648 := hA.1 _ _
    have r7 : 0 ≤ (I 236 2) ∧ (I 236 2) ≤ 64 := Rg.n2 hR
    have a8 : -2147483648 ≤ (I 236 2) ∧ (I 236 2) < 2147483648 := hA.1 _ _
    exact ⟨rfl, (by decide), fun hv hA' => hQ _ _ hR hA' (hv _ rfl) (fun _ _ _ => rfl) (show 0 = 1 → (I 235 6) + 4 ≤ (I 235 6) from by first | omega | (simp only [wr, wl] at *; omega)) (show (I 235 6) ≤ (I 235 7) from by first | omega | (simp only [wr, wl] at *; omega)) (show (I 235 7) ≤ (I 236 2) from by first | omega | (simp only [wr, wl] at *; omega)) (show (I 235 6) < (I 236 2) → (I 235 6) < (I 235 7) from by first | omega | (simp only [wr, wl] at *; omega)) (show (I 235 6) ≤ (I 235 6) from by first | omega | (simp only [wr, wl] at *; omega)) (show 0 = 1 → (I 235 8) = 0 from by first | omega | (simp only [wr, wl] at *; omega)) (show 0 ≤ 0 ∧ 0 ≤ 1 from by first | omega | (simp only [wr, wl] at *; omega))⟩
  ·
    refine ⟨_, rfl, (by decide), ?_⟩
    have r9 : 0 ≤ (I 235 7) ∧ (I 235 7) ≤ 64 := Rg.f7 hR
    refine ⟨_, rfl, (by decide), ?_⟩
    have r10 : 0 ≤ (I 235 6) ∧ (I 235 6) ≤ 64 := Rg.f6 hR
    refine ⟨⟨17, (by decide), rfl⟩, ?_⟩
    refine Call_wp (lv := [some (vr 4123)]) (by decide) ckJ0_length_8abf5 [] rfl rfl ?_
    refine ⟨17, (by decide), rfl, ?_⟩
    refine Or.inr (Or.inr ⟨17, (by decide), rfl, ?_⟩)
    refine ⟨⟨17, (by decide), rfl⟩, ?_⟩
    refine Call_wp (lv := [some (vr 4123)]) (by decide) ckJ0_coder_7d493 [] rfl rfl ?_
    refine ⟨fun c => absurd c (show (¬ ((1 : Int) = 0)) from by decide), fun _ => ?_⟩
    refine ⟨17, (by decide), rfl, ?_⟩
    refine ⟨rfl, (by decide), ?_⟩
    refine ⟨rfl, ?_⟩
    have a11 : -2147483648 ≤ (I 235 7) ∧ (I 235 7) < 2147483648 := hA.1 _ _
    have a12 : -2147483648 ≤ (I 235 6) ∧ (I 235 6) < 2147483648 := hA.1 _ _
    have n13 : (wr ((I 235 7) - (I 235 6))) = (I 235 7) - (I 235 6) := wr_id (show -2147483648 ≤ ((I 235 7) - (I 235 6) : Int) ∧ ((I 235 7) - (I 235 6) : Int) < 2147483648 from by omega)
    refine ⟨fun (c14 : (¬ ((wr ((I 235 7) - (I 235 6))) : Int) = 4)) => ?_, fun (c14 : (((wr ((I 235 7) - (I 235 6))) : Int) = 4)) => ?_⟩
    ·
      refine ⟨fun _ => ?_, fun c => absurd (show ((0 : Int) = 0) from by decide) c⟩
      refine ⟨fun _ => ?_, fun c => absurd (show ((0 : Int) = 0) from by decide) c⟩
      have r15 : 0 ≤ (I 236 2) ∧ (I 236 2) ≤ 64 := Rg.n2 hR
      have a16 : -2147483648 ≤ (I 236 2) ∧ (I 236 2) < 2147483648 := hA.1 _ _
      exact ⟨rfl, (by decide), fun hv hA' => hQ _ _ hR hA' (hv _ rfl) (fun _ _ _ => rfl) (show 0 = 1 → (I 235 6) + 4 ≤ (I 235 6) from by first | omega | (simp only [wr, wl] at *; omega)) (show (I 235 6) ≤ (I 235 7) from by first | omega | (simp only [wr, wl] at *; omega)) (show (I 235 7) ≤ (I 236 2) from by first | omega | (simp only [wr, wl] at *; omega)) (show (I 235 6) < (I 236 2) → (I 235 6) < (I 235 7) from by first | omega | (simp only [wr, wl] at *; omega)) (show (I 235 6) ≤ (I 235 6) from by first | omega | (simp only [wr, wl] at *; omega)) (show 0 = 1 → (I 235 8) = 0 from by first | omega | (simp only [wr, wl] at *; omega)) (show 0 ≤ 0 ∧ 0 ≤ 1 from by first | omega | (simp only [wr, wl] at *; omega))⟩
    ·
      refine ⟨fun c => absurd c (show (¬ ((1 : Int) = 0)) from by decide), fun _ => ?_⟩
      refine ⟨⟨17, (by decide), rfl⟩, ?_⟩
      refine Call_wp (lv := [some (vr 4123)]) (by decide) ckJ0_length_8abf5 [] rfl rfl ?_
      refine ⟨17, (by decide), rfl, ?_⟩
      refine Or.inr (Or.inr ⟨17, (by decide), rfl, ?_⟩)
      refine ⟨⟨17, (by decide), rfl⟩, ?_⟩
      refine Call_wp (lv := [some (vr 4123)]) (by decide) ckJ0_coder_7d493 [] rfl rfl ?_
      refine ⟨fun c => absurd c (show (¬ ((1 : Int) = 0)) from by decide), fun _ => ?_⟩
      refine ⟨17, (by decide), rfl, ?_⟩
      refine ⟨rfl, (by decide), ?_⟩
      refine ⟨rfl, ?_⟩
      refine ⟨fun c => absurd c (show (¬ ((4 : Int) ≤ 0)) from by decide), fun _ => ?_⟩
      refine ⟨_, rfl, (by decide), ?_⟩
      refine fun w0 hw0 => ?_; obtain rfl : w0 = some 236 := hw0.symm.trans (FS.g hF rfl)
      refine ⟨_, rfl, (by decide), ?_⟩
      have n17 : (wr (1228 + (I 235 6))) = 1228 + (I 235 6) := wr_id (show -2147483648 ≤ (1228 + (I 235 6) : Int) ∧ (1228 + (I 235 6) : Int) < 2147483648 from by omega)
      have n18 : (wr ((wr (1228 + (I 235 6))) + 0)) = (wr (1228 + (I 235 6))) + 0 := wr_id (show -2147483648 ≤ ((wr (1228 + (I 235 6))) + 0 : Int) ∧ ((wr (1228 + (I 235 6))) + 0 : Int) < 2147483648 from by omega)
      refine ⟨_, rfl, (by decide), (show (0 : Int) ≤ (wr ((wr (1228 + (I 235 6))) + 0)) from by first | omega | (simp only [wr, wl] at *; omega)), (show (wr ((wr (1228 + (I 235 6))) + 0)) < (1340 : Int) from by first | omega | (simp only [wr, wl] at *; omega)), ?_⟩
      refine ⟨⟨17, (by decide), rfl⟩, ?_⟩
      refine Call_wp (lv := [some (vr 4123), some (vi 0)]) (by decide) ckJ0_charAt_5068e [] rfl rfl ?_
      refine ⟨⟨17, (by decide), rfl⟩, ?_⟩
      refine Call_wp (lv := [some (vr 4123)]) (by decide) ckJ0_isLatin1_aae02 [] rfl rfl ?_
      refine ⟨fun c => absurd c (show (¬ ((1 : Int) = 0)) from by decide), fun _ => ?_⟩
      refine ⟨17, (by decide), rfl, ?_⟩
      refine ⟨fun c => absurd (show ((0 : Int) = 0) from by decide) c, fun _ => ?_⟩
      refine ⟨rfl, (by decide), ?_⟩
      refine ⟨fun c => absurd c (show (¬ ((1 : Int) = 0)) from by decide), fun _ => ?_⟩
      refine ⟨17, (by decide), rfl, ?_⟩
      refine Call_wp (lv := [some (vr 4153), some (vi 0)]) (by decide) ckJ1_charAt_3b067 [] rfl rfl ?_
      refine Or.inr (Or.inr ⟨17, (by decide), rfl, ?_⟩)
      refine Call_wp (lv := [some (vi 0), some (vi 4)]) (by decide) ckJ0_checkIndex_df160 [] rfl rfl ?_
      refine Call_wp (lv := [some (vi 0), some (vi 4), some (gS G)]) (by decide) ckJ3_checkIndex_8e157 [] rfl rfl ?_
      refine ⟨fun c => absurd c (show (¬ ((0 : Int) < 0)) from by decide), fun _ => ?_⟩
      refine ⟨fun _ => ?_, fun c => absurd (show ((0 : Int) < 4) from by decide) c⟩
      refine ⟨rfl, ?_⟩
      refine ⟨rfl, ?_⟩
      refine ⟨17, (by decide), rfl, (by decide), (by decide), ?_⟩
      refine ⟨rfl, (by decide), ?_⟩
      refine ⟨rfl, (by decide), ?_⟩
      have a19 : -2147483648 ≤ (I 236 (Int.toNat (wr ((wr (1228 + (I 235 6))) + 0)))) ∧ (I 236 (Int.toNat (wr ((wr (1228 + (I 235 6))) + 0)))) < 2147483648 := hA.1 _ _
      refine ⟨fun (c20 : (¬ ((I 236 (Int.toNat (wr ((wr (1228 + (I 235 6))) + 0)))) : Int) = 108)) => ?_, fun (c20 : (((I 236 (Int.toNat (wr ((wr (1228 + (I 235 6))) + 0)))) : Int) = 108)) => ?_⟩
      ·
        refine ⟨fun _ => ?_, fun c => absurd (show ((0 : Int) = 0) from by decide) c⟩
        refine ⟨fun _ => ?_, fun c => absurd (show ((0 : Int) = 0) from by decide) c⟩
        have r21 : 0 ≤ (I 236 2) ∧ (I 236 2) ≤ 64 := Rg.n2 hR
        have a22 : -2147483648 ≤ (I 236 2) ∧ (I 236 2) < 2147483648 := hA.1 _ _
        exact ⟨rfl, (by decide), fun hv hA' => hQ _ _ hR hA' (hv _ rfl) (fun _ _ _ => rfl) (show 0 = 1 → (I 235 6) + 4 ≤ (I 235 6) from by first | omega | (simp only [wr, wl] at *; omega)) (show (I 235 6) ≤ (I 235 7) from by first | omega | (simp only [wr, wl] at *; omega)) (show (I 235 7) ≤ (I 236 2) from by first | omega | (simp only [wr, wl] at *; omega)) (show (I 235 6) < (I 236 2) → (I 235 6) < (I 235 7) from by first | omega | (simp only [wr, wl] at *; omega)) (show (I 235 6) ≤ (I 235 6) from by first | omega | (simp only [wr, wl] at *; omega)) (show 0 = 1 → (I 235 8) = 0 from by first | omega | (simp only [wr, wl] at *; omega)) (show 0 ≤ 0 ∧ 0 ≤ 1 from by first | omega | (simp only [wr, wl] at *; omega))⟩
      ·
        refine ⟨fun c => absurd c (show (¬ ((1 : Int) = 0)) from by decide), fun _ => ?_⟩
        refine ⟨⟨17, (by decide), rfl⟩, ?_⟩
        refine Call_wp (lv := [some (vr 4123)]) (by decide) ckJ0_length_8abf5 [] rfl rfl ?_
        refine ⟨17, (by decide), rfl, ?_⟩
        refine Or.inr (Or.inr ⟨17, (by decide), rfl, ?_⟩)
        refine ⟨⟨17, (by decide), rfl⟩, ?_⟩
        refine Call_wp (lv := [some (vr 4123)]) (by decide) ckJ0_coder_7d493 [] rfl rfl ?_
        refine ⟨fun c => absurd c (show (¬ ((1 : Int) = 0)) from by decide), fun _ => ?_⟩
        refine ⟨17, (by decide), rfl, ?_⟩
        refine ⟨rfl, (by decide), ?_⟩
        refine ⟨rfl, ?_⟩
        refine ⟨fun c => absurd c (show (¬ ((4 : Int) ≤ 1)) from by decide), fun _ => ?_⟩
        refine ⟨_, rfl, (by decide), ?_⟩
        refine fun w0 hw0 => ?_; obtain rfl : w0 = some 236 := hw0.symm.trans (FS.g hF rfl)
        refine ⟨_, rfl, (by decide), ?_⟩
        have n23 : (wr ((wr (1228 + (I 235 6))) + 1)) = (wr (1228 + (I 235 6))) + 1 := wr_id (show -2147483648 ≤ ((wr (1228 + (I 235 6))) + 1 : Int) ∧ ((wr (1228 + (I 235 6))) + 1 : Int) < 2147483648 from by omega)
        refine ⟨_, rfl, (by decide), (show (0 : Int) ≤ (wr ((wr (1228 + (I 235 6))) + 1)) from by first | omega | (simp only [wr, wl] at *; omega)), (show (wr ((wr (1228 + (I 235 6))) + 1)) < (1340 : Int) from by first | omega | (simp only [wr, wl] at *; omega)), ?_⟩
        refine ⟨⟨17, (by decide), rfl⟩, ?_⟩
        refine Call_wp (lv := [some (vr 4123), some (vi 1)]) (by decide) ckJ0_charAt_5068e [] rfl rfl ?_
        refine ⟨⟨17, (by decide), rfl⟩, ?_⟩
        refine Call_wp (lv := [some (vr 4123)]) (by decide) ckJ0_isLatin1_aae02 [] rfl rfl ?_
        refine ⟨fun c => absurd c (show (¬ ((1 : Int) = 0)) from by decide), fun _ => ?_⟩
        refine ⟨17, (by decide), rfl, ?_⟩
        refine ⟨fun c => absurd (show ((0 : Int) = 0) from by decide) c, fun _ => ?_⟩
        refine ⟨rfl, (by decide), ?_⟩
        refine ⟨fun c => absurd c (show (¬ ((1 : Int) = 0)) from by decide), fun _ => ?_⟩
        refine ⟨17, (by decide), rfl, ?_⟩
        refine Call_wp (lv := [some (vr 4153), some (vi 1)]) (by decide) ckJ1_charAt_3b067 [] rfl rfl ?_
        refine Or.inr (Or.inr ⟨17, (by decide), rfl, ?_⟩)
        refine Call_wp (lv := [some (vi 1), some (vi 4)]) (by decide) ckJ0_checkIndex_df160 [] rfl rfl ?_
        refine Call_wp (lv := [some (vi 1), some (vi 4), some (gS G)]) (by decide) ckJ3_checkIndex_8e157 [] rfl rfl ?_
        refine ⟨fun c => absurd c (show (¬ ((1 : Int) < 0)) from by decide), fun _ => ?_⟩
        refine ⟨fun _ => ?_, fun c => absurd (show ((1 : Int) < 4) from by decide) c⟩
        refine ⟨rfl, ?_⟩
        refine ⟨rfl, ?_⟩
        refine ⟨17, (by decide), rfl, (by decide), (by decide), ?_⟩
        refine ⟨rfl, (by decide), ?_⟩
        refine ⟨rfl, (by decide), ?_⟩
        have a24 : -2147483648 ≤ (I 236 (Int.toNat (wr ((wr (1228 + (I 235 6))) + 1)))) ∧ (I 236 (Int.toNat (wr ((wr (1228 + (I 235 6))) + 1)))) < 2147483648 := hA.1 _ _
        refine ⟨fun (c25 : (¬ ((I 236 (Int.toNat (wr ((wr (1228 + (I 235 6))) + 1)))) : Int) = 97)) => ?_, fun (c25 : (((I 236 (Int.toNat (wr ((wr (1228 + (I 235 6))) + 1)))) : Int) = 97)) => ?_⟩
        ·
          refine ⟨fun _ => ?_, fun c => absurd (show ((0 : Int) = 0) from by decide) c⟩
          refine ⟨fun _ => ?_, fun c => absurd (show ((0 : Int) = 0) from by decide) c⟩
          have r26 : 0 ≤ (I 236 2) ∧ (I 236 2) ≤ 64 := Rg.n2 hR
          have a27 : -2147483648 ≤ (I 236 2) ∧ (I 236 2) < 2147483648 := hA.1 _ _
          exact ⟨rfl, (by decide), fun hv hA' => hQ _ _ hR hA' (hv _ rfl) (fun _ _ _ => rfl) (show 0 = 1 → (I 235 6) + 4 ≤ (I 235 6) from by first | omega | (simp only [wr, wl] at *; omega)) (show (I 235 6) ≤ (I 235 7) from by first | omega | (simp only [wr, wl] at *; omega)) (show (I 235 7) ≤ (I 236 2) from by first | omega | (simp only [wr, wl] at *; omega)) (show (I 235 6) < (I 236 2) → (I 235 6) < (I 235 7) from by first | omega | (simp only [wr, wl] at *; omega)) (show (I 235 6) ≤ (I 235 6) from by first | omega | (simp only [wr, wl] at *; omega)) (show 0 = 1 → (I 235 8) = 0 from by first | omega | (simp only [wr, wl] at *; omega)) (show 0 ≤ 0 ∧ 0 ≤ 1 from by first | omega | (simp only [wr, wl] at *; omega))⟩
        ·
          refine ⟨fun c => absurd c (show (¬ ((1 : Int) = 0)) from by decide), fun _ => ?_⟩
          refine ⟨⟨17, (by decide), rfl⟩, ?_⟩
          refine Call_wp (lv := [some (vr 4123)]) (by decide) ckJ0_length_8abf5 [] rfl rfl ?_
          refine ⟨17, (by decide), rfl, ?_⟩
          refine Or.inr (Or.inr ⟨17, (by decide), rfl, ?_⟩)
          refine ⟨⟨17, (by decide), rfl⟩, ?_⟩
          refine Call_wp (lv := [some (vr 4123)]) (by decide) ckJ0_coder_7d493 [] rfl rfl ?_
          refine ⟨fun c => absurd c (show (¬ ((1 : Int) = 0)) from by decide), fun _ => ?_⟩
          refine ⟨17, (by decide), rfl, ?_⟩
          refine ⟨rfl, (by decide), ?_⟩
          refine ⟨rfl, ?_⟩
          refine ⟨fun c => absurd c (show (¬ ((4 : Int) ≤ 2)) from by decide), fun _ => ?_⟩
          refine ⟨_, rfl, (by decide), ?_⟩
          refine fun w0 hw0 => ?_; obtain rfl : w0 = some 236 := hw0.symm.trans (FS.g hF rfl)
          refine ⟨_, rfl, (by decide), ?_⟩
          have n28 : (wr ((wr (1228 + (I 235 6))) + 2)) = (wr (1228 + (I 235 6))) + 2 := wr_id (show -2147483648 ≤ ((wr (1228 + (I 235 6))) + 2 : Int) ∧ ((wr (1228 + (I 235 6))) + 2 : Int) < 2147483648 from by omega)
          refine ⟨_, rfl, (by decide), (show (0 : Int) ≤ (wr ((wr (1228 + (I 235 6))) + 2)) from by first | omega | (simp only [wr, wl] at *; omega)), (show (wr ((wr (1228 + (I 235 6))) + 2)) < (1340 : Int) from by first | omega | (simp only [wr, wl] at *; omega)), ?_⟩
          refine ⟨⟨17, (by decide), rfl⟩, ?_⟩
          refine Call_wp (lv := [some (vr 4123), some (vi 2)]) (by decide) ckJ0_charAt_5068e [] rfl rfl ?_
          refine ⟨⟨17, (by decide), rfl⟩, ?_⟩
          refine Call_wp (lv := [some (vr 4123)]) (by decide) ckJ0_isLatin1_aae02 [] rfl rfl ?_
          refine ⟨fun c => absurd c (show (¬ ((1 : Int) = 0)) from by decide), fun _ => ?_⟩
          refine ⟨17, (by decide), rfl, ?_⟩
          refine ⟨fun c => absurd (show ((0 : Int) = 0) from by decide) c, fun _ => ?_⟩
          refine ⟨rfl, (by decide), ?_⟩
          refine ⟨fun c => absurd c (show (¬ ((1 : Int) = 0)) from by decide), fun _ => ?_⟩
          refine ⟨17, (by decide), rfl, ?_⟩
          refine Call_wp (lv := [some (vr 4153), some (vi 2)]) (by decide) ckJ1_charAt_3b067 [] rfl rfl ?_
          refine Or.inr (Or.inr ⟨17, (by decide), rfl, ?_⟩)
          refine Call_wp (lv := [some (vi 2), some (vi 4)]) (by decide) ckJ0_checkIndex_df160 [] rfl rfl ?_
          refine Call_wp (lv := [some (vi 2), some (vi 4), some (gS G)]) (by decide) ckJ3_checkIndex_8e157 [] rfl rfl ?_
          refine ⟨fun c => absurd c (show (¬ ((2 : Int) < 0)) from by decide), fun _ => ?_⟩
          refine ⟨fun _ => ?_, fun c => absurd (show ((2 : Int) < 4) from by decide) c⟩
          refine ⟨rfl, ?_⟩
          refine ⟨rfl, ?_⟩
          refine ⟨17, (by decide), rfl, (by decide), (by decide), ?_⟩
          refine ⟨rfl, (by decide), ?_⟩
          refine ⟨rfl, (by decide), ?_⟩
          have a29 : -2147483648 ≤ (I 236 (Int.toNat (wr ((wr (1228 + (I 235 6))) + 2)))) ∧ (I 236 (Int.toNat (wr ((wr (1228 + (I 235 6))) + 2)))) < 2147483648 := hA.1 _ _
          refine ⟨fun (c30 : (¬ ((I 236 (Int.toNat (wr ((wr (1228 + (I 235 6))) + 2)))) : Int) = 115)) => ?_, fun (c30 : (((I 236 (Int.toNat (wr ((wr (1228 + (I 235 6))) + 2)))) : Int) = 115)) => ?_⟩
          ·
            refine ⟨fun _ => ?_, fun c => absurd (show ((0 : Int) = 0) from by decide) c⟩
            refine ⟨fun _ => ?_, fun c => absurd (show ((0 : Int) = 0) from by decide) c⟩
            have r31 : 0 ≤ (I 236 2) ∧ (I 236 2) ≤ 64 := Rg.n2 hR
            have a32 : -2147483648 ≤ (I 236 2) ∧ (I 236 2) < 2147483648 := hA.1 _ _
            exact ⟨rfl, (by decide), fun hv hA' => hQ _ _ hR hA' (hv _ rfl) (fun _ _ _ => rfl) (show 0 = 1 → (I 235 6) + 4 ≤ (I 235 6) from by first | omega | (simp only [wr, wl] at *; omega)) (show (I 235 6) ≤ (I 235 7) from by first | omega | (simp only [wr, wl] at *; omega)) (show (I 235 7) ≤ (I 236 2) from by first | omega | (simp only [wr, wl] at *; omega)) (show (I 235 6) < (I 236 2) → (I 235 6) < (I 235 7) from by first | omega | (simp only [wr, wl] at *; omega)) (show (I 235 6) ≤ (I 235 6) from by first | omega | (simp only [wr, wl] at *; omega)) (show 0 = 1 → (I 235 8) = 0 from by first | omega | (simp only [wr, wl] at *; omega)) (show 0 ≤ 0 ∧ 0 ≤ 1 from by first | omega | (simp only [wr, wl] at *; omega))⟩
          ·
            refine ⟨fun c => absurd c (show (¬ ((1 : Int) = 0)) from by decide), fun _ => ?_⟩
            refine ⟨⟨17, (by decide), rfl⟩, ?_⟩
            refine Call_wp (lv := [some (vr 4123)]) (by decide) ckJ0_length_8abf5 [] rfl rfl ?_
            refine ⟨17, (by decide), rfl, ?_⟩
            refine Or.inr (Or.inr ⟨17, (by decide), rfl, ?_⟩)
            refine ⟨⟨17, (by decide), rfl⟩, ?_⟩
            refine Call_wp (lv := [some (vr 4123)]) (by decide) ckJ0_coder_7d493 [] rfl rfl ?_
            refine ⟨fun c => absurd c (show (¬ ((1 : Int) = 0)) from by decide), fun _ => ?_⟩
            refine ⟨17, (by decide), rfl, ?_⟩
            refine ⟨rfl, (by decide), ?_⟩
            refine ⟨rfl, ?_⟩
            refine ⟨fun c => absurd c (show (¬ ((4 : Int) ≤ 3)) from by decide), fun _ => ?_⟩
            refine ⟨_, rfl, (by decide), ?_⟩
            refine fun w0 hw0 => ?_; obtain rfl : w0 = some 236 := hw0.symm.trans (FS.g hF rfl)
            refine ⟨_, rfl, (by decide), ?_⟩
            have n33 : (wr ((wr (1228 + (I 235 6))) + 3)) = (wr (1228 + (I 235 6))) + 3 := wr_id (show -2147483648 ≤ ((wr (1228 + (I 235 6))) + 3 : Int) ∧ ((wr (1228 + (I 235 6))) + 3 : Int) < 2147483648 from by omega)
            refine ⟨_, rfl, (by decide), (show (0 : Int) ≤ (wr ((wr (1228 + (I 235 6))) + 3)) from by first | omega | (simp only [wr, wl] at *; omega)), (show (wr ((wr (1228 + (I 235 6))) + 3)) < (1340 : Int) from by first | omega | (simp only [wr, wl] at *; omega)), ?_⟩
            refine ⟨⟨17, (by decide), rfl⟩, ?_⟩
            refine Call_wp (lv := [some (vr 4123), some (vi 3)]) (by decide) ckJ0_charAt_5068e [] rfl rfl ?_
            refine ⟨⟨17, (by decide), rfl⟩, ?_⟩
            refine Call_wp (lv := [some (vr 4123)]) (by decide) ckJ0_isLatin1_aae02 [] rfl rfl ?_
            refine ⟨fun c => absurd c (show (¬ ((1 : Int) = 0)) from by decide), fun _ => ?_⟩
            refine ⟨17, (by decide), rfl, ?_⟩
            refine ⟨fun c => absurd (show ((0 : Int) = 0) from by decide) c, fun _ => ?_⟩
            refine ⟨rfl, (by decide), ?_⟩
            refine ⟨fun c => absurd c (show (¬ ((1 : Int) = 0)) from by decide), fun _ => ?_⟩
            refine ⟨17, (by decide), rfl, ?_⟩
            refine Call_wp (lv := [some (vr 4153), some (vi 3)]) (by decide) ckJ1_charAt_3b067 [] rfl rfl ?_
            refine Or.inr (Or.inr ⟨17, (by decide), rfl, ?_⟩)
            refine Call_wp (lv := [some (vi 3), some (vi 4)]) (by decide) ckJ0_checkIndex_df160 [] rfl rfl ?_
            refine Call_wp (lv := [some (vi 3), some (vi 4), some (gS G)]) (by decide) ckJ3_checkIndex_8e157 [] rfl rfl ?_
            refine ⟨fun c => absurd c (show (¬ ((3 : Int) < 0)) from by decide), fun _ => ?_⟩
            refine ⟨fun _ => ?_, fun c => absurd (show ((3 : Int) < 4) from by decide) c⟩
            refine ⟨rfl, ?_⟩
            refine ⟨rfl, ?_⟩
            refine ⟨17, (by decide), rfl, (by decide), (by decide), ?_⟩
            refine ⟨rfl, (by decide), ?_⟩
            refine ⟨rfl, (by decide), ?_⟩
            have a34 : -2147483648 ≤ (I 236 (Int.toNat (wr ((wr (1228 + (I 235 6))) + 3)))) ∧ (I 236 (Int.toNat (wr ((wr (1228 + (I 235 6))) + 3)))) < 2147483648 := hA.1 _ _
            refine ⟨fun (c35 : (¬ ((I 236 (Int.toNat (wr ((wr (1228 + (I 235 6))) + 3)))) : Int) = 116)) => ?_, fun (c35 : (((I 236 (Int.toNat (wr ((wr (1228 + (I 235 6))) + 3)))) : Int) = 116)) => ?_⟩
            ·
              refine ⟨fun _ => ?_, fun c => absurd (show ((0 : Int) = 0) from by decide) c⟩
              refine ⟨fun _ => ?_, fun c => absurd (show ((0 : Int) = 0) from by decide) c⟩
              have r36 : 0 ≤ (I 236 2) ∧ (I 236 2) ≤ 64 := Rg.n2 hR
              have a37 : -2147483648 ≤ (I 236 2) ∧ (I 236 2) < 2147483648 := hA.1 _ _
              exact ⟨rfl, (by decide), fun hv hA' => hQ _ _ hR hA' (hv _ rfl) (fun _ _ _ => rfl) (show 0 = 1 → (I 235 6) + 4 ≤ (I 235 6) from by first | omega | (simp only [wr, wl] at *; omega)) (show (I 235 6) ≤ (I 235 7) from by first | omega | (simp only [wr, wl] at *; omega)) (show (I 235 7) ≤ (I 236 2) from by first | omega | (simp only [wr, wl] at *; omega)) (show (I 235 6) < (I 236 2) → (I 235 6) < (I 235 7) from by first | omega | (simp only [wr, wl] at *; omega)) (show (I 235 6) ≤ (I 235 6) from by first | omega | (simp only [wr, wl] at *; omega)) (show 0 = 1 → (I 235 8) = 0 from by first | omega | (simp only [wr, wl] at *; omega)) (show 0 ≤ 0 ∧ 0 ≤ 1 from by first | omega | (simp only [wr, wl] at *; omega))⟩
            ·
              refine ⟨fun c => absurd c (show (¬ ((1 : Int) = 0)) from by decide), fun _ => ?_⟩
              refine ⟨⟨17, (by decide), rfl⟩, ?_⟩
              refine Call_wp (lv := [some (vr 4123)]) (by decide) ckJ0_length_8abf5 [] rfl rfl ?_
              refine ⟨17, (by decide), rfl, ?_⟩
              refine Or.inr (Or.inr ⟨17, (by decide), rfl, ?_⟩)
              refine ⟨⟨17, (by decide), rfl⟩, ?_⟩
              refine Call_wp (lv := [some (vr 4123)]) (by decide) ckJ0_coder_7d493 [] rfl rfl ?_
              refine ⟨fun c => absurd c (show (¬ ((1 : Int) = 0)) from by decide), fun _ => ?_⟩
              refine ⟨17, (by decide), rfl, ?_⟩
              refine ⟨rfl, (by decide), ?_⟩
              refine ⟨rfl, ?_⟩
              refine ⟨fun _ => ?_, fun c => absurd (show ((4 : Int) ≤ 4) from by decide) c⟩
              refine ⟨fun c => absurd c (show (¬ ((1 : Int) = 0)) from by decide), fun _ => ?_⟩
              refine ⟨⟨_, rfl, (by decide)⟩, ?_⟩
              have r38 : 0 ≤ (I 236 2) ∧ (I 236 2) ≤ 64 := Rg.n2 hR
              have a39 : -2147483648 ≤ (I 236 2) ∧ (I 236 2) < 2147483648 := hA.1 _ _
              refine r_goOn hF hR (show (I 235 7) ≤ (I 236 2) from by first | omega | (simp only [wr, wl] at *; omega)) (fun I40 hR41 hA42 hW43 q44 q45 q46 q47 => ?_)
              have r48 : 0 ≤ (I40 235 6) ∧ (I40 235 6) ≤ 64 := Rg.f6 hR41
              have a49 : -2147483648 ≤ (I40 235 6) ∧ (I40 235 6) < 2147483648 := hA42.1 _ _
              have r50 : 0 ≤ (I40 235 7) ∧ (I40 235 7) ≤ 64 := Rg.f7 hR41
              have a51 : -2147483648 ≤ (I40 235 7) ∧ (I40 235 7) < 2147483648 := hA42.1 _ _
              exact ⟨rfl, (by decide), fun hv hA' => hQ _ _ hR41 hA' (hv _ rfl) (fun k j hk => (hW43 k j (by omega))) (show 1 = 1 → (I 235 6) + 4 ≤ (I40 235 6) from by first | omega | (simp only [wr, wl] at *; omega)) (show (I40 235 6) ≤ (I40 235 7) from by first | omega | (simp only [wr, wl] at *; omega)) (show (I40 235 7) ≤ (I 236 2) from by first | omega | (simp only [wr, wl] at *; omega)) (show (I40 235 6) < (I 236 2) → (I40 235 6) < (I40 235 7) from by first | omega | (simp only [wr, wl] at *; omega)) (show (I 235 6) ≤ (I40 235 6) from by first | omega | (simp only [wr, wl] at *; omega)) (show 1 = 1 → (I 235 8) = 0 from by first | omega | (simp only [wr, wl] at *; omega)) (show 0 ≤ 1 ∧ 1 ≤ 1 from by first | omega | (simp only [wr, wl] at *; omega))⟩
theorem r_number_l (hF : FS F) (hR : Rg I) (h1 : I 235 6 ≤ I 235 7) (h2 : I 235 7 ≤ I 236 2) (h3 : I 235 6 < I 236 2 → I 235 6 < I 235 7) (hQ : ∀ (r : Int) (I' : pI), Rg I' → (∀ k j, ¬ ((k = 235 ∧ (j = 6 ∨ j = 7 ∨ j = 8))) → I' k j = I k j) → (r ≤ 300000) → ((I' 235 6) ≤ (I' 235 7)) → ((I' 235 7) ≤ (I 236 2)) → ((I' 235 6) < (I 236 2) → (I' 235 6) < (I' 235 7)) → ((I 235 6) ≤ (I' 235 6)) → ((I' 235 8) = 0 → (I 235 6) + 1 ≤ (I' 235 6)) → Q (some (vi r)) F I') : ∀ (m : Nat) (v k : Int) (J : pI), Rg J → (∀ k j, ¬ ((k = 235 ∧ (j = 6 ∨ j = 7 ∨ j = 8))) → J k j = I k j) → (0 : Int) ≤ k → (k : Int) ≤ 64 → (J 235 6) = I 235 6 → (J 235 7) = I 235 7 → (J 235 8) = 0 → (J 235 7) - (J 235 6) ≤ 4 ∧ (J 235 6) < (J 235 7) → ¬ (J 235 8) = 0 → v = 0 → (J 235 6) ≤ k → k ≤ (J 235 7) → k = (J 235 6) → v = 0 → k = (J 235 6) + 1 → -48 ≤ v ∧ v ≤ 207 → k = (J 235 6) + 2 → -528 ≤ v ∧ v ≤ 2277 → k = (J 235 6) + 3 → -5328 ≤ v ∧ v ≤ 22977 → k = (J 235 6) + 4 → -53328 ≤ v ∧ v ≤ 229977 → (64 - k).toNat < m → GoN G (d + 3) kX12_number NP NP 44 [some (vr 235), some (vi v), some (vi k)] [] F J Q := by
  intro m
  induction m with
  | zero => intro v k J hJ hV _ _ _ _ _ _ _ _ _ _ _ _ _ h; exact absurd h (Nat.not_lt_zero _)
  | succ m ih =>
    intro v k J hJ hV c100 c101 c102 c103 c104 c105 c106 c107 c108 c109 c110 c111 c112 hm
    refine GoN_in (fun hok hA => ?_)
    have iv : -2147483648 ≤ v ∧ v < 2147483648 := hok 1 _ rfl
    have ik : -2147483648 ≤ k ∧ k < 2147483648 := hok 2 _ rfl
    have g2 := Rg.n2 hR (Or.inl rfl)
    have bv : -53328 ≤ v ∧ v ≤ 229977 := by omega
    have r1 : 0 ≤ (J 235 6) ∧ (J 235 6) ≤ 64 := Rg.f6 hJ
    have a2 : -2147483648 ≤ (J 235 6) ∧ (J 235 6) < 2147483648 := hA.1 _ _
    have r3 : 0 ≤ (J 235 7) ∧ (J 235 7) ≤ 64 := Rg.f7 hJ
    have a4 : -2147483648 ≤ (J 235 7) ∧ (J 235 7) < 2147483648 := hA.1 _ _
    have a5 : -2147483648 ≤ (J 235 8) ∧ (J 235 8) < 2147483648 := hA.1 _ _
    refine Go_wp (by decide) ckX12_number [44] ?_
    refine ⟨_, rfl, (by decide), ?_⟩
    refine ⟨fun (c6 : (((J 235 7) : Int) ≤ k)) => ?_, fun (c6 : (¬ (((J 235 7) : Int) ≤ k))) => ?_⟩
    ·
      refine ⟨_, rfl, (by decide), ?_⟩
      refine ⟨fun (c7 : (¬ ((J 235 8) : Int) = 0)) => ?_, fun (c7 : (((J 235 8) : Int) = 0)) => ?_⟩
      ·
        have r8 : 0 ≤ (I 236 2) ∧ (I 236 2) ≤ 64 := Rg.n2 hR
        have r9 : 0 ≤ (I 235 6) ∧ (I 235 6) ≤ 64 := Rg.f6 hR
        exact ⟨rfl, hQ _ _ hJ (fun k j hk => (hV k j (by omega))) (show v ≤ 300000 from by first | omega | (simp only [wr, wl] at *; omega)) (show (J 235 6) ≤ (J 235 7) from by first | omega | (simp only [wr, wl] at *; omega)) (show (J 235 7) ≤ (I 236 2) from by first | omega | (simp only [wr, wl] at *; omega)) (show (J 235 6) < (I 236 2) → (J 235 6) < (J 235 7) from by first | omega | (simp only [wr, wl] at *; omega)) (show (I 235 6) ≤ (J 235 6) from by first | omega | (simp only [wr, wl] at *; omega)) (show (J 235 8) = 0 → (I 235 6) + 1 ≤ (J 235 6) from by first | omega | (simp only [wr, wl] at *; omega))⟩
      ·
        refine ⟨⟨_, rfl, (by decide)⟩, ?_⟩
        have r10 : 0 ≤ (I 236 2) ∧ (I 236 2) ≤ 64 := Rg.n2 hR
        have u11 : (J 236 2) = (I 236 2) := hV _ _ (by first | omega | decide)
        have a12 : -2147483648 ≤ (J 236 2) ∧ (J 236 2) < 2147483648 := hA.1 _ _
        have r13 : 0 ≤ (J 236 2) ∧ (J 236 2) ≤ 64 := Rg.n2 hJ
        refine r_goOn hF hJ (show (J 235 7) ≤ (J 236 2) from by first | omega | (simp only [wr, wl] at *; omega)) (fun I14 hR15 hA16 hW17 q18 q19 q20 q21 => ?_)
        have r22 : 0 ≤ (I14 235 6) ∧ (I14 235 6) ≤ 64 := Rg.f6 hR15
        have a23 : -2147483648 ≤ (I14 235 6) ∧ (I14 235 6) < 2147483648 := hA16.1 _ _
        have r24 : 0 ≤ (I14 235 7) ∧ (I14 235 7) ≤ 64 := Rg.f7 hR15
        have a25 : -2147483648 ≤ (I14 235 7) ∧ (I14 235 7) < 2147483648 := hA16.1 _ _
        have r26 : 0 ≤ (I 235 6) ∧ (I 235 6) ≤ 64 := Rg.f6 hR
        have u27 : (I14 235 8) = (J 235 8) := hW17 _ _ (by first | omega | decide)
        have a28 : -2147483648 ≤ (I14 235 8) ∧ (I14 235 8) < 2147483648 := hA16.1 _ _
        exact ⟨rfl, hQ _ _ hR15 (fun k j hk => ((hW17 k j (by omega))).trans ((hV k j (by omega)))) (show v ≤ 300000 from by first | omega | (simp only [wr, wl] at *; omega)) (show (I14 235 6) ≤ (I14 235 7) from by first | omega | (simp only [wr, wl] at *; omega)) (show (I14 235 7) ≤ (I 236 2) from by first | omega | (simp only [wr, wl] at *; omega)) (show (I14 235 6) < (I 236 2) → (I14 235 6) < (I14 235 7) from by first | omega | (simp only [wr, wl] at *; omega)) (show (I 235 6) ≤ (I14 235 6) from by first | omega | (simp only [wr, wl] at *; omega)) (show (I14 235 8) = 0 → (I 235 6) + 1 ≤ (I14 235 6) from by first | omega | (simp only [wr, wl] at *; omega))⟩
    ·
      refine ⟨_, rfl, (by decide), ?_⟩
      refine ⟨fun (c29 : (¬ ((J 235 8) : Int) = 0)) => ?_, fun (c29 : (((J 235 8) : Int) = 0)) => ?_⟩
      ·
        refine ⟨_, rfl, (by decide), ?_⟩
        refine ⟨fun _ => ?_, fun c => absurd c (show (¬ ((J 235 8) : Int) = 0) from by first | omega | (simp only [wr, wl] at *; omega))⟩
        have r30 : 0 ≤ (I 236 2) ∧ (I 236 2) ≤ 64 := Rg.n2 hR
        have r31 : 0 ≤ (I 235 6) ∧ (I 235 6) ≤ 64 := Rg.f6 hR
        exact ⟨rfl, hQ _ _ hJ (fun k j hk => (hV k j (by omega))) (show v ≤ 300000 from by first | omega | (simp only [wr, wl] at *; omega)) (show (J 235 6) ≤ (J 235 7) from by first | omega | (simp only [wr, wl] at *; omega)) (show (J 235 7) ≤ (I 236 2) from by first | omega | (simp only [wr, wl] at *; omega)) (show (J 235 6) < (I 236 2) → (J 235 6) < (J 235 7) from by first | omega | (simp only [wr, wl] at *; omega)) (show (I 235 6) ≤ (J 235 6) from by first | omega | (simp only [wr, wl] at *; omega)) (show (J 235 8) = 0 → (I 235 6) + 1 ≤ (J 235 6) from by first | omega | (simp only [wr, wl] at *; omega))⟩
      ·
        refine ⟨_, rfl, (by decide), ?_⟩
        refine fun w0 hw0 => ?_; obtain rfl : w0 = some 236 := hw0.symm.trans (FS.g hF rfl)
        have n32 : (wr (1228 + k)) = 1228 + k := wr_id (show -2147483648 ≤ (1228 + k : Int) ∧ (1228 + k : Int) < 2147483648 from by omega)
        refine ⟨_, rfl, (by decide), (show (0 : Int) ≤ (wr (1228 + k)) from by first | omega | (simp only [wr, wl] at *; omega)), (show (wr (1228 + k)) < (1340 : Int) from by first | omega | (simp only [wr, wl] at *; omega)), ?_⟩
        have u33 : (J 236 (Int.toNat (wr (1228 + k)))) = (I 236 (Int.toNat (wr (1228 + k)))) := hV _ _ (by first | omega | decide)
        have a34 : -2147483648 ≤ (J 236 (Int.toNat (wr (1228 + k)))) ∧ (J 236 (Int.toNat (wr (1228 + k)))) < 2147483648 := hA.1 _ _
        have n35 : (wr (10 * v)) = 10 * v := wr_id (show -2147483648 ≤ (10 * v : Int) ∧ (10 * v : Int) < 2147483648 from by omega)
        have n36 : -2147483648 ≤ (wr ((wr (10 * v)) + (J 236 (Int.toNat (wr (1228 + k)))))) ∧ (wr ((wr (10 * v)) + (J 236 (Int.toNat (wr (1228 + k)))))) < 2147483648 := wr_R _
        have n37 : -2147483648 ≤ (wr ((wr ((wr (10 * v)) + (J 236 (Int.toNat (wr (1228 + k)))))) - 48)) ∧ (wr ((wr ((wr (10 * v)) + (J 236 (Int.toNat (wr (1228 + k)))))) - 48)) < 2147483648 := wr_R _
        have n38 : (wr (k + 1)) = k + 1 := wr_id (show -2147483648 ≤ (k + 1 : Int) ∧ (k + 1 : Int) < 2147483648 from by omega)
        exact ih (wr ((wr ((wr (10 * v)) + (J 236 (Int.toNat (wr (1228 + k)))))) - 48)) (wr (k + 1)) J hJ (fun k j hk => (hV k j (by omega))) (show (0 : Int) ≤ (wr (k + 1)) from by first | omega | (simp only [wr, wl] at *; omega)) (show ((wr (k + 1)) : Int) ≤ 64 from by first | omega | (simp only [wr, wl] at *; omega)) (show (J 235 6) = I 235 6 from by first | omega | (simp only [wr, wl] at *; omega)) (show (J 235 7) = I 235 7 from by first | omega | (simp only [wr, wl] at *; omega)) (show (J 235 8) = 0 → (J 235 7) - (J 235 6) ≤ 4 ∧ (J 235 6) < (J 235 7) from by first | omega | (simp only [wr, wl] at *; omega)) (show ¬ (J 235 8) = 0 → (wr ((wr ((wr (10 * v)) + (J 236 (Int.toNat (wr (1228 + k)))))) - 48)) = 0 from by first | omega | (simp only [wr, wl] at *; omega)) (show (J 235 6) ≤ (wr (k + 1)) from by first | omega | (simp only [wr, wl] at *; omega)) (show (wr (k + 1)) ≤ (J 235 7) from by first | omega | (simp only [wr, wl] at *; omega)) (show (wr (k + 1)) = (J 235 6) → (wr ((wr ((wr (10 * v)) + (J 236 (Int.toNat (wr (1228 + k)))))) - 48)) = 0 from by first | omega | (simp only [wr, wl] at *; omega)) (show (wr (k + 1)) = (J 235 6) + 1 → -48 ≤ (wr ((wr ((wr (10 * v)) + (J 236 (Int.toNat (wr (1228 + k)))))) - 48)) ∧ (wr ((wr ((wr (10 * v)) + (J 236 (Int.toNat (wr (1228 + k)))))) - 48)) ≤ 207 from by first | omega | (simp only [wr, wl] at *; omega)) (show (wr (k + 1)) = (J 235 6) + 2 → -528 ≤ (wr ((wr ((wr (10 * v)) + (J 236 (Int.toNat (wr (1228 + k)))))) - 48)) ∧ (wr ((wr ((wr (10 * v)) + (J 236 (Int.toNat (wr (1228 + k)))))) - 48)) ≤ 2277 from by first | omega | (simp only [wr, wl] at *; omega)) (show (wr (k + 1)) = (J 235 6) + 3 → -5328 ≤ (wr ((wr ((wr (10 * v)) + (J 236 (Int.toNat (wr (1228 + k)))))) - 48)) ∧ (wr ((wr ((wr (10 * v)) + (J 236 (Int.toNat (wr (1228 + k)))))) - 48)) ≤ 22977 from by first | omega | (simp only [wr, wl] at *; omega)) (show (wr (k + 1)) = (J 235 6) + 4 → -53328 ≤ (wr ((wr ((wr (10 * v)) + (J 236 (Int.toNat (wr (1228 + k)))))) - 48)) ∧ (wr ((wr ((wr (10 * v)) + (J 236 (Int.toNat (wr (1228 + k)))))) - 48)) ≤ 229977 from by first | omega | (simp only [wr, wl] at *; omega)) (show (64 - (wr (k + 1))).toNat < m from by omega)
theorem r_number (hF : FS F) (hR : Rg I) (h1 : I 235 6 ≤ I 235 7) (h2 : I 235 7 ≤ I 236 2) (h3 : I 235 6 < I 236 2 → I 235 6 < I 235 7) (hQ : ∀ (r : Int) (I' : pI), Rg I' → AR I' → iR r → (∀ k j, ¬ ((k = 235 ∧ (j = 6 ∨ j = 7 ∨ j = 8))) → I' k j = I k j) → (r ≤ 300000) → ((I' 235 6) ≤ (I' 235 7)) → ((I' 235 7) ≤ (I 236 2)) → ((I' 235 6) < (I 236 2) → (I' 235 6) < (I' 235 7)) → ((I 235 6) ≤ (I' 235 6)) → ((I' 235 8) = 0 → (I 235 6) + 1 ≤ (I' 235 6)) → Q (some (vi r)) F I') : CallN G (d + 3) kX12_number [vr 235] NP F I Q := by
  refine CallN_in (fun hok hA => CallN_out ?_)
  have g2 := Rg.n2 hR (Or.inl rfl)
  refine Call_wp (lv := [some (vr 235), none, none]) (by decide) ckX12_number [44] rfl rfl ?_
  refine ⟨_, rfl, (by decide), ?_⟩
  have r1 : 0 ≤ (I 235 6) ∧ (I 235 6) ≤ 64 := Rg.f6 hR
  refine ⟨⟨_, rfl, (by decide)⟩, ?_⟩
  refine Call_wp (lv := [some (vr 235), some (vi (I 235 6)), some (vi 48), some (vi 57)]) (by decide) ckX12_isByte [] rfl rfl ?_
  refine ⟨_, rfl, (by decide), ?_⟩
  refine fun w0 hw0 => ?_; obtain rfl : w0 = some 236 := hw0.symm.trans (FS.g hF rfl)
  refine ⟨_, rfl, (by decide), (by decide), (by decide), ?_⟩
  have r2 : 0 ≤ (I 236 2) ∧ (I 236 2) ≤ 64 := Rg.n2 hR
  have a3 : -2147483648 ≤ (I 235 6) ∧ (I 235 6) < 2147483648 := hA.1 _ _
  have a4 : -2147483648 ≤ (I 236 2) ∧ (I 236 2) < 2147483648 := hA.1 _ _
  refine ⟨fun (c5 : (((I 236 2) : Int) ≤ (I 235 6))) => ?_, fun (c5 : (¬ (((I 236 2) : Int) ≤ (I 235 6)))) => ?_⟩
  ·
    refine ⟨rfl, (by decide), ?_⟩
    refine ⟨fun _ => ?_, fun c => absurd (show ((0 : Int) = 0) from by decide) c⟩
    refine ⟨_, rfl, (by decide), (by decide), ?_⟩
    refine ⟨_, rfl, (by decide), ?_⟩
    have r6 : 0 ≤ (I 235 7) ∧ (I 235 7) ≤ 64 := Rg.f7 hR
    have a7 : -2147483648 ≤ (I 235 7) ∧ (I 235 7) < 2147483648 := hA.1 _ _
    refine r_number_l hF hR h1 h2 h3 (fun r I' g1 g2 g3 g4 g5 g6 g7 g8 hv hA' => hQ _ _ g1 hA' (hv _ rfl) g2 g3 g4 g5 g6 g7 g8) _ 0 (I 235 6) (uI I 235 8 1) (Rg.u hR (Pr_f rfl)) (fun k j hk => (uI_o (by omega))) (show (0 : Int) ≤ (I 235 6) from by first | omega | (simp only [wr, wl] at *; omega)) (show ((I 235 6) : Int) ≤ 64 from by first | omega | (simp only [wr, wl] at *; omega)) (show (I 235 6) = I 235 6 from by first | omega | (simp only [wr, wl] at *; omega)) (show (I 235 7) = I 235 7 from by first | omega | (simp only [wr, wl] at *; omega)) (show (1 : Int) = 0 → (I 235 7) - (I 235 6) ≤ 4 ∧ (I 235 6) < (I 235 7) from by first | omega | (simp only [wr, wl] at *; omega)) (show ¬ (1 : Int) = 0 → (0 : Int) = 0 from by first | omega | (simp only [wr, wl] at *; omega)) (show (I 235 6) ≤ (I 235 6) from by first | omega | (simp only [wr, wl] at *; omega)) (show (I 235 6) ≤ (I 235 7) from by first | omega | (simp only [wr, wl] at *; omega)) (show (I 235 6) = (I 235 6) → (0 : Int) = 0 from by first | omega | (simp only [wr, wl] at *; omega)) (show (I 235 6) = (I 235 6) + 1 → -48 ≤ (0 : Int) ∧ (0 : Int) ≤ 207 from by first | omega | (simp only [wr, wl] at *; omega)) (show (I 235 6) = (I 235 6) + 2 → -528 ≤ (0 : Int) ∧ (0 : Int) ≤ 2277 from by first | omega | (simp only [wr, wl] at *; omega)) (show (I 235 6) = (I 235 6) + 3 → -5328 ≤ (0 : Int) ∧ (0 : Int) ≤ 22977 from by first | omega | (simp only [wr, wl] at *; omega)) (show (I 235 6) = (I 235 6) + 4 → -53328 ≤ (0 : Int) ∧ (0 : Int) ≤ 229977 from by first | omega | (simp only [wr, wl] at *; omega)) (Nat.lt_succ_self _)
  ·
    refine ⟨_, rfl, (by decide), ?_⟩
    refine fun w0 hw0 => ?_; obtain rfl : w0 = some 236 := hw0.symm.trans (FS.g hF rfl)
    have n8 : (wr (1228 + (I 235 6))) = 1228 + (I 235 6) := wr_id (show -2147483648 ≤ (1228 + (I 235 6) : Int) ∧ (1228 + (I 235 6) : Int) < 2147483648 from by omega)
    refine ⟨_, rfl, (by decide), (show (0 : Int) ≤ (wr (1228 + (I 235 6))) from by first | omega | (simp only [wr, wl] at *; omega)), (show (wr (1228 + (I 235 6))) < (1340 : Int) from by first | omega | (simp only [wr, wl] at *; omega)), ?_⟩
    have a9 : -2147483648 ≤ (I 236 (Int.toNat (wr (1228 + (I 235 6))))) ∧ (I 236 (Int.toNat (wr (1228 + (I 235 6))))) < 2147483648 := hA.1 _ _
    refine s_X12_within (fun (w10 : ((48 : Int) ≤ (I 236 (Int.toNat (wr (1228 + (I 235 6))))) ∧ ((I 236 (Int.toNat (wr (1228 + (I 235 6))))) : Int) ≤ 57)) => ?_) (fun (w10 : ¬ ((48 : Int) ≤ (I 236 (Int.toNat (wr (1228 + (I 235 6))))) ∧ ((I 236 (Int.toNat (wr (1228 + (I 235 6))))) : Int) ≤ 57)) => ?_)
    ·
      refine ⟨fun c => absurd c (show (¬ ((1 : Int) = 0)) from by decide), fun _ => ?_⟩
      refine ⟨rfl, (by decide), ?_⟩
      refine ⟨fun c => absurd c (show (¬ ((1 : Int) = 0)) from by decide), fun _ => ?_⟩
      refine ⟨_, rfl, (by decide), ?_⟩
      have r11 : 0 ≤ (I 235 7) ∧ (I 235 7) ≤ 64 := Rg.f7 hR
      refine ⟨_, rfl, (by decide), ?_⟩
      have a12 : -2147483648 ≤ (I 235 7) ∧ (I 235 7) < 2147483648 := hA.1 _ _
      have n13 : (wr ((I 235 7) - (I 235 6))) = (I 235 7) - (I 235 6) := wr_id (show -2147483648 ≤ ((I 235 7) - (I 235 6) : Int) ∧ ((I 235 7) - (I 235 6) : Int) < 2147483648 from by omega)
      refine ⟨fun (c14 : (((wr ((I 235 7) - (I 235 6))) : Int) ≤ 4)) => ?_, fun (c14 : (¬ (((wr ((I 235 7) - (I 235 6))) : Int) ≤ 4))) => ?_⟩
      ·
        refine ⟨_, rfl, (by decide), (by decide), ?_⟩
        refine ⟨_, rfl, (by decide), ?_⟩
        refine r_number_l hF hR h1 h2 h3 (fun r I' g1 g2 g3 g4 g5 g6 g7 g8 hv hA' => hQ _ _ g1 hA' (hv _ rfl) g2 g3 g4 g5 g6 g7 g8) _ 0 (I 235 6) (uI I 235 8 0) (Rg.u hR (Pr_f rfl)) (fun k j hk => (uI_o (by omega))) (show (0 : Int) ≤ (I 235 6) from by first | omega | (simp only [wr, wl] at *; omega)) (show ((I 235 6) : Int) ≤ 64 from by first | omega | (simp only [wr, wl] at *; omega)) (show (I 235 6) = I 235 6 from by first | omega | (simp only [wr, wl] at *; omega)) (show (I 235 7) = I 235 7 from by first | omega | (simp only [wr, wl] at *; omega)) (show (0 : Int) = 0 → (I 235 7) - (I 235 6) ≤ 4 ∧ (I 235 6) < (I 235 7) from by first | omega | (simp only [wr, wl] at *; omega)) (show ¬ (0 : Int) = 0 → (0 : Int) = 0 from by first | omega | (simp only [wr, wl] at *; omega)) (show (I 235 6) ≤ (I 235 6) from by first | omega | (simp only [wr, wl] at *; omega)) (show (I 235 6) ≤ (I 235 7) from by first | omega | (simp only [wr, wl] at *; omega)) (show (I 235 6) = (I 235 6) → (0 : Int) = 0 from by first | omega | (simp only [wr, wl] at *; omega)) (show (I 235 6) = (I 235 6) + 1 → -48 ≤ (0 : Int) ∧ (0 : Int) ≤ 207 from by first | omega | (simp only [wr, wl] at *; omega)) (show (I 235 6) = (I 235 6) + 2 → -528 ≤ (0 : Int) ∧ (0 : Int) ≤ 2277 from by first | omega | (simp only [wr, wl] at *; omega)) (show (I 235 6) = (I 235 6) + 3 → -5328 ≤ (0 : Int) ∧ (0 : Int) ≤ 22977 from by first | omega | (simp only [wr, wl] at *; omega)) (show (I 235 6) = (I 235 6) + 4 → -53328 ≤ (0 : Int) ∧ (0 : Int) ≤ 229977 from by first | omega | (simp only [wr, wl] at *; omega)) (Nat.lt_succ_self _)
      ·
        refine ⟨_, rfl, (by decide), (by decide), ?_⟩
        refine ⟨_, rfl, (by decide), ?_⟩
        refine r_number_l hF hR h1 h2 h3 (fun r I' g1 g2 g3 g4 g5 g6 g7 g8 hv hA' => hQ _ _ g1 hA' (hv _ rfl) g2 g3 g4 g5 g6 g7 g8) _ 0 (I 235 6) (uI I 235 8 1) (Rg.u hR (Pr_f rfl)) (fun k j hk => (uI_o (by omega))) (show (0 : Int) ≤ (I 235 6) from by first | omega | (simp only [wr, wl] at *; omega)) (show ((I 235 6) : Int) ≤ 64 from by first | omega | (simp only [wr, wl] at *; omega)) (show (I 235 6) = I 235 6 from by first | omega | (simp only [wr, wl] at *; omega)) (show (I 235 7) = I 235 7 from by first | omega | (simp only [wr, wl] at *; omega)) (show (1 : Int) = 0 → (I 235 7) - (I 235 6) ≤ 4 ∧ (I 235 6) < (I 235 7) from by first | omega | (simp only [wr, wl] at *; omega)) (show ¬ (1 : Int) = 0 → (0 : Int) = 0 from by first | omega | (simp only [wr, wl] at *; omega)) (show (I 235 6) ≤ (I 235 6) from by first | omega | (simp only [wr, wl] at *; omega)) (show (I 235 6) ≤ (I 235 7) from by first | omega | (simp only [wr, wl] at *; omega)) (show (I 235 6) = (I 235 6) → (0 : Int) = 0 from by first | omega | (simp only [wr, wl] at *; omega)) (show (I 235 6) = (I 235 6) + 1 → -48 ≤ (0 : Int) ∧ (0 : Int) ≤ 207 from by first | omega | (simp only [wr, wl] at *; omega)) (show (I 235 6) = (I 235 6) + 2 → -528 ≤ (0 : Int) ∧ (0 : Int) ≤ 2277 from by first | omega | (simp only [wr, wl] at *; omega)) (show (I 235 6) = (I 235 6) + 3 → -5328 ≤ (0 : Int) ∧ (0 : Int) ≤ 22977 from by first | omega | (simp only [wr, wl] at *; omega)) (show (I 235 6) = (I 235 6) + 4 → -53328 ≤ (0 : Int) ∧ (0 : Int) ≤ 229977 from by first | omega | (simp only [wr, wl] at *; omega)) (Nat.lt_succ_self _)
    ·
      refine ⟨fun _ => ?_, fun c => absurd (show ((0 : Int) = 0) from by decide) c⟩
      refine ⟨rfl, (by decide), ?_⟩
      refine ⟨fun _ => ?_, fun c => absurd (show ((0 : Int) = 0) from by decide) c⟩
      refine ⟨_, rfl, (by decide), (by decide), ?_⟩
      refine ⟨_, rfl, (by decide), ?_⟩
      have r15 : 0 ≤ (I 235 7) ∧ (I 235 7) ≤ 64 := Rg.f7 hR
      have a16 : -2147483648 ≤ (I 235 7) ∧ (I 235 7) < 2147483648 := hA.1 _ _
      refine r_number_l hF hR h1 h2 h3 (fun r I' g1 g2 g3 g4 g5 g6 g7 g8 hv hA' => hQ _ _ g1 hA' (hv _ rfl) g2 g3 g4 g5 g6 g7 g8) _ 0 (I 235 6) (uI I 235 8 1) (Rg.u hR (Pr_f rfl)) (fun k j hk => (uI_o (by omega))) (show (0 : Int) ≤ (I 235 6) from by first | omega | (simp only [wr, wl] at *; omega)) (show ((I 235 6) : Int) ≤ 64 from by first | omega | (simp only [wr, wl] at *; omega)) (show (I 235 6) = I 235 6 from by first | omega | (simp only [wr, wl] at *; omega)) (show (I 235 7) = I 235 7 from by first | omega | (simp only [wr, wl] at *; omega)) (show (1 : Int) = 0 → (I 235 7) - (I 235 6) ≤ 4 ∧ (I 235 6) < (I 235 7) from by first | omega | (simp only [wr, wl] at *; omega)) (show ¬ (1 : Int) = 0 → (0 : Int) = 0 from by first | omega | (simp only [wr, wl] at *; omega)) (show (I 235 6) ≤ (I 235 6) from by first | omega | (simp only [wr, wl] at *; omega)) (show (I 235 6) ≤ (I 235 7) from by first | omega | (simp only [wr, wl] at *; omega)) (show (I 235 6) = (I 235 6) → (0 : Int) = 0 from by first | omega | (simp only [wr, wl] at *; omega)) (show (I 235 6) = (I 235 6) + 1 → -48 ≤ (0 : Int) ∧ (0 : Int) ≤ 207 from by first | omega | (simp only [wr, wl] at *; omega)) (show (I 235 6) = (I 235 6) + 2 → -528 ≤ (0 : Int) ∧ (0 : Int) ≤ 2277 from by first | omega | (simp only [wr, wl] at *; omega)) (show (I 235 6) = (I 235 6) + 3 → -5328 ≤ (0 : Int) ∧ (0 : Int) ≤ 22977 from by first | omega | (simp only [wr, wl] at *; omega)) (show (I 235 6) = (I 235 6) + 4 → -53328 ≤ (0 : Int) ∧ (0 : Int) ≤ 229977 from by first | omega | (simp only [wr, wl] at *; omega)) (Nat.lt_succ_self _)
theorem r_part (hF : FS F) (hR : Rg I) (h1 : I 235 6 ≤ I 235 7) (h2 : I 235 7 ≤ I 236 2) (h3 : I 235 6 < I 236 2 → I 235 6 < I 235 7) (h4 : I 235 9 ≤ 16) (hQ : ∀ (I' : pI), Rg I' → AR I' → (∀ k j, ¬ ((k = 235 ∧ (j = 6 ∨ j = 7 ∨ j = 8 ∨ j = 9)) ∨ k = 241) → I' k j = I k j) → ((I' 235 6) ≤ (I' 235 7)) → ((I' 235 7) ≤ (I 236 2)) → ((I' 235 6) < (I 236 2) → (I' 235 6) < (I' 235 7)) → ((I 235 6) ≤ (I' 235 6)) → ((I' 235 8) = 0 → (I' 235 9) = (I 235 9) + 1 ∧ (I 235 6) + 3 ≤ (I' 235 6)) → (¬ (I' 235 8) = 0 → (I' 235 9) = (I 235 9)) → Q none F I') : CallN G (d + 5) kX12_part [vr 235] NP F I Q := by
  refine CallN_in (fun hok hA => CallN_out ?_)
  have g2 := Rg.n2 hR (Or.inl rfl)
  refine Call_wp (lv := [some (vr 235), none, none]) (by decide) ckX12_part [] rfl rfl ?_
  refine ⟨fun c => absurd c (show (¬ ((5 : Int) < 0)) from by decide), fun _ => ?_⟩
  refine ⟨_, rfl, (by decide), ?_⟩
  refine fun w0 hw0 => ?_; obtain rfl : w0 = some 240 := hw0.symm.trans (FS.g hF rfl)
  refine ⟨_, _, (by decide), rfl, (by decide), (by decide), (by decide), ?_⟩
  refine fun w0 hw0 => ?_; obtain rfl : w0 = some 4115 := hw0.symm.trans (FS.g hF rfl)
  refine ⟨⟨_, rfl, (by decide)⟩, ?_⟩
  have r1 : 0 ≤ (I 235 6) ∧ (I 235 6) ≤ 64 := Rg.f6 hR
  have a2 : -2147483648 ≤ (I 235 6) ∧ (I 235 6) < 2147483648 := hA.1 _ _
  have r3 : 0 ≤ (I 235 7) ∧ (I 235 7) ≤ 64 := Rg.f7 hR
  have a4 : -2147483648 ≤ (I 235 7) ∧ (I 235 7) < 2147483648 := hA.1 _ _
  have r5 : 0 ≤ (I 236 2) ∧ (I 236 2) ≤ 64 := Rg.n2 hR
  have a6 : -2147483648 ≤ (I 236 2) ∧ (I 236 2) < 2147483648 := hA.1 _ _
  refine r_takes_9 hF hR (show (I 235 6) ≤ (I 235 7) from by first | omega | (simp only [wr, wl] at *; omega)) (show (I 235 7) ≤ (I 236 2) from by first | omega | (simp only [wr, wl] at *; omega)) (show (I 235 6) < (I 236 2) → (I 235 6) < (I 235 7) from by first | omega | (simp only [wr, wl] at *; omega)) (fun v7 I8 hR9 hA10 hr12 hW11 q13 q14 q15 q16 q17 q18 q19 => ?_)
  have hr12 : -2147483648 ≤ v7 ∧ v7 < 2147483648 := hr12
  refine ⟨fun (c20 : (¬ (v7 : Int) = 0)) => ?_, fun (c20 : ((v7 : Int) = 0)) => ?_⟩
  ·
    refine ⟨_, rfl, (by decide), ?_⟩
    have u21 : (I8 235 8) = (I 235 8) := hW11 _ _ (by first | omega | decide)
    have a22 : -2147483648 ≤ (I 235 8) ∧ (I 235 8) < 2147483648 := hA.1 _ _
    have a23 : -2147483648 ≤ (I8 235 8) ∧ (I8 235 8) < 2147483648 := hA10.1 _ _
    refine ⟨fun (c24 : (¬ ((I8 235 8) : Int) = 0)) => ?_, fun (c24 : (((I8 235 8) : Int) = 0)) => ?_⟩
    ·
      refine ⟨_, rfl, (by decide), (by decide), ?_⟩
      refine ⟨_, rfl, (by decide), ?_⟩
      refine ⟨fun _ => ?_, fun c => absurd c (show (¬ (1 : Int) = 0) from by decide)⟩
      refine ⟨_, rfl, (by decide), ?_⟩
      refine ⟨fun _ => ?_, fun c => absurd c (show (¬ (1 : Int) = 0) from by decide)⟩
      have r25 : 0 ≤ (I8 235 6) ∧ (I8 235 6) ≤ 64 := Rg.f6 hR9
      have a26 : -2147483648 ≤ (I8 235 6) ∧ (I8 235 6) < 2147483648 := hA10.1 _ _
      have r27 : 0 ≤ (I8 235 7) ∧ (I8 235 7) ≤ 64 := Rg.f7 hR9
      have a28 : -2147483648 ≤ (I8 235 7) ∧ (I8 235 7) < 2147483648 := hA10.1 _ _
      have r29 : 0 ≤ (I 235 9) ∧ (I 235 9) ≤ 17 := Rg.f9 hR
      have u30 : (I8 235 9) = (I 235 9) := hW11 _ _ (by first | omega | decide)
      have a31 : -2147483648 ≤ (I 235 9) ∧ (I 235 9) < 2147483648 := hA.1 _ _
      have a32 : -2147483648 ≤ (I8 235 9) ∧ (I8 235 9) < 2147483648 := hA10.1 _ _
      have r33 : 0 ≤ (I8 235 9) ∧ (I8 235 9) ≤ 17 := Rg.f9 hR9
      exact ⟨rfl, fun hv hA' => hQ _ (Rg.u hR9 (Pr_f rfl)) hA' (fun k j hk => ((uI_o (by omega))).trans ((hW11 k j (by omega)))) (show (I8 235 6) ≤ (I8 235 7) from by first | omega | (simp only [wr, wl] at *; omega)) (show (I8 235 7) ≤ (I 236 2) from by first | omega | (simp only [wr, wl] at *; omega)) (show (I8 235 6) < (I 236 2) → (I8 235 6) < (I8 235 7) from by first | omega | (simp only [wr, wl] at *; omega)) (show (I 235 6) ≤ (I8 235 6) from by first | omega | (simp only [wr, wl] at *; omega)) (show 1 = 0 → (I8 235 9) = (I 235 9) + 1 ∧ (I 235 6) + 3 ≤ (I8 235 6) from by first | omega | (simp only [wr, wl] at *; omega)) (show ¬ 1 = 0 → (I8 235 9) = (I 235 9) from by first | omega | (simp only [wr, wl] at *; omega))⟩
    ·
      refine ⟨fun _ => ?_, fun c => absurd (show ((0 : Int) ≤ 5) from by decide) c⟩
      refine ⟨_, rfl, (by decide), (by decide), ?_⟩
      refine ⟨_, rfl, (by decide), ?_⟩
      refine ⟨fun c => absurd (show ((0 : Int) = 0) from by decide) c, fun _ => ?_⟩
      refine ⟨fun _ => ?_, fun c => absurd c (show (¬ (0 : Int) = 4) from by decide)⟩
      refine ⟨⟨_, rfl, (by decide)⟩, ?_⟩
      have r34 : 0 ≤ (I8 235 6) ∧ (I8 235 6) ≤ 64 := Rg.f6 hR9
      have a35 : -2147483648 ≤ (I8 235 6) ∧ (I8 235 6) < 2147483648 := hA10.1 _ _
      have r36 : 0 ≤ (I8 235 7) ∧ (I8 235 7) ≤ 64 := Rg.f7 hR9
      have a37 : -2147483648 ≤ (I8 235 7) ∧ (I8 235 7) < 2147483648 := hA10.1 _ _
      have u38 : (I8 236 2) = (I 236 2) := hW11 _ _ (by first | omega | decide)
      have a39 : -2147483648 ≤ (I8 236 2) ∧ (I8 236 2) < 2147483648 := hA10.1 _ _
      have r40 : 0 ≤ (I8 236 2) ∧ (I8 236 2) ≤ 64 := Rg.n2 hR9
      refine r_number hF (Rg.u hR9 (Pr_f rfl)) (show (I8 235 6) ≤ (I8 235 7) from by first | omega | (simp only [wr, wl] at *; omega)) (show (I8 235 7) ≤ (I8 236 2) from by first | omega | (simp only [wr, wl] at *; omega)) (show (I8 235 6) < (I8 236 2) → (I8 235 6) < (I8 235 7) from by first | omega | (simp only [wr, wl] at *; omega)) (fun v41 I42 hR43 hA44 hr46 hW45 q47 q48 q49 q50 q51 q52 => ?_)
      have hr46 : -2147483648 ≤ v41 ∧ v41 < 2147483648 := hr46
      refine ⟨_, rfl, (by decide), ?_⟩
      have a53 : -2147483648 ≤ (I42 235 8) ∧ (I42 235 8) < 2147483648 := hA44.1 _ _
      refine ⟨fun (c54 : (¬ ((I42 235 8) : Int) = 0)) => ?_, fun (c54 : (((I42 235 8) : Int) = 0)) => ?_⟩
      ·
        have r55 : 0 ≤ (I42 235 6) ∧ (I42 235 6) ≤ 64 := Rg.f6 hR43
        have a56 : -2147483648 ≤ (I42 235 6) ∧ (I42 235 6) < 2147483648 := hA44.1 _ _
        have r57 : 0 ≤ (I42 235 7) ∧ (I42 235 7) ≤ 64 := Rg.f7 hR43
        have a58 : -2147483648 ≤ (I42 235 7) ∧ (I42 235 7) < 2147483648 := hA44.1 _ _
        have r59 : 0 ≤ (I 235 9) ∧ (I 235 9) ≤ 17 := Rg.f9 hR
        have u60 : (I8 235 9) = (I 235 9) := hW11 _ _ (by first | omega | decide)
        have a61 : -2147483648 ≤ (I 235 9) ∧ (I 235 9) < 2147483648 := hA.1 _ _
        have a62 : -2147483648 ≤ (I8 235 9) ∧ (I8 235 9) < 2147483648 := hA10.1 _ _
        have r63 : 0 ≤ (I8 235 9) ∧ (I8 235 9) ≤ 17 := Rg.f9 hR9
        have u64 : (I42 235 9) = ((uI I8 235 8 0) 235 9) := hW45 _ _ (by first | omega | decide)
        have u65 : ((uI I8 235 8 0) 235 9) = (I8 235 9) := rfl
        have a66 : -2147483648 ≤ (I42 235 9) ∧ (I42 235 9) < 2147483648 := hA44.1 _ _
        have r67 : 0 ≤ (I42 235 9) ∧ (I42 235 9) ≤ 17 := Rg.f9 hR43
        exact ⟨rfl, fun hv hA' => hQ _ hR43 hA' (fun k j hk => ((hW45 k j (by omega))).trans (((uI_o (by omega))).trans ((hW11 k j (by omega))))) (show (I42 235 6) ≤ (I42 235 7) from by first | omega | (simp only [wr, wl] at *; omega)) (show (I42 235 7) ≤ (I 236 2) from by first | omega | (simp only [wr, wl] at *; omega)) (show (I42 235 6) < (I 236 2) → (I42 235 6) < (I42 235 7) from by first | omega | (simp only [wr, wl] at *; omega)) (show (I 235 6) ≤ (I42 235 6) from by first | omega | (simp only [wr, wl] at *; omega)) (show (I42 235 8) = 0 → (I42 235 9) = (I 235 9) + 1 ∧ (I 235 6) + 3 ≤ (I42 235 6) from by first | omega | (simp only [wr, wl] at *; omega)) (show ¬ (I42 235 8) = 0 → (I42 235 9) = (I 235 9) from by first | omega | (simp only [wr, wl] at *; omega))⟩
      ·
        refine ⟨_, rfl, (by decide), ?_⟩
        refine fun w0 hw0 => ?_; obtain rfl : w0 = some 241 := hw0.symm.trans (FS.g hF rfl)
        refine ⟨_, rfl, (by decide), ?_⟩
        have r68 : 0 ≤ (I 235 9) ∧ (I 235 9) ≤ 17 := Rg.f9 hR
        have u69 : (I8 235 9) = (I 235 9) := hW11 _ _ (by first | omega | decide)
        have a70 : -2147483648 ≤ (I 235 9) ∧ (I 235 9) < 2147483648 := hA.1 _ _
        have a71 : -2147483648 ≤ (I8 235 9) ∧ (I8 235 9) < 2147483648 := hA10.1 _ _
        have r72 : 0 ≤ (I8 235 9) ∧ (I8 235 9) ≤ 17 := Rg.f9 hR9
        have u73 : (I42 235 9) = ((uI I8 235 8 0) 235 9) := hW45 _ _ (by first | omega | decide)
        have u74 : ((uI I8 235 8 0) 235 9) = (I8 235 9) := rfl
        have a75 : -2147483648 ≤ (I42 235 9) ∧ (I42 235 9) < 2147483648 := hA44.1 _ _
        have r76 : 0 ≤ (I42 235 9) ∧ (I42 235 9) ≤ 17 := Rg.f9 hR43
        have n77 : (wr (2 * (I42 235 9))) = 2 * (I42 235 9) := wr_id (show -2147483648 ≤ (2 * (I42 235 9) : Int) ∧ (2 * (I42 235 9) : Int) < 2147483648 from by omega)
        have n78 : (wr (2 + (wr (2 * (I42 235 9))))) = 2 + (wr (2 * (I42 235 9))) := wr_id (show -2147483648 ≤ (2 + (wr (2 * (I42 235 9))) : Int) ∧ (2 + (wr (2 * (I42 235 9))) : Int) < 2147483648 from by omega)
        refine ⟨_, rfl, (by decide), (show (0 : Int) ≤ (wr (2 + (wr (2 * (I42 235 9))))) from by first | omega | (simp only [wr, wl] at *; omega)), (show (wr (2 + (wr (2 * (I42 235 9))))) < (36 : Int) from by first | omega | (simp only [wr, wl] at *; omega)), ?_⟩
        have p79 : Pn (40 + (Int.toNat (wr (2 + (wr (2 * (I42 235 9))))))) 0 := by apply Pn_w <;> omega
        refine ⟨_, rfl, (by decide), ?_⟩
        refine fun w0 hw0 => ?_; obtain rfl : w0 = some 241 := hw0.symm.trans (FS.g hF rfl)
        refine ⟨_, rfl, (by decide), ?_⟩
        have n80 : (wr ((wr (2 + (wr (2 * (I42 235 9))))) + 1)) = (wr (2 + (wr (2 * (I42 235 9))))) + 1 := wr_id (show -2147483648 ≤ ((wr (2 + (wr (2 * (I42 235 9))))) + 1 : Int) ∧ ((wr (2 + (wr (2 * (I42 235 9))))) + 1 : Int) < 2147483648 from by omega)
        refine ⟨_, rfl, (by decide), (show (0 : Int) ≤ (wr ((wr (2 + (wr (2 * (I42 235 9))))) + 1)) from by first | omega | (simp only [wr, wl] at *; omega)), (show (wr ((wr (2 + (wr (2 * (I42 235 9))))) + 1)) < (36 : Int) from by first | omega | (simp only [wr, wl] at *; omega)), ?_⟩
        have p81 : Pn (40 + (Int.toNat (wr ((wr (2 + (wr (2 * (I42 235 9))))) + 1)))) v41 := by apply Pn_w <;> omega
        refine ⟨_, rfl, (by decide), ?_⟩
        refine ⟨_, rfl, (by decide), ?_⟩
        have n82 : (wr ((I42 235 9) + 1)) = (I42 235 9) + 1 := wr_id (show -2147483648 ≤ ((I42 235 9) + 1 : Int) ∧ ((I42 235 9) + 1 : Int) < 2147483648 from by omega)
        have p83 : (0 : Int) ≤ (wr ((I42 235 9) + 1)) ∧ ((wr ((I42 235 9) + 1)) : Int) ≤ 17 := by first | omega | (simp only [wr, wl] at *; omega)
        have r84 : 0 ≤ (I42 235 6) ∧ (I42 235 6) ≤ 64 := Rg.f6 hR43
        have a85 : -2147483648 ≤ (I42 235 6) ∧ (I42 235 6) < 2147483648 := hA44.1 _ _
        have r86 : 0 ≤ (I42 235 7) ∧ (I42 235 7) ≤ 64 := Rg.f7 hR43
        have a87 : -2147483648 ≤ (I42 235 7) ∧ (I42 235 7) < 2147483648 := hA44.1 _ _
        exact ⟨rfl, fun hv hA' => hQ _ (Rg.u (Rg.u (Rg.u hR43 (Pr_r p79)) (Pr_r p81)) (Pr_x9 p83)) hA' (fun k j hk => ((uI_o (by omega))).trans (((uI_o (by omega))).trans (((uI_o (by omega))).trans (((hW45 k j (by omega))).trans (((uI_o (by omega))).trans ((hW11 k j (by omega)))))))) (show (I42 235 6) ≤ (I42 235 7) from by first | omega | (simp only [wr, wl] at *; omega)) (show (I42 235 7) ≤ (I 236 2) from by first | omega | (simp only [wr, wl] at *; omega)) (show (I42 235 6) < (I 236 2) → (I42 235 6) < (I42 235 7) from by first | omega | (simp only [wr, wl] at *; omega)) (show (I 235 6) ≤ (I42 235 6) from by first | omega | (simp only [wr, wl] at *; omega)) (show (I42 235 8) = 0 → (wr ((I42 235 9) + 1)) = (I 235 9) + 1 ∧ (I 235 6) + 3 ≤ (I42 235 6) from by first | omega | (simp only [wr, wl] at *; omega)) (show ¬ (I42 235 8) = 0 → (wr ((I42 235 9) + 1)) = (I 235 9) from by first | omega | (simp only [wr, wl] at *; omega))⟩
  ·
    refine ⟨fun c => absurd c (show (¬ ((5 : Int) < 1)) from by decide), fun _ => ?_⟩
    refine ⟨_, rfl, (by decide), ?_⟩
    refine fun w0 hw0 => ?_; obtain rfl : w0 = some 240 := hw0.symm.trans (FS.g hF rfl)
    refine ⟨_, _, (by decide), rfl, (by decide), (by decide), (by decide), ?_⟩
    refine fun w0 hw0 => ?_; obtain rfl : w0 = some 4116 := hw0.symm.trans (FS.g hF rfl)
    refine ⟨⟨_, rfl, (by decide)⟩, ?_⟩
    have r88 : 0 ≤ (I8 235 6) ∧ (I8 235 6) ≤ 64 := Rg.f6 hR9
    have a89 : -2147483648 ≤ (I8 235 6) ∧ (I8 235 6) < 2147483648 := hA10.1 _ _
    have r90 : 0 ≤ (I8 235 7) ∧ (I8 235 7) ≤ 64 := Rg.f7 hR9
    have a91 : -2147483648 ≤ (I8 235 7) ∧ (I8 235 7) < 2147483648 := hA10.1 _ _
    have u92 : (I8 236 2) = (I 236 2) := hW11 _ _ (by first | omega | decide)
    have a93 : -2147483648 ≤ (I8 236 2) ∧ (I8 236 2) < 2147483648 := hA10.1 _ _
    have r94 : 0 ≤ (I8 236 2) ∧ (I8 236 2) ≤ 64 := Rg.n2 hR9
    refine r_takes_10 hF hR9 (show (I8 235 6) ≤ (I8 235 7) from by first | omega | (simp only [wr, wl] at *; omega)) (show (I8 235 7) ≤ (I8 236 2) from by first | omega | (simp only [wr, wl] at *; omega)) (show (I8 235 6) < (I8 236 2) → (I8 235 6) < (I8 235 7) from by first | omega | (simp only [wr, wl] at *; omega)) (fun v95 I96 hR97 hA98 hr100 hW99 q101 q102 q103 q104 q105 q106 q107 => ?_)
    have hr100 : -2147483648 ≤ v95 ∧ v95 < 2147483648 := hr100
    refine ⟨fun (c108 : (¬ (v95 : Int) = 0)) => ?_, fun (c108 : ((v95 : Int) = 0)) => ?_⟩
    ·
      refine ⟨_, rfl, (by decide), ?_⟩
      have u109 : (I8 235 8) = (I 235 8) := hW11 _ _ (by first | omega | decide)
      have a110 : -2147483648 ≤ (I 235 8) ∧ (I 235 8) < 2147483648 := hA.1 _ _
      have a111 : -2147483648 ≤ (I8 235 8) ∧ (I8 235 8) < 2147483648 := hA10.1 _ _
      have u112 : (I96 235 8) = (I8 235 8) := hW99 _ _ (by first | omega | decide)
      have a113 : -2147483648 ≤ (I96 235 8) ∧ (I96 235 8) < 2147483648 := hA98.1 _ _
      refine ⟨fun (c114 : (¬ ((I96 235 8) : Int) = 0)) => ?_, fun (c114 : (((I96 235 8) : Int) = 0)) => ?_⟩
      ·
        refine ⟨_, rfl, (by decide), (by decide), ?_⟩
        refine ⟨_, rfl, (by decide), ?_⟩
        refine ⟨fun _ => ?_, fun c => absurd c (show (¬ (1 : Int) = 0) from by decide)⟩
        refine ⟨_, rfl, (by decide), ?_⟩
        refine ⟨fun _ => ?_, fun c => absurd c (show (¬ (1 : Int) = 0) from by decide)⟩
        have r115 : 0 ≤ (I96 235 6) ∧ (I96 235 6) ≤ 64 := Rg.f6 hR97
        have a116 : -2147483648 ≤ (I96 235 6) ∧ (I96 235 6) < 2147483648 := hA98.1 _ _
        have r117 : 0 ≤ (I96 235 7) ∧ (I96 235 7) ≤ 64 := Rg.f7 hR97
        have a118 : -2147483648 ≤ (I96 235 7) ∧ (I96 235 7) < 2147483648 := hA98.1 _ _
        have r119 : 0 ≤ (I 235 9) ∧ (I 235 9) ≤ 17 := Rg.f9 hR
        have u120 : (I8 235 9) = (I 235 9) := hW11 _ _ (by first | omega | decide)
        have a121 : -2147483648 ≤ (I 235 9) ∧ (I 235 9) < 2147483648 := hA.1 _ _
        have a122 : -2147483648 ≤ (I8 235 9) ∧ (I8 235 9) < 2147483648 := hA10.1 _ _
        have r123 : 0 ≤ (I8 235 9) ∧ (I8 235 9) ≤ 17 := Rg.f9 hR9
        have u124 : (I96 235 9) = (I8 235 9) := hW99 _ _ (by first | omega | decide)
        have a125 : -2147483648 ≤ (I96 235 9) ∧ (I96 235 9) < 2147483648 := hA98.1 _ _
        have r126 : 0 ≤ (I96 235 9) ∧ (I96 235 9) ≤ 17 := Rg.f9 hR97
        exact ⟨rfl, fun hv hA' => hQ _ (Rg.u hR97 (Pr_f rfl)) hA' (fun k j hk => ((uI_o (by omega))).trans (((hW99 k j (by omega))).trans ((hW11 k j (by omega))))) (show (I96 235 6) ≤ (I96 235 7) from by first | omega | (simp only [wr, wl] at *; omega)) (show (I96 235 7) ≤ (I 236 2) from by first | omega | (simp only [wr, wl] at *; omega)) (show (I96 235 6) < (I 236 2) → (I96 235 6) < (I96 235 7) from by first | omega | (simp only [wr, wl] at *; omega)) (show (I 235 6) ≤ (I96 235 6) from by first | omega | (simp only [wr, wl] at *; omega)) (show 1 = 0 → (I96 235 9) = (I 235 9) + 1 ∧ (I 235 6) + 3 ≤ (I96 235 6) from by first | omega | (simp only [wr, wl] at *; omega)) (show ¬ 1 = 0 → (I96 235 9) = (I 235 9) from by first | omega | (simp only [wr, wl] at *; omega))⟩
      ·
        refine ⟨fun _ => ?_, fun c => absurd (show ((1 : Int) ≤ 5) from by decide) c⟩
        refine ⟨_, rfl, (by decide), (by decide), ?_⟩
        refine ⟨_, rfl, (by decide), ?_⟩
        refine ⟨fun c => absurd (show ((0 : Int) = 0) from by decide) c, fun _ => ?_⟩
        refine ⟨fun _ => ?_, fun c => absurd c (show (¬ (1 : Int) = 4) from by decide)⟩
        refine ⟨⟨_, rfl, (by decide)⟩, ?_⟩
        have r127 : 0 ≤ (I96 235 6) ∧ (I96 235 6) ≤ 64 := Rg.f6 hR97
        have a128 : -2147483648 ≤ (I96 235 6) ∧ (I96 235 6) < 2147483648 := hA98.1 _ _
        have r129 : 0 ≤ (I96 235 7) ∧ (I96 235 7) ≤ 64 := Rg.f7 hR97
        have a130 : -2147483648 ≤ (I96 235 7) ∧ (I96 235 7) < 2147483648 := hA98.1 _ _
        have u131 : (I96 236 2) = (I8 236 2) := hW99 _ _ (by first | omega | decide)
        have a132 : -2147483648 ≤ (I96 236 2) ∧ (I96 236 2) < 2147483648 := hA98.1 _ _
        have r133 : 0 ≤ (I96 236 2) ∧ (I96 236 2) ≤ 64 := Rg.n2 hR97
        refine r_number hF (Rg.u hR97 (Pr_f rfl)) (show (I96 235 6) ≤ (I96 235 7) from by first | omega | (simp only [wr, wl] at *; omega)) (show (I96 235 7) ≤ (I96 236 2) from by first | omega | (simp only [wr, wl] at *; omega)) (show (I96 235 6) < (I96 236 2) → (I96 235 6) < (I96 235 7) from by first | omega | (simp only [wr, wl] at *; omega)) (fun v134 I135 hR136 hA137 hr139 hW138 q140 q141 q142 q143 q144 q145 => ?_)
        have hr139 : -2147483648 ≤ v134 ∧ v134 < 2147483648 := hr139
        refine ⟨_, rfl, (by decide), ?_⟩
        have a146 : -2147483648 ≤ (I135 235 8) ∧ (I135 235 8) < 2147483648 := hA137.1 _ _
        refine ⟨fun (c147 : (¬ ((I135 235 8) : Int) = 0)) => ?_, fun (c147 : (((I135 235 8) : Int) = 0)) => ?_⟩
        ·
          have r148 : 0 ≤ (I135 235 6) ∧ (I135 235 6) ≤ 64 := Rg.f6 hR136
          have a149 : -2147483648 ≤ (I135 235 6) ∧ (I135 235 6) < 2147483648 := hA137.1 _ _
          have r150 : 0 ≤ (I135 235 7) ∧ (I135 235 7) ≤ 64 := Rg.f7 hR136
          have a151 : -2147483648 ≤ (I135 235 7) ∧ (I135 235 7) < 2147483648 := hA137.1 _ _
          have r152 : 0 ≤ (I 235 9) ∧ (I 235 9) ≤ 17 := Rg.f9 hR
          have u153 : (I8 235 9) = (I 235 9) := hW11 _ _ (by first | omega | decide)
          have a154 : -2147483648 ≤ (I 235 9) ∧ (I 235 9) < 2147483648 := hA.1 _ _
          have a155 : -2147483648 ≤ (I8 235 9) ∧ (I8 235 9) < 2147483648 := hA10.1 _ _
          have r156 : 0 ≤ (I8 235 9) ∧ (I8 235 9) ≤ 17 := Rg.f9 hR9
          have u157 : (I96 235 9) = (I8 235 9) := hW99 _ _ (by first | omega | decide)
          have a158 : -2147483648 ≤ (I96 235 9) ∧ (I96 235 9) < 2147483648 := hA98.1 _ _
          have r159 : 0 ≤ (I96 235 9) ∧ (I96 235 9) ≤ 17 := Rg.f9 hR97
          have u160 : (I135 235 9) = ((uI I96 235 8 0) 235 9) := hW138 _ _ (by first | omega | decide)
          have u161 : ((uI I96 235 8 0) 235 9) = (I96 235 9) := rfl
          have a162 : -2147483648 ≤ (I135 235 9) ∧ (I135 235 9) < 2147483648 := hA137.1 _ _
          have r163 : 0 ≤ (I135 235 9) ∧ (I135 235 9) ≤ 17 := Rg.f9 hR136
          exact ⟨rfl, fun hv hA' => hQ _ hR136 hA' (fun k j hk => ((hW138 k j (by omega))).trans (((uI_o (by omega))).trans (((hW99 k j (by omega))).trans ((hW11 k j (by omega)))))) (show (I135 235 6) ≤ (I135 235 7) from by first | omega | (simp only [wr, wl] at *; omega)) (show (I135 235 7) ≤ (I 236 2) from by first | omega | (simp only [wr, wl] at *; omega)) (show (I135 235 6) < (I 236 2) → (I135 235 6) < (I135 235 7) from by first | omega | (simp only [wr, wl] at *; omega)) (show (I 235 6) ≤ (I135 235 6) from by first | omega | (simp only [wr, wl] at *; omega)) (show (I135 235 8) = 0 → (I135 235 9) = (I 235 9) + 1 ∧ (I 235 6) + 3 ≤ (I135 235 6) from by first | omega | (simp only [wr, wl] at *; omega)) (show ¬ (I135 235 8) = 0 → (I135 235 9) = (I 235 9) from by first | omega | (simp only [wr, wl] at *; omega))⟩
        ·
          refine ⟨_, rfl, (by decide), ?_⟩
          refine fun w0 hw0 => ?_; obtain rfl : w0 = some 241 := hw0.symm.trans (FS.g hF rfl)
          refine ⟨_, rfl, (by decide), ?_⟩
          have r164 : 0 ≤ (I 235 9) ∧ (I 235 9) ≤ 17 := Rg.f9 hR
          have u165 : (I8 235 9) = (I 235 9) := hW11 _ _ (by first | omega | decide)
          have a166 : -2147483648 ≤ (I 235 9) ∧ (I 235 9) < 2147483648 := hA.1 _ _
          have a167 : -2147483648 ≤ (I8 235 9) ∧ (I8 235 9) < 2147483648 := hA10.1 _ _
          have r168 : 0 ≤ (I8 235 9) ∧ (I8 235 9) ≤ 17 := Rg.f9 hR9
          have u169 : (I96 235 9) = (I8 235 9) := hW99 _ _ (by first | omega | decide)
          have a170 : -2147483648 ≤ (I96 235 9) ∧ (I96 235 9) < 2147483648 := hA98.1 _ _
          have r171 : 0 ≤ (I96 235 9) ∧ (I96 235 9) ≤ 17 := Rg.f9 hR97
          have u172 : (I135 235 9) = ((uI I96 235 8 0) 235 9) := hW138 _ _ (by first | omega | decide)
          have u173 : ((uI I96 235 8 0) 235 9) = (I96 235 9) := rfl
          have a174 : -2147483648 ≤ (I135 235 9) ∧ (I135 235 9) < 2147483648 := hA137.1 _ _
          have r175 : 0 ≤ (I135 235 9) ∧ (I135 235 9) ≤ 17 := Rg.f9 hR136
          have n176 : (wr (2 * (I135 235 9))) = 2 * (I135 235 9) := wr_id (show -2147483648 ≤ (2 * (I135 235 9) : Int) ∧ (2 * (I135 235 9) : Int) < 2147483648 from by omega)
          have n177 : (wr (2 + (wr (2 * (I135 235 9))))) = 2 + (wr (2 * (I135 235 9))) := wr_id (show -2147483648 ≤ (2 + (wr (2 * (I135 235 9))) : Int) ∧ (2 + (wr (2 * (I135 235 9))) : Int) < 2147483648 from by omega)
          refine ⟨_, rfl, (by decide), (show (0 : Int) ≤ (wr (2 + (wr (2 * (I135 235 9))))) from by first | omega | (simp only [wr, wl] at *; omega)), (show (wr (2 + (wr (2 * (I135 235 9))))) < (36 : Int) from by first | omega | (simp only [wr, wl] at *; omega)), ?_⟩
          have p178 : Pn (40 + (Int.toNat (wr (2 + (wr (2 * (I135 235 9))))))) 1 := by apply Pn_w <;> omega
          refine ⟨_, rfl, (by decide), ?_⟩
          refine fun w0 hw0 => ?_; obtain rfl : w0 = some 241 := hw0.symm.trans (FS.g hF rfl)
          refine ⟨_, rfl, (by decide), ?_⟩
          have n179 : (wr ((wr (2 + (wr (2 * (I135 235 9))))) + 1)) = (wr (2 + (wr (2 * (I135 235 9))))) + 1 := wr_id (show -2147483648 ≤ ((wr (2 + (wr (2 * (I135 235 9))))) + 1 : Int) ∧ ((wr (2 + (wr (2 * (I135 235 9))))) + 1 : Int) < 2147483648 from by omega)
          refine ⟨_, rfl, (by decide), (show (0 : Int) ≤ (wr ((wr (2 + (wr (2 * (I135 235 9))))) + 1)) from by first | omega | (simp only [wr, wl] at *; omega)), (show (wr ((wr (2 + (wr (2 * (I135 235 9))))) + 1)) < (36 : Int) from by first | omega | (simp only [wr, wl] at *; omega)), ?_⟩
          have p180 : Pn (40 + (Int.toNat (wr ((wr (2 + (wr (2 * (I135 235 9))))) + 1)))) v134 := by apply Pn_w <;> omega
          refine ⟨_, rfl, (by decide), ?_⟩
          refine ⟨_, rfl, (by decide), ?_⟩
          have n181 : (wr ((I135 235 9) + 1)) = (I135 235 9) + 1 := wr_id (show -2147483648 ≤ ((I135 235 9) + 1 : Int) ∧ ((I135 235 9) + 1 : Int) < 2147483648 from by omega)
          have p182 : (0 : Int) ≤ (wr ((I135 235 9) + 1)) ∧ ((wr ((I135 235 9) + 1)) : Int) ≤ 17 := by first | omega | (simp only [wr, wl] at *; omega)
          have r183 : 0 ≤ (I135 235 6) ∧ (I135 235 6) ≤ 64 := Rg.f6 hR136
          have a184 : -2147483648 ≤ (I135 235 6) ∧ (I135 235 6) < 2147483648 := hA137.1 _ _
          have r185 : 0 ≤ (I135 235 7) ∧ (I135 235 7) ≤ 64 := Rg.f7 hR136
          have a186 : -2147483648 ≤ (I135 235 7) ∧ (I135 235 7) < 2147483648 := hA137.1 _ _
          exact ⟨rfl, fun hv hA' => hQ _ (Rg.u (Rg.u (Rg.u hR136 (Pr_r p178)) (Pr_r p180)) (Pr_x9 p182)) hA' (fun k j hk => ((uI_o (by omega))).trans (((uI_o (by omega))).trans (((uI_o (by omega))).trans (((hW138 k j (by omega))).trans (((uI_o (by omega))).trans (((hW99 k j (by omega))).trans ((hW11 k j (by omega))))))))) (show (I135 235 6) ≤ (I135 235 7) from by first | omega | (simp only [wr, wl] at *; omega)) (show (I135 235 7) ≤ (I 236 2) from by first | omega | (simp only [wr, wl] at *; omega)) (show (I135 235 6) < (I 236 2) → (I135 235 6) < (I135 235 7) from by first | omega | (simp only [wr, wl] at *; omega)) (show (I 235 6) ≤ (I135 235 6) from by first | omega | (simp only [wr, wl] at *; omega)) (show (I135 235 8) = 0 → (wr ((I135 235 9) + 1)) = (I 235 9) + 1 ∧ (I 235 6) + 3 ≤ (I135 235 6) from by first | omega | (simp only [wr, wl] at *; omega)) (show ¬ (I135 235 8) = 0 → (wr ((I135 235 9) + 1)) = (I 235 9) from by first | omega | (simp only [wr, wl] at *; omega))⟩
    ·
      refine ⟨fun c => absurd c (show (¬ ((5 : Int) < 2)) from by decide), fun _ => ?_⟩
      refine ⟨_, rfl, (by decide), ?_⟩
      refine fun w0 hw0 => ?_; obtain rfl : w0 = some 240 := hw0.symm.trans (FS.g hF rfl)
      refine ⟨_, _, (by decide), rfl, (by decide), (by decide), (by decide), ?_⟩
      refine fun w0 hw0 => ?_; obtain rfl : w0 = some 4117 := hw0.symm.trans (FS.g hF rfl)
      refine ⟨⟨_, rfl, (by decide)⟩, ?_⟩
      have r187 : 0 ≤ (I96 235 6) ∧ (I96 235 6) ≤ 64 := Rg.f6 hR97
      have a188 : -2147483648 ≤ (I96 235 6) ∧ (I96 235 6) < 2147483648 := hA98.1 _ _
      have r189 : 0 ≤ (I96 235 7) ∧ (I96 235 7) ≤ 64 := Rg.f7 hR97
      have a190 : -2147483648 ≤ (I96 235 7) ∧ (I96 235 7) < 2147483648 := hA98.1 _ _
      have u191 : (I96 236 2) = (I8 236 2) := hW99 _ _ (by first | omega | decide)
      have a192 : -2147483648 ≤ (I96 236 2) ∧ (I96 236 2) < 2147483648 := hA98.1 _ _
      have r193 : 0 ≤ (I96 236 2) ∧ (I96 236 2) ≤ 64 := Rg.n2 hR97
      refine r_takes_11 hF hR97 (show (I96 235 6) ≤ (I96 235 7) from by first | omega | (simp only [wr, wl] at *; omega)) (show (I96 235 7) ≤ (I96 236 2) from by first | omega | (simp only [wr, wl] at *; omega)) (show (I96 235 6) < (I96 236 2) → (I96 235 6) < (I96 235 7) from by first | omega | (simp only [wr, wl] at *; omega)) (fun v194 I195 hR196 hA197 hr199 hW198 q200 q201 q202 q203 q204 q205 q206 => ?_)
      have hr199 : -2147483648 ≤ v194 ∧ v194 < 2147483648 := hr199
      refine ⟨fun (c207 : (¬ (v194 : Int) = 0)) => ?_, fun (c207 : ((v194 : Int) = 0)) => ?_⟩
      ·
        refine ⟨_, rfl, (by decide), ?_⟩
        have u208 : (I8 235 8) = (I 235 8) := hW11 _ _ (by first | omega | decide)
        have a209 : -2147483648 ≤ (I 235 8) ∧ (I 235 8) < 2147483648 := hA.1 _ _
        have a210 : -2147483648 ≤ (I8 235 8) ∧ (I8 235 8) < 2147483648 := hA10.1 _ _
        have u211 : (I96 235 8) = (I8 235 8) := hW99 _ _ (by first | omega | decide)
        have a212 : -2147483648 ≤ (I96 235 8) ∧ (I96 235 8) < 2147483648 := hA98.1 _ _
        have u213 : (I195 235 8) = (I96 235 8) := hW198 _ _ (by first | omega | decide)
        have a214 : -2147483648 ≤ (I195 235 8) ∧ (I195 235 8) < 2147483648 := hA197.1 _ _
        refine ⟨fun (c215 : (¬ ((I195 235 8) : Int) = 0)) => ?_, fun (c215 : (((I195 235 8) : Int) = 0)) => ?_⟩
        ·
          refine ⟨_, rfl, (by decide), (by decide), ?_⟩
          refine ⟨_, rfl, (by decide), ?_⟩
          refine ⟨fun _ => ?_, fun c => absurd c (show (¬ (1 : Int) = 0) from by decide)⟩
          refine ⟨_, rfl, (by decide), ?_⟩
          refine ⟨fun _ => ?_, fun c => absurd c (show (¬ (1 : Int) = 0) from by decide)⟩
          have r216 : 0 ≤ (I195 235 6) ∧ (I195 235 6) ≤ 64 := Rg.f6 hR196
          have a217 : -2147483648 ≤ (I195 235 6) ∧ (I195 235 6) < 2147483648 := hA197.1 _ _
          have r218 : 0 ≤ (I195 235 7) ∧ (I195 235 7) ≤ 64 := Rg.f7 hR196
          have a219 : -2147483648 ≤ (I195 235 7) ∧ (I195 235 7) < 2147483648 := hA197.1 _ _
          have r220 : 0 ≤ (I 235 9) ∧ (I 235 9) ≤ 17 := Rg.f9 hR
          have u221 : (I8 235 9) = (I 235 9) := hW11 _ _ (by first | omega | decide)
          have a222 : -2147483648 ≤ (I 235 9) ∧ (I 235 9) < 2147483648 := hA.1 _ _
          have a223 : -2147483648 ≤ (I8 235 9) ∧ (I8 235 9) < 2147483648 := hA10.1 _ _
          have r224 : 0 ≤ (I8 235 9) ∧ (I8 235 9) ≤ 17 := Rg.f9 hR9
          have u225 : (I96 235 9) = (I8 235 9) := hW99 _ _ (by first | omega | decide)
          have a226 : -2147483648 ≤ (I96 235 9) ∧ (I96 235 9) < 2147483648 := hA98.1 _ _
          have r227 : 0 ≤ (I96 235 9) ∧ (I96 235 9) ≤ 17 := Rg.f9 hR97
          have u228 : (I195 235 9) = (I96 235 9) := hW198 _ _ (by first | omega | decide)
          have a229 : -2147483648 ≤ (I195 235 9) ∧ (I195 235 9) < 2147483648 := hA197.1 _ _
          have r230 : 0 ≤ (I195 235 9) ∧ (I195 235 9) ≤ 17 := Rg.f9 hR196
          exact ⟨rfl, fun hv hA' => hQ _ (Rg.u hR196 (Pr_f rfl)) hA' (fun k j hk => ((uI_o (by omega))).trans (((hW198 k j (by omega))).trans (((hW99 k j (by omega))).trans ((hW11 k j (by omega)))))) (show (I195 235 6) ≤ (I195 235 7) from by first | omega | (simp only [wr, wl] at *; omega)) (show (I195 235 7) ≤ (I 236 2) from by first | omega | (simp only [wr, wl] at *; omega)) (show (I195 235 6) < (I 236 2) → (I195 235 6) < (I195 235 7) from by first | omega | (simp only [wr, wl] at *; omega)) (show (I 235 6) ≤ (I195 235 6) from by first | omega | (simp only [wr, wl] at *; omega)) (show 1 = 0 → (I195 235 9) = (I 235 9) + 1 ∧ (I 235 6) + 3 ≤ (I195 235 6) from by first | omega | (simp only [wr, wl] at *; omega)) (show ¬ 1 = 0 → (I195 235 9) = (I 235 9) from by first | omega | (simp only [wr, wl] at *; omega))⟩
        ·
          refine ⟨fun _ => ?_, fun c => absurd (show ((2 : Int) ≤ 5) from by decide) c⟩
          refine ⟨_, rfl, (by decide), (by decide), ?_⟩
          refine ⟨_, rfl, (by decide), ?_⟩
          refine ⟨fun c => absurd (show ((0 : Int) = 0) from by decide) c, fun _ => ?_⟩
          refine ⟨fun _ => ?_, fun c => absurd c (show (¬ (2 : Int) = 4) from by decide)⟩
          refine ⟨⟨_, rfl, (by decide)⟩, ?_⟩
          have r231 : 0 ≤ (I195 235 6) ∧ (I195 235 6) ≤ 64 := Rg.f6 hR196
          have a232 : -2147483648 ≤ (I195 235 6) ∧ (I195 235 6) < 2147483648 := hA197.1 _ _
          have r233 : 0 ≤ (I195 235 7) ∧ (I195 235 7) ≤ 64 := Rg.f7 hR196
          have a234 : -2147483648 ≤ (I195 235 7) ∧ (I195 235 7) < 2147483648 := hA197.1 _ _
          have u235 : (I195 236 2) = (I96 236 2) := hW198 _ _ (by first | omega | decide)
          have a236 : -2147483648 ≤ (I195 236 2) ∧ (I195 236 2) < 2147483648 := hA197.1 _ _
          have r237 : 0 ≤ (I195 236 2) ∧ (I195 236 2) ≤ 64 := Rg.n2 hR196
          refine r_number hF (Rg.u hR196 (Pr_f rfl)) (show (I195 235 6) ≤ (I195 235 7) from by first | omega | (simp only [wr, wl] at *; omega)) (show (I195 235 7) ≤ (I195 236 2) from by first | omega | (simp only [wr, wl] at *; omega)) (show (I195 235 6) < (I195 236 2) → (I195 235 6) < (I195 235 7) from by first | omega | (simp only [wr, wl] at *; omega)) (fun v238 I239 hR240 hA241 hr243 hW242 q244 q245 q246 q247 q248 q249 => ?_)
          have hr243 : -2147483648 ≤ v238 ∧ v238 < 2147483648 := hr243
          refine ⟨_, rfl, (by decide), ?_⟩
          have a250 : -2147483648 ≤ (I239 235 8) ∧ (I239 235 8) < 2147483648 := hA241.1 _ _
          refine ⟨fun (c251 : (¬ ((I239 235 8) : Int) = 0)) => ?_, fun (c251 : (((I239 235 8) : Int) = 0)) => ?_⟩
          ·
            have r252 : 0 ≤ (I239 235 6) ∧ (I239 235 6) ≤ 64 := Rg.f6 hR240
            have a253 : -2147483648 ≤ (I239 235 6) ∧ (I239 235 6) < 2147483648 := hA241.1 _ _
            have r254 : 0 ≤ (I239 235 7) ∧ (I239 235 7) ≤ 64 := Rg.f7 hR240
            have a255 : -2147483648 ≤ (I239 235 7) ∧ (I239 235 7) < 2147483648 := hA241.1 _ _
            have r256 : 0 ≤ (I 235 9) ∧ (I 235 9) ≤ 17 := Rg.f9 hR
            have u257 : (I8 235 9) = (I 235 9) := hW11 _ _ (by first | omega | decide)
            have a258 : -2147483648 ≤ (I 235 9) ∧ (I 235 9) < 2147483648 := hA.1 _ _
            have a259 : -2147483648 ≤ (I8 235 9) ∧ (I8 235 9) < 2147483648 := hA10.1 _ _
            have r260 : 0 ≤ (I8 235 9) ∧ (I8 235 9) ≤ 17 := Rg.f9 hR9
            have u261 : (I96 235 9) = (I8 235 9) := hW99 _ _ (by first | omega | decide)
            have a262 : -2147483648 ≤ (I96 235 9) ∧ (I96 235 9) < 2147483648 := hA98.1 _ _
            have r263 : 0 ≤ (I96 235 9) ∧ (I96 235 9) ≤ 17 := Rg.f9 hR97
            have u264 : (I195 235 9) = (I96 235 9) := hW198 _ _ (by first | omega | decide)
            have a265 : -2147483648 ≤ (I195 235 9) ∧ (I195 235 9) < 2147483648 := hA197.1 _ _
            have r266 : 0 ≤ (I195 235 9) ∧ (I195 235 9) ≤ 17 := Rg.f9 hR196
            have u267 : (I239 235 9) = ((uI I195 235 8 0) 235 9) := hW242 _ _ (by first | omega | decide)
            have u268 : ((uI I195 235 8 0) 235 9) = (I195 235 9) := rfl
            have a269 : -2147483648 ≤ (I239 235 9) ∧ (I239 235 9) < 2147483648 := hA241.1 _ _
            have r270 : 0 ≤ (I239 235 9) ∧ (I239 235 9) ≤ 17 := Rg.f9 hR240
            exact ⟨rfl, fun hv hA' => hQ _ hR240 hA' (fun k j hk => ((hW242 k j (by omega))).trans (((uI_o (by omega))).trans (((hW198 k j (by omega))).trans (((hW99 k j (by omega))).trans ((hW11 k j (by omega))))))) (show (I239 235 6) ≤ (I239 235 7) from by first | omega | (simp only [wr, wl] at *; omega)) (show (I239 235 7) ≤ (I 236 2) from by first | omega | (simp only [wr, wl] at *; omega)) (show (I239 235 6) < (I 236 2) → (I239 235 6) < (I239 235 7) from by first | omega | (simp only [wr, wl] at *; omega)) (show (I 235 6) ≤ (I239 235 6) from by first | omega | (simp only [wr, wl] at *; omega)) (show (I239 235 8) = 0 → (I239 235 9) = (I 235 9) + 1 ∧ (I 235 6) + 3 ≤ (I239 235 6) from by first | omega | (simp only [wr, wl] at *; omega)) (show ¬ (I239 235 8) = 0 → (I239 235 9) = (I 235 9) from by first | omega | (simp only [wr, wl] at *; omega))⟩
          ·
            refine ⟨_, rfl, (by decide), ?_⟩
            refine fun w0 hw0 => ?_; obtain rfl : w0 = some 241 := hw0.symm.trans (FS.g hF rfl)
            refine ⟨_, rfl, (by decide), ?_⟩
            have r271 : 0 ≤ (I 235 9) ∧ (I 235 9) ≤ 17 := Rg.f9 hR
            have u272 : (I8 235 9) = (I 235 9) := hW11 _ _ (by first | omega | decide)
            have a273 : -2147483648 ≤ (I 235 9) ∧ (I 235 9) < 2147483648 := hA.1 _ _
            have a274 : -2147483648 ≤ (I8 235 9) ∧ (I8 235 9) < 2147483648 := hA10.1 _ _
            have r275 : 0 ≤ (I8 235 9) ∧ (I8 235 9) ≤ 17 := Rg.f9 hR9
            have u276 : (I96 235 9) = (I8 235 9) := hW99 _ _ (by first | omega | decide)
            have a277 : -2147483648 ≤ (I96 235 9) ∧ (I96 235 9) < 2147483648 := hA98.1 _ _
            have r278 : 0 ≤ (I96 235 9) ∧ (I96 235 9) ≤ 17 := Rg.f9 hR97
            have u279 : (I195 235 9) = (I96 235 9) := hW198 _ _ (by first | omega | decide)
            have a280 : -2147483648 ≤ (I195 235 9) ∧ (I195 235 9) < 2147483648 := hA197.1 _ _
            have r281 : 0 ≤ (I195 235 9) ∧ (I195 235 9) ≤ 17 := Rg.f9 hR196
            have u282 : (I239 235 9) = ((uI I195 235 8 0) 235 9) := hW242 _ _ (by first | omega | decide)
            have u283 : ((uI I195 235 8 0) 235 9) = (I195 235 9) := rfl
            have a284 : -2147483648 ≤ (I239 235 9) ∧ (I239 235 9) < 2147483648 := hA241.1 _ _
            have r285 : 0 ≤ (I239 235 9) ∧ (I239 235 9) ≤ 17 := Rg.f9 hR240
            have n286 : (wr (2 * (I239 235 9))) = 2 * (I239 235 9) := wr_id (show -2147483648 ≤ (2 * (I239 235 9) : Int) ∧ (2 * (I239 235 9) : Int) < 2147483648 from by omega)
            have n287 : (wr (2 + (wr (2 * (I239 235 9))))) = 2 + (wr (2 * (I239 235 9))) := wr_id (show -2147483648 ≤ (2 + (wr (2 * (I239 235 9))) : Int) ∧ (2 + (wr (2 * (I239 235 9))) : Int) < 2147483648 from by omega)
            refine ⟨_, rfl, (by decide), (show (0 : Int) ≤ (wr (2 + (wr (2 * (I239 235 9))))) from by first | omega | (simp only [wr, wl] at *; omega)), (show (wr (2 + (wr (2 * (I239 235 9))))) < (36 : Int) from by first | omega | (simp only [wr, wl] at *; omega)), ?_⟩
            have p288 : Pn (40 + (Int.toNat (wr (2 + (wr (2 * (I239 235 9))))))) 2 := by apply Pn_w <;> omega
            refine ⟨_, rfl, (by decide), ?_⟩
            refine fun w0 hw0 => ?_; obtain rfl : w0 = some 241 := hw0.symm.trans (FS.g hF rfl)
            refine ⟨_, rfl, (by decide), ?_⟩
            have n289 : (wr ((wr (2 + (wr (2 * (I239 235 9))))) + 1)) = (wr (2 + (wr (2 * (I239 235 9))))) + 1 := wr_id (show -2147483648 ≤ ((wr (2 + (wr (2 * (I239 235 9))))) + 1 : Int) ∧ ((wr (2 + (wr (2 * (I239 235 9))))) + 1 : Int) < 2147483648 from by omega)
            refine ⟨_, rfl, (by decide), (show (0 : Int) ≤ (wr ((wr (2 + (wr (2 * (I239 235 9))))) + 1)) from by first | omega | (simp only [wr, wl] at *; omega)), (show (wr ((wr (2 + (wr (2 * (I239 235 9))))) + 1)) < (36 : Int) from by first | omega | (simp only [wr, wl] at *; omega)), ?_⟩
            have p290 : Pn (40 + (Int.toNat (wr ((wr (2 + (wr (2 * (I239 235 9))))) + 1)))) v238 := by apply Pn_w <;> omega
            refine ⟨_, rfl, (by decide), ?_⟩
            refine ⟨_, rfl, (by decide), ?_⟩
            have n291 : (wr ((I239 235 9) + 1)) = (I239 235 9) + 1 := wr_id (show -2147483648 ≤ ((I239 235 9) + 1 : Int) ∧ ((I239 235 9) + 1 : Int) < 2147483648 from by omega)
            have p292 : (0 : Int) ≤ (wr ((I239 235 9) + 1)) ∧ ((wr ((I239 235 9) + 1)) : Int) ≤ 17 := by first | omega | (simp only [wr, wl] at *; omega)
            have r293 : 0 ≤ (I239 235 6) ∧ (I239 235 6) ≤ 64 := Rg.f6 hR240
            have a294 : -2147483648 ≤ (I239 235 6) ∧ (I239 235 6) < 2147483648 := hA241.1 _ _
            have r295 : 0 ≤ (I239 235 7) ∧ (I239 235 7) ≤ 64 := Rg.f7 hR240
            have a296 : -2147483648 ≤ (I239 235 7) ∧ (I239 235 7) < 2147483648 := hA241.1 _ _
            exact ⟨rfl, fun hv hA' => hQ _ (Rg.u (Rg.u (Rg.u hR240 (Pr_r p288)) (Pr_r p290)) (Pr_x9 p292)) hA' (fun k j hk => ((uI_o (by omega))).trans (((uI_o (by omega))).trans (((uI_o (by omega))).trans (((hW242 k j (by omega))).trans (((uI_o (by omega))).trans (((hW198 k j (by omega))).trans (((hW99 k j (by omega))).trans ((hW11 k j (by omega)))))))))) (show (I239 235 6) ≤ (I239 235 7) from by first | omega | (simp only [wr, wl] at *; omega)) (show (I239 235 7) ≤ (I 236 2) from by first | omega | (simp only [wr, wl] at *; omega)) (show (I239 235 6) < (I 236 2) → (I239 235 6) < (I239 235 7) from by first | omega | (simp only [wr, wl] at *; omega)) (show (I 235 6) ≤ (I239 235 6) from by first | omega | (simp only [wr, wl] at *; omega)) (show (I239 235 8) = 0 → (wr ((I239 235 9) + 1)) = (I 235 9) + 1 ∧ (I 235 6) + 3 ≤ (I239 235 6) from by first | omega | (simp only [wr, wl] at *; omega)) (show ¬ (I239 235 8) = 0 → (wr ((I239 235 9) + 1)) = (I 235 9) from by first | omega | (simp only [wr, wl] at *; omega))⟩
      ·
        refine ⟨fun c => absurd c (show (¬ ((5 : Int) < 3)) from by decide), fun _ => ?_⟩
        refine ⟨_, rfl, (by decide), ?_⟩
        refine fun w0 hw0 => ?_; obtain rfl : w0 = some 240 := hw0.symm.trans (FS.g hF rfl)
        refine ⟨_, _, (by decide), rfl, (by decide), (by decide), (by decide), ?_⟩
        refine fun w0 hw0 => ?_; obtain rfl : w0 = some 4118 := hw0.symm.trans (FS.g hF rfl)
        refine ⟨⟨_, rfl, (by decide)⟩, ?_⟩
        have r297 : 0 ≤ (I195 235 6) ∧ (I195 235 6) ≤ 64 := Rg.f6 hR196
        have a298 : -2147483648 ≤ (I195 235 6) ∧ (I195 235 6) < 2147483648 := hA197.1 _ _
        have r299 : 0 ≤ (I195 235 7) ∧ (I195 235 7) ≤ 64 := Rg.f7 hR196
        have a300 : -2147483648 ≤ (I195 235 7) ∧ (I195 235 7) < 2147483648 := hA197.1 _ _
        have u301 : (I195 236 2) = (I96 236 2) := hW198 _ _ (by first | omega | decide)
        have a302 : -2147483648 ≤ (I195 236 2) ∧ (I195 236 2) < 2147483648 := hA197.1 _ _
        have r303 : 0 ≤ (I195 236 2) ∧ (I195 236 2) ≤ 64 := Rg.n2 hR196
        refine r_takes_12 hF hR196 (show (I195 235 6) ≤ (I195 235 7) from by first | omega | (simp only [wr, wl] at *; omega)) (show (I195 235 7) ≤ (I195 236 2) from by first | omega | (simp only [wr, wl] at *; omega)) (show (I195 235 6) < (I195 236 2) → (I195 235 6) < (I195 235 7) from by first | omega | (simp only [wr, wl] at *; omega)) (fun v304 I305 hR306 hA307 hr309 hW308 q310 q311 q312 q313 q314 q315 q316 => ?_)
        have hr309 : -2147483648 ≤ v304 ∧ v304 < 2147483648 := hr309
        refine ⟨fun (c317 : (¬ (v304 : Int) = 0)) => ?_, fun (c317 : ((v304 : Int) = 0)) => ?_⟩
        ·
          refine ⟨_, rfl, (by decide), ?_⟩
          have u318 : (I8 235 8) = (I 235 8) := hW11 _ _ (by first | omega | decide)
          have a319 : -2147483648 ≤ (I 235 8) ∧ (I 235 8) < 2147483648 := hA.1 _ _
          have a320 : -2147483648 ≤ (I8 235 8) ∧ (I8 235 8) < 2147483648 := hA10.1 _ _
          have u321 : (I96 235 8) = (I8 235 8) := hW99 _ _ (by first | omega | decide)
          have a322 : -2147483648 ≤ (I96 235 8) ∧ (I96 235 8) < 2147483648 := hA98.1 _ _
          have u323 : (I195 235 8) = (I96 235 8) := hW198 _ _ (by first | omega | decide)
          have a324 : -2147483648 ≤ (I195 235 8) ∧ (I195 235 8) < 2147483648 := hA197.1 _ _
          have u325 : (I305 235 8) = (I195 235 8) := hW308 _ _ (by first | omega | decide)
          have a326 : -2147483648 ≤ (I305 235 8) ∧ (I305 235 8) < 2147483648 := hA307.1 _ _
          refine ⟨fun (c327 : (¬ ((I305 235 8) : Int) = 0)) => ?_, fun (c327 : (((I305 235 8) : Int) = 0)) => ?_⟩
          ·
            refine ⟨_, rfl, (by decide), (by decide), ?_⟩
            refine ⟨_, rfl, (by decide), ?_⟩
            refine ⟨fun _ => ?_, fun c => absurd c (show (¬ (1 : Int) = 0) from by decide)⟩
            refine ⟨_, rfl, (by decide), ?_⟩
            refine ⟨fun _ => ?_, fun c => absurd c (show (¬ (1 : Int) = 0) from by decide)⟩
            have r328 : 0 ≤ (I305 235 6) ∧ (I305 235 6) ≤ 64 := Rg.f6 hR306
            have a329 : -2147483648 ≤ (I305 235 6) ∧ (I305 235 6) < 2147483648 := hA307.1 _ _
            have r330 : 0 ≤ (I305 235 7) ∧ (I305 235 7) ≤ 64 := Rg.f7 hR306
            have a331 : -2147483648 ≤ (I305 235 7) ∧ (I305 235 7) < 2147483648 := hA307.1 _ _
            have r332 : 0 ≤ (I 235 9) ∧ (I 235 9) ≤ 17 := Rg.f9 hR
            have u333 : (I8 235 9) = (I 235 9) := hW11 _ _ (by first | omega | decide)
            have a334 : -2147483648 ≤ (I 235 9) ∧ (I 235 9) < 2147483648 := hA.1 _ _
            have a335 : -2147483648 ≤ (I8 235 9) ∧ (I8 235 9) < 2147483648 := hA10.1 _ _
            have r336 : 0 ≤ (I8 235 9) ∧ (I8 235 9) ≤ 17 := Rg.f9 hR9
            have u337 : (I96 235 9) = (I8 235 9) := hW99 _ _ (by first | omega | decide)
            have a338 : -2147483648 ≤ (I96 235 9) ∧ (I96 235 9) < 2147483648 := hA98.1 _ _
            have r339 : 0 ≤ (I96 235 9) ∧ (I96 235 9) ≤ 17 := Rg.f9 hR97
            have u340 : (I195 235 9) = (I96 235 9) := hW198 _ _ (by first | omega | decide)
            have a341 : -2147483648 ≤ (I195 235 9) ∧ (I195 235 9) < 2147483648 := hA197.1 _ _
            have r342 : 0 ≤ (I195 235 9) ∧ (I195 235 9) ≤ 17 := Rg.f9 hR196
            have u343 : (I305 235 9) = (I195 235 9) := hW308 _ _ (by first | omega | decide)
            have a344 : -2147483648 ≤ (I305 235 9) ∧ (I305 235 9) < 2147483648 := hA307.1 _ _
            have r345 : 0 ≤ (I305 235 9) ∧ (I305 235 9) ≤ 17 := Rg.f9 hR306
            exact ⟨rfl, fun hv hA' => hQ _ (Rg.u hR306 (Pr_f rfl)) hA' (fun k j hk => ((uI_o (by omega))).trans (((hW308 k j (by omega))).trans (((hW198 k j (by omega))).trans (((hW99 k j (by omega))).trans ((hW11 k j (by omega))))))) (show (I305 235 6) ≤ (I305 235 7) from by first | omega | (simp only [wr, wl] at *; omega)) (show (I305 235 7) ≤ (I 236 2) from by first | omega | (simp only [wr, wl] at *; omega)) (show (I305 235 6) < (I 236 2) → (I305 235 6) < (I305 235 7) from by first | omega | (simp only [wr, wl] at *; omega)) (show (I 235 6) ≤ (I305 235 6) from by first | omega | (simp only [wr, wl] at *; omega)) (show 1 = 0 → (I305 235 9) = (I 235 9) + 1 ∧ (I 235 6) + 3 ≤ (I305 235 6) from by first | omega | (simp only [wr, wl] at *; omega)) (show ¬ 1 = 0 → (I305 235 9) = (I 235 9) from by first | omega | (simp only [wr, wl] at *; omega))⟩
          ·
            refine ⟨fun _ => ?_, fun c => absurd (show ((3 : Int) ≤ 5) from by decide) c⟩
            refine ⟨_, rfl, (by decide), (by decide), ?_⟩
            refine ⟨_, rfl, (by decide), ?_⟩
            refine ⟨fun c => absurd (show ((0 : Int) = 0) from by decide) c, fun _ => ?_⟩
            refine ⟨fun _ => ?_, fun c => absurd c (show (¬ (3 : Int) = 4) from by decide)⟩
            refine ⟨⟨_, rfl, (by decide)⟩, ?_⟩
            have r346 : 0 ≤ (I305 235 6) ∧ (I305 235 6) ≤ 64 := Rg.f6 hR306
            have a347 : -2147483648 ≤ (I305 235 6) ∧ (I305 235 6) < 2147483648 := hA307.1 _ _
            have r348 : 0 ≤ (I305 235 7) ∧ (I305 235 7) ≤ 64 := Rg.f7 hR306
            have a349 : -2147483648 ≤ (I305 235 7) ∧ (I305 235 7) < 2147483648 := hA307.1 _ _
            have u350 : (I305 236 2) = (I195 236 2) := hW308 _ _ (by first | omega | decide)
            have a351 : -2147483648 ≤ (I305 236 2) ∧ (I305 236 2) < 2147483648 := hA307.1 _ _
            have r352 : 0 ≤ (I305 236 2) ∧ (I305 236 2) ≤ 64 := Rg.n2 hR306
            refine r_number hF (Rg.u hR306 (Pr_f rfl)) (show (I305 235 6) ≤ (I305 235 7) from by first | omega | (simp only [wr, wl] at *; omega)) (show (I305 235 7) ≤ (I305 236 2) from by first | omega | (simp only [wr, wl] at *; omega)) (show (I305 235 6) < (I305 236 2) → (I305 235 6) < (I305 235 7) from by first | omega | (simp only [wr, wl] at *; omega)) (fun v353 I354 hR355 hA356 hr358 hW357 q359 q360 q361 q362 q363 q364 => ?_)
            have hr358 : -2147483648 ≤ v353 ∧ v353 < 2147483648 := hr358
            refine ⟨_, rfl, (by decide), ?_⟩
            have a365 : -2147483648 ≤ (I354 235 8) ∧ (I354 235 8) < 2147483648 := hA356.1 _ _
            refine ⟨fun (c366 : (¬ ((I354 235 8) : Int) = 0)) => ?_, fun (c366 : (((I354 235 8) : Int) = 0)) => ?_⟩
            ·
              have r367 : 0 ≤ (I354 235 6) ∧ (I354 235 6) ≤ 64 := Rg.f6 hR355
              have a368 : -2147483648 ≤ (I354 235 6) ∧ (I354 235 6) < 2147483648 := hA356.1 _ _
              have r369 : 0 ≤ (I354 235 7) ∧ (I354 235 7) ≤ 64 := Rg.f7 hR355
              have a370 : -2147483648 ≤ (I354 235 7) ∧ (I354 235 7) < 2147483648 := hA356.1 _ _
              have r371 : 0 ≤ (I 235 9) ∧ (I 235 9) ≤ 17 := Rg.f9 hR
              have u372 : (I8 235 9) = (I 235 9) := hW11 _ _ (by first | omega | decide)
              have a373 : -2147483648 ≤ (I 235 9) ∧ (I 235 9) < 2147483648 := hA.1 _ _
              have a374 : -2147483648 ≤ (I8 235 9) ∧ (I8 235 9) < 2147483648 := hA10.1 _ _
              have r375 : 0 ≤ (I8 235 9) ∧ (I8 235 9) ≤ 17 := Rg.f9 hR9
              have u376 : (I96 235 9) = (I8 235 9) := hW99 _ _ (by first | omega | decide)
              have a377 : -2147483648 ≤ (I96 235 9) ∧ (I96 235 9) < 2147483648 := hA98.1 _ _
              have r378 : 0 ≤ (I96 235 9) ∧ (I96 235 9) ≤ 17 := Rg.f9 hR97
              have u379 : (I195 235 9) = (I96 235 9) := hW198 _ _ (by first | omega | decide)
              have a380 : -2147483648 ≤ (I195 235 9) ∧ (I195 235 9) < 2147483648 := hA197.1 _ _
              have r381 : 0 ≤ (I195 235 9) ∧ (I195 235 9) ≤ 17 := Rg.f9 hR196
              have u382 : (I305 235 9) = (I195 235 9) := hW308 _ _ (by first | omega | decide)
              have a383 : -2147483648 ≤ (I305 235 9) ∧ (I305 235 9) < 2147483648 := hA307.1 _ _
              have r384 : 0 ≤ (I305 235 9) ∧ (I305 235 9) ≤ 17 := Rg.f9 hR306
              have u385 : (I354 235 9) = ((uI I305 235 8 0) 235 9) := hW357 _ _ (by first | omega | decide)
              have u386 : ((uI I305 235 8 0) 235 9) = (I305 235 9) := rfl
              have a387 : -2147483648 ≤ (I354 235 9) ∧ (I354 235 9) < 2147483648 := hA356.1 _ _
              have r388 : 0 ≤ (I354 235 9) ∧ (I354 235 9) ≤ 17 := Rg.f9 hR355
              exact ⟨rfl, fun hv hA' => hQ _ hR355 hA' (fun k j hk => ((hW357 k j (by omega))).trans (((uI_o (by omega))).trans (((hW308 k j (by omega))).trans (((hW198 k j (by omega))).trans (((hW99 k j (by omega))).trans ((hW11 k j (by omega)))))))) (show (I354 235 6) ≤ (I354 235 7) from by first | omega | (simp only [wr, wl] at *; omega)) (show (I354 235 7) ≤ (I 236 2) from by first | omega | (simp only [wr, wl] at *; omega)) (show (I354 235 6) < (I 236 2) → (I354 235 6) < (I354 235 7) from by first | omega | (simp only [wr, wl] at *; omega)) (show (I 235 6) ≤ (I354 235 6) from by first | omega | (simp only [wr, wl] at *; omega)) (show (I354 235 8) = 0 → (I354 235 9) = (I 235 9) + 1 ∧ (I 235 6) + 3 ≤ (I354 235 6) from by first | omega | (simp only [wr, wl] at *; omega)) (show ¬ (I354 235 8) = 0 → (I354 235 9) = (I 235 9) from by first | omega | (simp only [wr, wl] at *; omega))⟩
            ·
              refine ⟨_, rfl, (by decide), ?_⟩
              refine fun w0 hw0 => ?_; obtain rfl : w0 = some 241 := hw0.symm.trans (FS.g hF rfl)
              refine ⟨_, rfl, (by decide), ?_⟩
              have r389 : 0 ≤ (I 235 9) ∧ (I 235 9) ≤ 17 := Rg.f9 hR
              have u390 : (I8 235 9) = (I 235 9) := hW11 _ _ (by first | omega | decide)
              have a391 : -2147483648 ≤ (I 235 9) ∧ (I 235 9) < 2147483648 := hA.1 _ _
              have a392 : -2147483648 ≤ (I8 235 9) ∧ (I8 235 9) < 2147483648 := hA10.1 _ _
              have r393 : 0 ≤ (I8 235 9) ∧ (I8 235 9) ≤ 17 := Rg.f9 hR9
              have u394 : (I96 235 9) = (I8 235 9) := hW99 _ _ (by first | omega | decide)
              have a395 : -2147483648 ≤ (I96 235 9) ∧ (I96 235 9) < 2147483648 := hA98.1 _ _
              have r396 : 0 ≤ (I96 235 9) ∧ (I96 235 9) ≤ 17 := Rg.f9 hR97
              have u397 : (I195 235 9) = (I96 235 9) := hW198 _ _ (by first | omega | decide)
              have a398 : -2147483648 ≤ (I195 235 9) ∧ (I195 235 9) < 2147483648 := hA197.1 _ _
              have r399 : 0 ≤ (I195 235 9) ∧ (I195 235 9) ≤ 17 := Rg.f9 hR196
              have u400 : (I305 235 9) = (I195 235 9) := hW308 _ _ (by first | omega | decide)
              have a401 : -2147483648 ≤ (I305 235 9) ∧ (I305 235 9) < 2147483648 := hA307.1 _ _
              have r402 : 0 ≤ (I305 235 9) ∧ (I305 235 9) ≤ 17 := Rg.f9 hR306
              have u403 : (I354 235 9) = ((uI I305 235 8 0) 235 9) := hW357 _ _ (by first | omega | decide)
              have u404 : ((uI I305 235 8 0) 235 9) = (I305 235 9) := rfl
              have a405 : -2147483648 ≤ (I354 235 9) ∧ (I354 235 9) < 2147483648 := hA356.1 _ _
              have r406 : 0 ≤ (I354 235 9) ∧ (I354 235 9) ≤ 17 := Rg.f9 hR355
              have n407 : (wr (2 * (I354 235 9))) = 2 * (I354 235 9) := wr_id (show -2147483648 ≤ (2 * (I354 235 9) : Int) ∧ (2 * (I354 235 9) : Int) < 2147483648 from by omega)
              have n408 : (wr (2 + (wr (2 * (I354 235 9))))) = 2 + (wr (2 * (I354 235 9))) := wr_id (show -2147483648 ≤ (2 + (wr (2 * (I354 235 9))) : Int) ∧ (2 + (wr (2 * (I354 235 9))) : Int) < 2147483648 from by omega)
              refine ⟨_, rfl, (by decide), (show (0 : Int) ≤ (wr (2 + (wr (2 * (I354 235 9))))) from by first | omega | (simp only [wr, wl] at *; omega)), (show (wr (2 + (wr (2 * (I354 235 9))))) < (36 : Int) from by first | omega | (simp only [wr, wl] at *; omega)), ?_⟩
              have p409 : Pn (40 + (Int.toNat (wr (2 + (wr (2 * (I354 235 9))))))) 3 := by apply Pn_w <;> omega
              refine ⟨_, rfl, (by decide), ?_⟩
              refine fun w0 hw0 => ?_; obtain rfl : w0 = some 241 := hw0.symm.trans (FS.g hF rfl)
              refine ⟨_, rfl, (by decide), ?_⟩
              have n410 : (wr ((wr (2 + (wr (2 * (I354 235 9))))) + 1)) = (wr (2 + (wr (2 * (I354 235 9))))) + 1 := wr_id (show -2147483648 ≤ ((wr (2 + (wr (2 * (I354 235 9))))) + 1 : Int) ∧ ((wr (2 + (wr (2 * (I354 235 9))))) + 1 : Int) < 2147483648 from by omega)
              refine ⟨_, rfl, (by decide), (show (0 : Int) ≤ (wr ((wr (2 + (wr (2 * (I354 235 9))))) + 1)) from by first | omega | (simp only [wr, wl] at *; omega)), (show (wr ((wr (2 + (wr (2 * (I354 235 9))))) + 1)) < (36 : Int) from by first | omega | (simp only [wr, wl] at *; omega)), ?_⟩
              have p411 : Pn (40 + (Int.toNat (wr ((wr (2 + (wr (2 * (I354 235 9))))) + 1)))) v353 := by apply Pn_w <;> omega
              refine ⟨_, rfl, (by decide), ?_⟩
              refine ⟨_, rfl, (by decide), ?_⟩
              have n412 : (wr ((I354 235 9) + 1)) = (I354 235 9) + 1 := wr_id (show -2147483648 ≤ ((I354 235 9) + 1 : Int) ∧ ((I354 235 9) + 1 : Int) < 2147483648 from by omega)
              have p413 : (0 : Int) ≤ (wr ((I354 235 9) + 1)) ∧ ((wr ((I354 235 9) + 1)) : Int) ≤ 17 := by first | omega | (simp only [wr, wl] at *; omega)
              have r414 : 0 ≤ (I354 235 6) ∧ (I354 235 6) ≤ 64 := Rg.f6 hR355
              have a415 : -2147483648 ≤ (I354 235 6) ∧ (I354 235 6) < 2147483648 := hA356.1 _ _
              have r416 : 0 ≤ (I354 235 7) ∧ (I354 235 7) ≤ 64 := Rg.f7 hR355
              have a417 : -2147483648 ≤ (I354 235 7) ∧ (I354 235 7) < 2147483648 := hA356.1 _ _
              exact ⟨rfl, fun hv hA' => hQ _ (Rg.u (Rg.u (Rg.u hR355 (Pr_r p409)) (Pr_r p411)) (Pr_x9 p413)) hA' (fun k j hk => ((uI_o (by omega))).trans (((uI_o (by omega))).trans (((uI_o (by omega))).trans (((hW357 k j (by omega))).trans (((uI_o (by omega))).trans (((hW308 k j (by omega))).trans (((hW198 k j (by omega))).trans (((hW99 k j (by omega))).trans ((hW11 k j (by omega))))))))))) (show (I354 235 6) ≤ (I354 235 7) from by first | omega | (simp only [wr, wl] at *; omega)) (show (I354 235 7) ≤ (I 236 2) from by first | omega | (simp only [wr, wl] at *; omega)) (show (I354 235 6) < (I 236 2) → (I354 235 6) < (I354 235 7) from by first | omega | (simp only [wr, wl] at *; omega)) (show (I 235 6) ≤ (I354 235 6) from by first | omega | (simp only [wr, wl] at *; omega)) (show (I354 235 8) = 0 → (wr ((I354 235 9) + 1)) = (I 235 9) + 1 ∧ (I 235 6) + 3 ≤ (I354 235 6) from by first | omega | (simp only [wr, wl] at *; omega)) (show ¬ (I354 235 8) = 0 → (wr ((I354 235 9) + 1)) = (I 235 9) from by first | omega | (simp only [wr, wl] at *; omega))⟩
        ·
          refine ⟨fun c => absurd c (show (¬ ((5 : Int) < 4)) from by decide), fun _ => ?_⟩
          refine ⟨_, rfl, (by decide), ?_⟩
          refine fun w0 hw0 => ?_; obtain rfl : w0 = some 240 := hw0.symm.trans (FS.g hF rfl)
          refine ⟨_, _, (by decide), rfl, (by decide), (by decide), (by decide), ?_⟩
          refine fun w0 hw0 => ?_; obtain rfl : w0 = some 4119 := hw0.symm.trans (FS.g hF rfl)
          refine ⟨⟨_, rfl, (by decide)⟩, ?_⟩
          have r418 : 0 ≤ (I305 235 6) ∧ (I305 235 6) ≤ 64 := Rg.f6 hR306
          have a419 : -2147483648 ≤ (I305 235 6) ∧ (I305 235 6) < 2147483648 := hA307.1 _ _
          have r420 : 0 ≤ (I305 235 7) ∧ (I305 235 7) ≤ 64 := Rg.f7 hR306
          have a421 : -2147483648 ≤ (I305 235 7) ∧ (I305 235 7) < 2147483648 := hA307.1 _ _
          have u422 : (I305 236 2) = (I195 236 2) := hW308 _ _ (by first | omega | decide)
          have a423 : -2147483648 ≤ (I305 236 2) ∧ (I305 236 2) < 2147483648 := hA307.1 _ _
          have r424 : 0 ≤ (I305 236 2) ∧ (I305 236 2) ≤ 64 := Rg.n2 hR306
          refine r_takes_13 hF hR306 (show (I305 235 6) ≤ (I305 235 7) from by first | omega | (simp only [wr, wl] at *; omega)) (show (I305 235 7) ≤ (I305 236 2) from by first | omega | (simp only [wr, wl] at *; omega)) (show (I305 235 6) < (I305 236 2) → (I305 235 6) < (I305 235 7) from by first | omega | (simp only [wr, wl] at *; omega)) (fun v425 I426 hR427 hA428 hr430 hW429 q431 q432 q433 q434 q435 q436 q437 => ?_)
          have hr430 : -2147483648 ≤ v425 ∧ v425 < 2147483648 := hr430
          refine ⟨fun (c438 : (¬ (v425 : Int) = 0)) => ?_, fun (c438 : ((v425 : Int) = 0)) => ?_⟩
          ·
            refine ⟨_, rfl, (by decide), ?_⟩
            have u439 : (I8 235 8) = (I 235 8) := hW11 _ _ (by first | omega | decide)
            have a440 : -2147483648 ≤ (I 235 8) ∧ (I 235 8) < 2147483648 := hA.1 _ _
            have a441 : -2147483648 ≤ (I8 235 8) ∧ (I8 235 8) < 2147483648 := hA10.1 _ _
            have u442 : (I96 235 8) = (I8 235 8) := hW99 _ _ (by first | omega | decide)
            have a443 : -2147483648 ≤ (I96 235 8) ∧ (I96 235 8) < 2147483648 := hA98.1 _ _
            have u444 : (I195 235 8) = (I96 235 8) := hW198 _ _ (by first | omega | decide)
            have a445 : -2147483648 ≤ (I195 235 8) ∧ (I195 235 8) < 2147483648 := hA197.1 _ _
            have u446 : (I305 235 8) = (I195 235 8) := hW308 _ _ (by first | omega | decide)
            have a447 : -2147483648 ≤ (I305 235 8) ∧ (I305 235 8) < 2147483648 := hA307.1 _ _
            have u448 : (I426 235 8) = (I305 235 8) := hW429 _ _ (by first | omega | decide)
            have a449 : -2147483648 ≤ (I426 235 8) ∧ (I426 235 8) < 2147483648 := hA428.1 _ _
            refine ⟨fun (c450 : (¬ ((I426 235 8) : Int) = 0)) => ?_, fun (c450 : (((I426 235 8) : Int) = 0)) => ?_⟩
            ·
              refine ⟨_, rfl, (by decide), (by decide), ?_⟩
              refine ⟨_, rfl, (by decide), ?_⟩
              refine ⟨fun _ => ?_, fun c => absurd c (show (¬ (1 : Int) = 0) from by decide)⟩
              refine ⟨_, rfl, (by decide), ?_⟩
              refine ⟨fun _ => ?_, fun c => absurd c (show (¬ (1 : Int) = 0) from by decide)⟩
              have r451 : 0 ≤ (I426 235 6) ∧ (I426 235 6) ≤ 64 := Rg.f6 hR427
              have a452 : -2147483648 ≤ (I426 235 6) ∧ (I426 235 6) < 2147483648 := hA428.1 _ _
              have r453 : 0 ≤ (I426 235 7) ∧ (I426 235 7) ≤ 64 := Rg.f7 hR427
              have a454 : -2147483648 ≤ (I426 235 7) ∧ (I426 235 7) < 2147483648 := hA428.1 _ _
              have r455 : 0 ≤ (I 235 9) ∧ (I 235 9) ≤ 17 := Rg.f9 hR
              have u456 : (I8 235 9) = (I 235 9) := hW11 _ _ (by first | omega | decide)
              have a457 : -2147483648 ≤ (I 235 9) ∧ (I 235 9) < 2147483648 := hA.1 _ _
              have a458 : -2147483648 ≤ (I8 235 9) ∧ (I8 235 9) < 2147483648 := hA10.1 _ _
              have r459 : 0 ≤ (I8 235 9) ∧ (I8 235 9) ≤ 17 := Rg.f9 hR9
              have u460 : (I96 235 9) = (I8 235 9) := hW99 _ _ (by first | omega | decide)
              have a461 : -2147483648 ≤ (I96 235 9) ∧ (I96 235 9) < 2147483648 := hA98.1 _ _
              have r462 : 0 ≤ (I96 235 9) ∧ (I96 235 9) ≤ 17 := Rg.f9 hR97
              have u463 : (I195 235 9) = (I96 235 9) := hW198 _ _ (by first | omega | decide)
              have a464 : -2147483648 ≤ (I195 235 9) ∧ (I195 235 9) < 2147483648 := hA197.1 _ _
              have r465 : 0 ≤ (I195 235 9) ∧ (I195 235 9) ≤ 17 := Rg.f9 hR196
              have u466 : (I305 235 9) = (I195 235 9) := hW308 _ _ (by first | omega | decide)
              have a467 : -2147483648 ≤ (I305 235 9) ∧ (I305 235 9) < 2147483648 := hA307.1 _ _
              have r468 : 0 ≤ (I305 235 9) ∧ (I305 235 9) ≤ 17 := Rg.f9 hR306
              have u469 : (I426 235 9) = (I305 235 9) := hW429 _ _ (by first | omega | decide)
              have a470 : -2147483648 ≤ (I426 235 9) ∧ (I426 235 9) < 2147483648 := hA428.1 _ _
              have r471 : 0 ≤ (I426 235 9) ∧ (I426 235 9) ≤ 17 := Rg.f9 hR427
              exact ⟨rfl, fun hv hA' => hQ _ (Rg.u hR427 (Pr_f rfl)) hA' (fun k j hk => ((uI_o (by omega))).trans (((hW429 k j (by omega))).trans (((hW308 k j (by omega))).trans (((hW198 k j (by omega))).trans (((hW99 k j (by omega))).trans ((hW11 k j (by omega)))))))) (show (I426 235 6) ≤ (I426 235 7) from by first | omega | (simp only [wr, wl] at *; omega)) (show (I426 235 7) ≤ (I 236 2) from by first | omega | (simp only [wr, wl] at *; omega)) (show (I426 235 6) < (I 236 2) → (I426 235 6) < (I426 235 7) from by first | omega | (simp only [wr, wl] at *; omega)) (show (I 235 6) ≤ (I426 235 6) from by first | omega | (simp only [wr, wl] at *; omega)) (show 1 = 0 → (I426 235 9) = (I 235 9) + 1 ∧ (I 235 6) + 3 ≤ (I426 235 6) from by first | omega | (simp only [wr, wl] at *; omega)) (show ¬ 1 = 0 → (I426 235 9) = (I 235 9) from by first | omega | (simp only [wr, wl] at *; omega))⟩
            ·
              refine ⟨fun _ => ?_, fun c => absurd (show ((4 : Int) ≤ 5) from by decide) c⟩
              refine ⟨_, rfl, (by decide), (by decide), ?_⟩
              refine ⟨_, rfl, (by decide), ?_⟩
              refine ⟨fun c => absurd (show ((0 : Int) = 0) from by decide) c, fun _ => ?_⟩
              refine ⟨fun c => absurd (show ((4 : Int) = 4) from by decide) c, fun _ => ?_⟩
              refine ⟨_, rfl, (by decide), ?_⟩
              refine ⟨fun c => absurd (show ((0 : Int) = 0) from by decide) c, fun _ => ?_⟩
              refine ⟨_, rfl, (by decide), ?_⟩
              refine fun w0 hw0 => ?_; obtain rfl : w0 = some 241 := hw0.symm.trans (FS.g hF rfl)
              refine ⟨_, rfl, (by decide), ?_⟩
              have r472 : 0 ≤ (I 235 9) ∧ (I 235 9) ≤ 17 := Rg.f9 hR
              have u473 : (I8 235 9) = (I 235 9) := hW11 _ _ (by first | omega | decide)
              have a474 : -2147483648 ≤ (I 235 9) ∧ (I 235 9) < 2147483648 := hA.1 _ _
              have a475 : -2147483648 ≤ (I8 235 9) ∧ (I8 235 9) < 2147483648 := hA10.1 _ _
              have r476 : 0 ≤ (I8 235 9) ∧ (I8 235 9) ≤ 17 := Rg.f9 hR9
              have u477 : (I96 235 9) = (I8 235 9) := hW99 _ _ (by first | omega | decide)
              have a478 : -2147483648 ≤ (I96 235 9) ∧ (I96 235 9) < 2147483648 := hA98.1 _ _
              have r479 : 0 ≤ (I96 235 9) ∧ (I96 235 9) ≤ 17 := Rg.f9 hR97
              have u480 : (I195 235 9) = (I96 235 9) := hW198 _ _ (by first | omega | decide)
              have a481 : -2147483648 ≤ (I195 235 9) ∧ (I195 235 9) < 2147483648 := hA197.1 _ _
              have r482 : 0 ≤ (I195 235 9) ∧ (I195 235 9) ≤ 17 := Rg.f9 hR196
              have u483 : (I305 235 9) = (I195 235 9) := hW308 _ _ (by first | omega | decide)
              have a484 : -2147483648 ≤ (I305 235 9) ∧ (I305 235 9) < 2147483648 := hA307.1 _ _
              have r485 : 0 ≤ (I305 235 9) ∧ (I305 235 9) ≤ 17 := Rg.f9 hR306
              have u486 : (I426 235 9) = (I305 235 9) := hW429 _ _ (by first | omega | decide)
              have a487 : -2147483648 ≤ (I426 235 9) ∧ (I426 235 9) < 2147483648 := hA428.1 _ _
              have r488 : 0 ≤ (I426 235 9) ∧ (I426 235 9) ≤ 17 := Rg.f9 hR427
              have n489 : (wr (2 * (I426 235 9))) = 2 * (I426 235 9) := wr_id (show -2147483648 ≤ (2 * (I426 235 9) : Int) ∧ (2 * (I426 235 9) : Int) < 2147483648 from by omega)
              have n490 : (wr (2 + (wr (2 * (I426 235 9))))) = 2 + (wr (2 * (I426 235 9))) := wr_id (show -2147483648 ≤ (2 + (wr (2 * (I426 235 9))) : Int) ∧ (2 + (wr (2 * (I426 235 9))) : Int) < 2147483648 from by omega)
              refine ⟨_, rfl, (by decide), (show (0 : Int) ≤ (wr (2 + (wr (2 * (I426 235 9))))) from by first | omega | (simp only [wr, wl] at *; omega)), (show (wr (2 + (wr (2 * (I426 235 9))))) < (36 : Int) from by first | omega | (simp only [wr, wl] at *; omega)), ?_⟩
              have p491 : Pn (40 + (Int.toNat (wr (2 + (wr (2 * (I426 235 9))))))) 4 := by apply Pn_w <;> omega
              refine ⟨_, rfl, (by decide), ?_⟩
              refine fun w0 hw0 => ?_; obtain rfl : w0 = some 241 := hw0.symm.trans (FS.g hF rfl)
              refine ⟨_, rfl, (by decide), ?_⟩
              have n492 : (wr ((wr (2 + (wr (2 * (I426 235 9))))) + 1)) = (wr (2 + (wr (2 * (I426 235 9))))) + 1 := wr_id (show -2147483648 ≤ ((wr (2 + (wr (2 * (I426 235 9))))) + 1 : Int) ∧ ((wr (2 + (wr (2 * (I426 235 9))))) + 1 : Int) < 2147483648 from by omega)
              refine ⟨_, rfl, (by decide), (show (0 : Int) ≤ (wr ((wr (2 + (wr (2 * (I426 235 9))))) + 1)) from by first | omega | (simp only [wr, wl] at *; omega)), (show (wr ((wr (2 + (wr (2 * (I426 235 9))))) + 1)) < (36 : Int) from by first | omega | (simp only [wr, wl] at *; omega)), ?_⟩
              have p493 : Pn (40 + (Int.toNat (wr ((wr (2 + (wr (2 * (I426 235 9))))) + 1)))) 0 := by apply Pn_w <;> omega
              refine ⟨_, rfl, (by decide), ?_⟩
              refine ⟨_, rfl, (by decide), ?_⟩
              have n494 : (wr ((I426 235 9) + 1)) = (I426 235 9) + 1 := wr_id (show -2147483648 ≤ ((I426 235 9) + 1 : Int) ∧ ((I426 235 9) + 1 : Int) < 2147483648 from by omega)
              have p495 : (0 : Int) ≤ (wr ((I426 235 9) + 1)) ∧ ((wr ((I426 235 9) + 1)) : Int) ≤ 17 := by first | omega | (simp only [wr, wl] at *; omega)
              have r496 : 0 ≤ (I426 235 6) ∧ (I426 235 6) ≤ 64 := Rg.f6 hR427
              have a497 : -2147483648 ≤ (I426 235 6) ∧ (I426 235 6) < 2147483648 := hA428.1 _ _
              have r498 : 0 ≤ (I426 235 7) ∧ (I426 235 7) ≤ 64 := Rg.f7 hR427
              have a499 : -2147483648 ≤ (I426 235 7) ∧ (I426 235 7) < 2147483648 := hA428.1 _ _
              exact ⟨rfl, fun hv hA' => hQ _ (Rg.u (Rg.u (Rg.u (Rg.u hR427 (Pr_f rfl)) (Pr_r p491)) (Pr_r p493)) (Pr_x9 p495)) hA' (fun k j hk => ((uI_o (by omega))).trans (((uI_o (by omega))).trans (((uI_o (by omega))).trans (((uI_o (by omega))).trans (((hW429 k j (by omega))).trans (((hW308 k j (by omega))).trans (((hW198 k j (by omega))).trans (((hW99 k j (by omega))).trans ((hW11 k j (by omega))))))))))) (show (I426 235 6) ≤ (I426 235 7) from by first | omega | (simp only [wr, wl] at *; omega)) (show (I426 235 7) ≤ (I 236 2) from by first | omega | (simp only [wr, wl] at *; omega)) (show (I426 235 6) < (I 236 2) → (I426 235 6) < (I426 235 7) from by first | omega | (simp only [wr, wl] at *; omega)) (show (I 235 6) ≤ (I426 235 6) from by first | omega | (simp only [wr, wl] at *; omega)) (show 0 = 0 → (wr ((I426 235 9) + 1)) = (I 235 9) + 1 ∧ (I 235 6) + 3 ≤ (I426 235 6) from by first | omega | (simp only [wr, wl] at *; omega)) (show ¬ 0 = 0 → (wr ((I426 235 9) + 1)) = (I 235 9) from by first | omega | (simp only [wr, wl] at *; omega))⟩
          ·
            refine ⟨fun c => absurd c (show (¬ ((5 : Int) < 5)) from by decide), fun _ => ?_⟩
            refine ⟨_, rfl, (by decide), ?_⟩
            refine fun w0 hw0 => ?_; obtain rfl : w0 = some 240 := hw0.symm.trans (FS.g hF rfl)
            refine ⟨_, _, (by decide), rfl, (by decide), (by decide), (by decide), ?_⟩
            refine fun w0 hw0 => ?_; obtain rfl : w0 = some 4120 := hw0.symm.trans (FS.g hF rfl)
            refine ⟨⟨_, rfl, (by decide)⟩, ?_⟩
            have r500 : 0 ≤ (I426 235 6) ∧ (I426 235 6) ≤ 64 := Rg.f6 hR427
            have a501 : -2147483648 ≤ (I426 235 6) ∧ (I426 235 6) < 2147483648 := hA428.1 _ _
            have r502 : 0 ≤ (I426 235 7) ∧ (I426 235 7) ≤ 64 := Rg.f7 hR427
            have a503 : -2147483648 ≤ (I426 235 7) ∧ (I426 235 7) < 2147483648 := hA428.1 _ _
            have u504 : (I426 236 2) = (I305 236 2) := hW429 _ _ (by first | omega | decide)
            have a505 : -2147483648 ≤ (I426 236 2) ∧ (I426 236 2) < 2147483648 := hA428.1 _ _
            have r506 : 0 ≤ (I426 236 2) ∧ (I426 236 2) ≤ 64 := Rg.n2 hR427
            refine r_takes_14 hF hR427 (show (I426 235 6) ≤ (I426 235 7) from by first | omega | (simp only [wr, wl] at *; omega)) (show (I426 235 7) ≤ (I426 236 2) from by first | omega | (simp only [wr, wl] at *; omega)) (show (I426 235 6) < (I426 236 2) → (I426 235 6) < (I426 235 7) from by first | omega | (simp only [wr, wl] at *; omega)) (fun v507 I508 hR509 hA510 hr512 hW511 q513 q514 q515 q516 q517 q518 q519 => ?_)
            have hr512 : -2147483648 ≤ v507 ∧ v507 < 2147483648 := hr512
            refine ⟨fun (c520 : (¬ (v507 : Int) = 0)) => ?_, fun (c520 : ((v507 : Int) = 0)) => ?_⟩
            ·
              refine ⟨_, rfl, (by decide), ?_⟩
              have u521 : (I8 235 8) = (I 235 8) := hW11 _ _ (by first | omega | decide)
              have a522 : -2147483648 ≤ (I 235 8) ∧ (I 235 8) < 2147483648 := hA.1 _ _
              have a523 : -2147483648 ≤ (I8 235 8) ∧ (I8 235 8) < 2147483648 := hA10.1 _ _
              have u524 : (I96 235 8) = (I8 235 8) := hW99 _ _ (by first | omega | decide)
              have a525 : -2147483648 ≤ (I96 235 8) ∧ (I96 235 8) < 2147483648 := hA98.1 _ _
              have u526 : (I195 235 8) = (I96 235 8) := hW198 _ _ (by first | omega | decide)
              have a527 : -2147483648 ≤ (I195 235 8) ∧ (I195 235 8) < 2147483648 := hA197.1 _ _
              have u528 : (I305 235 8) = (I195 235 8) := hW308 _ _ (by first | omega | decide)
              have a529 : -2147483648 ≤ (I305 235 8) ∧ (I305 235 8) < 2147483648 := hA307.1 _ _
              have u530 : (I426 235 8) = (I305 235 8) := hW429 _ _ (by first | omega | decide)
              have a531 : -2147483648 ≤ (I426 235 8) ∧ (I426 235 8) < 2147483648 := hA428.1 _ _
              have u532 : (I508 235 8) = (I426 235 8) := hW511 _ _ (by first | omega | decide)
              have a533 : -2147483648 ≤ (I508 235 8) ∧ (I508 235 8) < 2147483648 := hA510.1 _ _
              refine ⟨fun (c534 : (¬ ((I508 235 8) : Int) = 0)) => ?_, fun (c534 : (((I508 235 8) : Int) = 0)) => ?_⟩
              ·
                refine ⟨_, rfl, (by decide), (by decide), ?_⟩
                refine ⟨_, rfl, (by decide), ?_⟩
                refine ⟨fun _ => ?_, fun c => absurd c (show (¬ (1 : Int) = 0) from by decide)⟩
                refine ⟨_, rfl, (by decide), ?_⟩
                refine ⟨fun _ => ?_, fun c => absurd c (show (¬ (1 : Int) = 0) from by decide)⟩
                have r535 : 0 ≤ (I508 235 6) ∧ (I508 235 6) ≤ 64 := Rg.f6 hR509
                have a536 : -2147483648 ≤ (I508 235 6) ∧ (I508 235 6) < 2147483648 := hA510.1 _ _
                have r537 : 0 ≤ (I508 235 7) ∧ (I508 235 7) ≤ 64 := Rg.f7 hR509
                have a538 : -2147483648 ≤ (I508 235 7) ∧ (I508 235 7) < 2147483648 := hA510.1 _ _
                have r539 : 0 ≤ (I 235 9) ∧ (I 235 9) ≤ 17 := Rg.f9 hR
                have u540 : (I8 235 9) = (I 235 9) := hW11 _ _ (by first | omega | decide)
                have a541 : -2147483648 ≤ (I 235 9) ∧ (I 235 9) < 2147483648 := hA.1 _ _
                have a542 : -2147483648 ≤ (I8 235 9) ∧ (I8 235 9) < 2147483648 := hA10.1 _ _
                have r543 : 0 ≤ (I8 235 9) ∧ (I8 235 9) ≤ 17 := Rg.f9 hR9
                have u544 : (I96 235 9) = (I8 235 9) := hW99 _ _ (by first | omega | decide)
                have a545 : -2147483648 ≤ (I96 235 9) ∧ (I96 235 9) < 2147483648 := hA98.1 _ _
                have r546 : 0 ≤ (I96 235 9) ∧ (I96 235 9) ≤ 17 := Rg.f9 hR97
                have u547 : (I195 235 9) = (I96 235 9) := hW198 _ _ (by first | omega | decide)
                have a548 : -2147483648 ≤ (I195 235 9) ∧ (I195 235 9) < 2147483648 := hA197.1 _ _
                have r549 : 0 ≤ (I195 235 9) ∧ (I195 235 9) ≤ 17 := Rg.f9 hR196
                have u550 : (I305 235 9) = (I195 235 9) := hW308 _ _ (by first | omega | decide)
                have a551 : -2147483648 ≤ (I305 235 9) ∧ (I305 235 9) < 2147483648 := hA307.1 _ _
                have r552 : 0 ≤ (I305 235 9) ∧ (I305 235 9) ≤ 17 := Rg.f9 hR306
                have u553 : (I426 235 9) = (I305 235 9) := hW429 _ _ (by first | omega | decide)
                have a554 : -2147483648 ≤ (I426 235 9) ∧ (I426 235 9) < 2147483648 := hA428.1 _ _
                have r555 : 0 ≤ (I426 235 9) ∧ (I426 235 9) ≤ 17 := Rg.f9 hR427
                have u556 : (I508 235 9) = (I426 235 9) := hW511 _ _ (by first | omega | decide)
                have a557 : -2147483648 ≤ (I508 235 9) ∧ (I508 235 9) < 2147483648 := hA510.1 _ _
                have r558 : 0 ≤ (I508 235 9) ∧ (I508 235 9) ≤ 17 := Rg.f9 hR509
                exact ⟨rfl, fun hv hA' => hQ _ (Rg.u hR509 (Pr_f rfl)) hA' (fun k j hk => ((uI_o (by omega))).trans (((hW511 k j (by omega))).trans (((hW429 k j (by omega))).trans (((hW308 k j (by omega))).trans (((hW198 k j (by omega))).trans (((hW99 k j (by omega))).trans ((hW11 k j (by omega))))))))) (show (I508 235 6) ≤ (I508 235 7) from by first | omega | (simp only [wr, wl] at *; omega)) (show (I508 235 7) ≤ (I 236 2) from by first | omega | (simp only [wr, wl] at *; omega)) (show (I508 235 6) < (I 236 2) → (I508 235 6) < (I508 235 7) from by first | omega | (simp only [wr, wl] at *; omega)) (show (I 235 6) ≤ (I508 235 6) from by first | omega | (simp only [wr, wl] at *; omega)) (show 1 = 0 → (I508 235 9) = (I 235 9) + 1 ∧ (I 235 6) + 3 ≤ (I508 235 6) from by first | omega | (simp only [wr, wl] at *; omega)) (show ¬ 1 = 0 → (I508 235 9) = (I 235 9) from by first | omega | (simp only [wr, wl] at *; omega))⟩
              ·
                refine ⟨fun _ => ?_, fun c => absurd (show ((5 : Int) ≤ 5) from by decide) c⟩
                refine ⟨_, rfl, (by decide), (by decide), ?_⟩
                refine ⟨_, rfl, (by decide), ?_⟩
                refine ⟨fun c => absurd (show ((0 : Int) = 0) from by decide) c, fun _ => ?_⟩
                refine ⟨fun _ => ?_, fun c => absurd c (show (¬ (5 : Int) = 4) from by decide)⟩
                refine ⟨⟨_, rfl, (by decide)⟩, ?_⟩
                have r559 : 0 ≤ (I508 235 6) ∧ (I508 235 6) ≤ 64 := Rg.f6 hR509
                have a560 : -2147483648 ≤ (I508 235 6) ∧ (I508 235 6) < 2147483648 := hA510.1 _ _
                have r561 : 0 ≤ (I508 235 7) ∧ (I508 235 7) ≤ 64 := Rg.f7 hR509
                have a562 : -2147483648 ≤ (I508 235 7) ∧ (I508 235 7) < 2147483648 := hA510.1 _ _
                have u563 : (I508 236 2) = (I426 236 2) := hW511 _ _ (by first | omega | decide)
                have a564 : -2147483648 ≤ (I508 236 2) ∧ (I508 236 2) < 2147483648 := hA510.1 _ _
                have r565 : 0 ≤ (I508 236 2) ∧ (I508 236 2) ≤ 64 := Rg.n2 hR509
                refine r_number hF (Rg.u hR509 (Pr_f rfl)) (show (I508 235 6) ≤ (I508 235 7) from by first | omega | (simp only [wr, wl] at *; omega)) (show (I508 235 7) ≤ (I508 236 2) from by first | omega | (simp only [wr, wl] at *; omega)) (show (I508 235 6) < (I508 236 2) → (I508 235 6) < (I508 235 7) from by first | omega | (simp only [wr, wl] at *; omega)) (fun v566 I567 hR568 hA569 hr571 hW570 q572 q573 q574 q575 q576 q577 => ?_)
                have hr571 : -2147483648 ≤ v566 ∧ v566 < 2147483648 := hr571
                refine ⟨_, rfl, (by decide), ?_⟩
                have a578 : -2147483648 ≤ (I567 235 8) ∧ (I567 235 8) < 2147483648 := hA569.1 _ _
                refine ⟨fun (c579 : (¬ ((I567 235 8) : Int) = 0)) => ?_, fun (c579 : (((I567 235 8) : Int) = 0)) => ?_⟩
                ·
                  have r580 : 0 ≤ (I567 235 6) ∧ (I567 235 6) ≤ 64 := Rg.f6 hR568
                  have a581 : -2147483648 ≤ (I567 235 6) ∧ (I567 235 6) < 2147483648 := hA569.1 _ _
                  have r582 : 0 ≤ (I567 235 7) ∧ (I567 235 7) ≤ 64 := Rg.f7 hR568
                  have a583 : -2147483648 ≤ (I567 235 7) ∧ (I567 235 7) < 2147483648 := hA569.1 _ _
                  have r584 : 0 ≤ (I 235 9) ∧ (I 235 9) ≤ 17 := Rg.f9 hR
                  have u585 : (I8 235 9) = (I 235 9) := hW11 _ _ (by first | omega | decide)
                  have a586 : -2147483648 ≤ (I 235 9) ∧ (I 235 9) < 2147483648 := hA.1 _ _
                  have a587 : -2147483648 ≤ (I8 235 9) ∧ (I8 235 9) < 2147483648 := hA10.1 _ _
                  have r588 : 0 ≤ (I8 235 9) ∧ (I8 235 9) ≤ 17 := Rg.f9 hR9
                  have u589 : (I96 235 9) = (I8 235 9) := hW99 _ _ (by first | omega | decide)
                  have a590 : -2147483648 ≤ (I96 235 9) ∧ (I96 235 9) < 2147483648 := hA98.1 _ _
                  have r591 : 0 ≤ (I96 235 9) ∧ (I96 235 9) ≤ 17 := Rg.f9 hR97
                  have u592 : (I195 235 9) = (I96 235 9) := hW198 _ _ (by first | omega | decide)
                  have a593 : -2147483648 ≤ (I195 235 9) ∧ (I195 235 9) < 2147483648 := hA197.1 _ _
                  have r594 : 0 ≤ (I195 235 9) ∧ (I195 235 9) ≤ 17 := Rg.f9 hR196
                  have u595 : (I305 235 9) = (I195 235 9) := hW308 _ _ (by first | omega | decide)
                  have a596 : -2147483648 ≤ (I305 235 9) ∧ (I305 235 9) < 2147483648 := hA307.1 _ _
                  have r597 : 0 ≤ (I305 235 9) ∧ (I305 235 9) ≤ 17 := Rg.f9 hR306
                  have u598 : (I426 235 9) = (I305 235 9) := hW429 _ _ (by first | omega | decide)
                  have a599 : -2147483648 ≤ (I426 235 9) ∧ (I426 235 9) < 2147483648 := hA428.1 _ _
                  have r600 : 0 ≤ (I426 235 9) ∧ (I426 235 9) ≤ 17 := Rg.f9 hR427
                  have u601 : (I508 235 9) = (I426 235 9) := hW511 _ _ (by first | omega | decide)
                  have a602 : -2147483648 ≤ (I508 235 9) ∧ (I508 235 9) < 2147483648 := hA510.1 _ _
                  have r603 : 0 ≤ (I508 235 9) ∧ (I508 235 9) ≤ 17 := Rg.f9 hR509
                  have u604 : (I567 235 9) = ((uI I508 235 8 0) 235 9) := hW570 _ _ (by first | omega | decide)
                  have u605 : ((uI I508 235 8 0) 235 9) = (I508 235 9) := rfl
                  have a606 : -2147483648 ≤ (I567 235 9) ∧ (I567 235 9) < 2147483648 := hA569.1 _ _
                  have r607 : 0 ≤ (I567 235 9) ∧ (I567 235 9) ≤ 17 := Rg.f9 hR568
                  exact ⟨rfl, fun hv hA' => hQ _ hR568 hA' (fun k j hk => ((hW570 k j (by omega))).trans (((uI_o (by omega))).trans (((hW511 k j (by omega))).trans (((hW429 k j (by omega))).trans (((hW308 k j (by omega))).trans (((hW198 k j (by omega))).trans (((hW99 k j (by omega))).trans ((hW11 k j (by omega)))))))))) (show (I567 235 6) ≤ (I567 235 7) from by first | omega | (simp only [wr, wl] at *; omega)) (show (I567 235 7) ≤ (I 236 2) from by first | omega | (simp only [wr, wl] at *; omega)) (show (I567 235 6) < (I 236 2) → (I567 235 6) < (I567 235 7) from by first | omega | (simp only [wr, wl] at *; omega)) (show (I 235 6) ≤ (I567 235 6) from by first | omega | (simp only [wr, wl] at *; omega)) (show (I567 235 8) = 0 → (I567 235 9) = (I 235 9) + 1 ∧ (I 235 6) + 3 ≤ (I567 235 6) from by first | omega | (simp only [wr, wl] at *; omega)) (show ¬ (I567 235 8) = 0 → (I567 235 9) = (I 235 9) from by first | omega | (simp only [wr, wl] at *; omega))⟩
                ·
                  refine ⟨_, rfl, (by decide), ?_⟩
                  refine fun w0 hw0 => ?_; obtain rfl : w0 = some 241 := hw0.symm.trans (FS.g hF rfl)
                  refine ⟨_, rfl, (by decide), ?_⟩
                  have r608 : 0 ≤ (I 235 9) ∧ (I 235 9) ≤ 17 := Rg.f9 hR
                  have u609 : (I8 235 9) = (I 235 9) := hW11 _ _ (by first | omega | decide)
                  have a610 : -2147483648 ≤ (I 235 9) ∧ (I 235 9) < 2147483648 := hA.1 _ _
                  have a611 : -2147483648 ≤ (I8 235 9) ∧ (I8 235 9) < 2147483648 := hA10.1 _ _
                  have r612 : 0 ≤ (I8 235 9) ∧ (I8 235 9) ≤ 17 := Rg.f9 hR9
                  have u613 : (I96 235 9) = (I8 235 9) := hW99 _ _ (by first | omega | decide)
                  have a614 : -2147483648 ≤ (I96 235 9) ∧ (I96 235 9) < 2147483648 := hA98.1 _ _
                  have r615 : 0 ≤ (I96 235 9) ∧ (I96 235 9) ≤ 17 := Rg.f9 hR97
                  have u616 : (I195 235 9) = (I96 235 9) := hW198 _ _ (by first | omega | decide)
                  have a617 : -2147483648 ≤ (I195 235 9) ∧ (I195 235 9) < 2147483648 := hA197.1 _ _
                  have r618 : 0 ≤ (I195 235 9) ∧ (I195 235 9) ≤ 17 := Rg.f9 hR196
                  have u619 : (I305 235 9) = (I195 235 9) := hW308 _ _ (by first | omega | decide)
                  have a620 : -2147483648 ≤ (I305 235 9) ∧ (I305 235 9) < 2147483648 := hA307.1 _ _
                  have r621 : 0 ≤ (I305 235 9) ∧ (I305 235 9) ≤ 17 := Rg.f9 hR306
                  have u622 : (I426 235 9) = (I305 235 9) := hW429 _ _ (by first | omega | decide)
                  have a623 : -2147483648 ≤ (I426 235 9) ∧ (I426 235 9) < 2147483648 := hA428.1 _ _
                  have r624 : 0 ≤ (I426 235 9) ∧ (I426 235 9) ≤ 17 := Rg.f9 hR427
                  have u625 : (I508 235 9) = (I426 235 9) := hW511 _ _ (by first | omega | decide)
                  have a626 : -2147483648 ≤ (I508 235 9) ∧ (I508 235 9) < 2147483648 := hA510.1 _ _
                  have r627 : 0 ≤ (I508 235 9) ∧ (I508 235 9) ≤ 17 := Rg.f9 hR509
                  have u628 : (I567 235 9) = ((uI I508 235 8 0) 235 9) := hW570 _ _ (by first | omega | decide)
                  have u629 : ((uI I508 235 8 0) 235 9) = (I508 235 9) := rfl
                  have a630 : -2147483648 ≤ (I567 235 9) ∧ (I567 235 9) < 2147483648 := hA569.1 _ _
                  have r631 : 0 ≤ (I567 235 9) ∧ (I567 235 9) ≤ 17 := Rg.f9 hR568
                  have n632 : (wr (2 * (I567 235 9))) = 2 * (I567 235 9) := wr_id (show -2147483648 ≤ (2 * (I567 235 9) : Int) ∧ (2 * (I567 235 9) : Int) < 2147483648 from by omega)
                  have n633 : (wr (2 + (wr (2 * (I567 235 9))))) = 2 + (wr (2 * (I567 235 9))) := wr_id (show -2147483648 ≤ (2 + (wr (2 * (I567 235 9))) : Int) ∧ (2 + (wr (2 * (I567 235 9))) : Int) < 2147483648 from by omega)
                  refine ⟨_, rfl, (by decide), (show (0 : Int) ≤ (wr (2 + (wr (2 * (I567 235 9))))) from by first | omega | (simp only [wr, wl] at *; omega)), (show (wr (2 + (wr (2 * (I567 235 9))))) < (36 : Int) from by first | omega | (simp only [wr, wl] at *; omega)), ?_⟩
                  have p634 : Pn (40 + (Int.toNat (wr (2 + (wr (2 * (I567 235 9))))))) 5 := by apply Pn_w <;> omega
                  refine ⟨_, rfl, (by decide), ?_⟩
                  refine fun w0 hw0 => ?_; obtain rfl : w0 = some 241 := hw0.symm.trans (FS.g hF rfl)
                  refine ⟨_, rfl, (by decide), ?_⟩
                  have n635 : (wr ((wr (2 + (wr (2 * (I567 235 9))))) + 1)) = (wr (2 + (wr (2 * (I567 235 9))))) + 1 := wr_id (show -2147483648 ≤ ((wr (2 + (wr (2 * (I567 235 9))))) + 1 : Int) ∧ ((wr (2 + (wr (2 * (I567 235 9))))) + 1 : Int) < 2147483648 from by omega)
                  refine ⟨_, rfl, (by decide), (show (0 : Int) ≤ (wr ((wr (2 + (wr (2 * (I567 235 9))))) + 1)) from by first | omega | (simp only [wr, wl] at *; omega)), (show (wr ((wr (2 + (wr (2 * (I567 235 9))))) + 1)) < (36 : Int) from by first | omega | (simp only [wr, wl] at *; omega)), ?_⟩
                  have p636 : Pn (40 + (Int.toNat (wr ((wr (2 + (wr (2 * (I567 235 9))))) + 1)))) v566 := by apply Pn_w <;> omega
                  refine ⟨_, rfl, (by decide), ?_⟩
                  refine ⟨_, rfl, (by decide), ?_⟩
                  have n637 : (wr ((I567 235 9) + 1)) = (I567 235 9) + 1 := wr_id (show -2147483648 ≤ ((I567 235 9) + 1 : Int) ∧ ((I567 235 9) + 1 : Int) < 2147483648 from by omega)
                  have p638 : (0 : Int) ≤ (wr ((I567 235 9) + 1)) ∧ ((wr ((I567 235 9) + 1)) : Int) ≤ 17 := by first | omega | (simp only [wr, wl] at *; omega)
                  have r639 : 0 ≤ (I567 235 6) ∧ (I567 235 6) ≤ 64 := Rg.f6 hR568
                  have a640 : -2147483648 ≤ (I567 235 6) ∧ (I567 235 6) < 2147483648 := hA569.1 _ _
                  have r641 : 0 ≤ (I567 235 7) ∧ (I567 235 7) ≤ 64 := Rg.f7 hR568
                  have a642 : -2147483648 ≤ (I567 235 7) ∧ (I567 235 7) < 2147483648 := hA569.1 _ _
                  exact ⟨rfl, fun hv hA' => hQ _ (Rg.u (Rg.u (Rg.u hR568 (Pr_r p634)) (Pr_r p636)) (Pr_x9 p638)) hA' (fun k j hk => ((uI_o (by omega))).trans (((uI_o (by omega))).trans (((uI_o (by omega))).trans (((hW570 k j (by omega))).trans (((uI_o (by omega))).trans (((hW511 k j (by omega))).trans (((hW429 k j (by omega))).trans (((hW308 k j (by omega))).trans (((hW198 k j (by omega))).trans (((hW99 k j (by omega))).trans ((hW11 k j (by omega))))))))))))) (show (I567 235 6) ≤ (I567 235 7) from by first | omega | (simp only [wr, wl] at *; omega)) (show (I567 235 7) ≤ (I 236 2) from by first | omega | (simp only [wr, wl] at *; omega)) (show (I567 235 6) < (I 236 2) → (I567 235 6) < (I567 235 7) from by first | omega | (simp only [wr, wl] at *; omega)) (show (I 235 6) ≤ (I567 235 6) from by first | omega | (simp only [wr, wl] at *; omega)) (show (I567 235 8) = 0 → (wr ((I567 235 9) + 1)) = (I 235 9) + 1 ∧ (I 235 6) + 3 ≤ (I567 235 6) from by first | omega | (simp only [wr, wl] at *; omega)) (show ¬ (I567 235 8) = 0 → (wr ((I567 235 9) + 1)) = (I 235 9) from by first | omega | (simp only [wr, wl] at *; omega))⟩
            ·
              refine ⟨fun _ => ?_, fun c => absurd (show ((5 : Int) < 6) from by decide) c⟩
              refine ⟨_, rfl, (by decide), ?_⟩
              have u643 : (I8 235 8) = (I 235 8) := hW11 _ _ (by first | omega | decide)
              have a644 : -2147483648 ≤ (I 235 8) ∧ (I 235 8) < 2147483648 := hA.1 _ _
              have a645 : -2147483648 ≤ (I8 235 8) ∧ (I8 235 8) < 2147483648 := hA10.1 _ _
              have u646 : (I96 235 8) = (I8 235 8) := hW99 _ _ (by first | omega | decide)
              have a647 : -2147483648 ≤ (I96 235 8) ∧ (I96 235 8) < 2147483648 := hA98.1 _ _
              have u648 : (I195 235 8) = (I96 235 8) := hW198 _ _ (by first | omega | decide)
              have a649 : -2147483648 ≤ (I195 235 8) ∧ (I195 235 8) < 2147483648 := hA197.1 _ _
              have u650 : (I305 235 8) = (I195 235 8) := hW308 _ _ (by first | omega | decide)
              have a651 : -2147483648 ≤ (I305 235 8) ∧ (I305 235 8) < 2147483648 := hA307.1 _ _
              have u652 : (I426 235 8) = (I305 235 8) := hW429 _ _ (by first | omega | decide)
              have a653 : -2147483648 ≤ (I426 235 8) ∧ (I426 235 8) < 2147483648 := hA428.1 _ _
              have u654 : (I508 235 8) = (I426 235 8) := hW511 _ _ (by first | omega | decide)
              have a655 : -2147483648 ≤ (I508 235 8) ∧ (I508 235 8) < 2147483648 := hA510.1 _ _
              refine ⟨fun (c656 : (¬ ((I508 235 8) : Int) = 0)) => ?_, fun (c656 : (((I508 235 8) : Int) = 0)) => ?_⟩
              ·
                refine ⟨_, rfl, (by decide), (by decide), ?_⟩
                refine ⟨_, rfl, (by decide), ?_⟩
                refine ⟨fun _ => ?_, fun c => absurd c (show (¬ (1 : Int) = 0) from by decide)⟩
                refine ⟨_, rfl, (by decide), ?_⟩
                refine ⟨fun _ => ?_, fun c => absurd c (show (¬ (1 : Int) = 0) from by decide)⟩
                have r657 : 0 ≤ (I508 235 6) ∧ (I508 235 6) ≤ 64 := Rg.f6 hR509
                have a658 : -2147483648 ≤ (I508 235 6) ∧ (I508 235 6) < 2147483648 := hA510.1 _ _
                have r659 : 0 ≤ (I508 235 7) ∧ (I508 235 7) ≤ 64 := Rg.f7 hR509
                have a660 : -2147483648 ≤ (I508 235 7) ∧ (I508 235 7) < 2147483648 := hA510.1 _ _
                have r661 : 0 ≤ (I 235 9) ∧ (I 235 9) ≤ 17 := Rg.f9 hR
                have u662 : (I8 235 9) = (I 235 9) := hW11 _ _ (by first | omega | decide)
                have a663 : -2147483648 ≤ (I 235 9) ∧ (I 235 9) < 2147483648 := hA.1 _ _
                have a664 : -2147483648 ≤ (I8 235 9) ∧ (I8 235 9) < 2147483648 := hA10.1 _ _
                have r665 : 0 ≤ (I8 235 9) ∧ (I8 235 9) ≤ 17 := Rg.f9 hR9
                have u666 : (I96 235 9) = (I8 235 9) := hW99 _ _ (by first | omega | decide)
                have a667 : -2147483648 ≤ (I96 235 9) ∧ (I96 235 9) < 2147483648 := hA98.1 _ _
                have r668 : 0 ≤ (I96 235 9) ∧ (I96 235 9) ≤ 17 := Rg.f9 hR97
                have u669 : (I195 235 9) = (I96 235 9) := hW198 _ _ (by first | omega | decide)
                have a670 : -2147483648 ≤ (I195 235 9) ∧ (I195 235 9) < 2147483648 := hA197.1 _ _
                have r671 : 0 ≤ (I195 235 9) ∧ (I195 235 9) ≤ 17 := Rg.f9 hR196
                have u672 : (I305 235 9) = (I195 235 9) := hW308 _ _ (by first | omega | decide)
                have a673 : -2147483648 ≤ (I305 235 9) ∧ (I305 235 9) < 2147483648 := hA307.1 _ _
                have r674 : 0 ≤ (I305 235 9) ∧ (I305 235 9) ≤ 17 := Rg.f9 hR306
                have u675 : (I426 235 9) = (I305 235 9) := hW429 _ _ (by first | omega | decide)
                have a676 : -2147483648 ≤ (I426 235 9) ∧ (I426 235 9) < 2147483648 := hA428.1 _ _
                have r677 : 0 ≤ (I426 235 9) ∧ (I426 235 9) ≤ 17 := Rg.f9 hR427
                have u678 : (I508 235 9) = (I426 235 9) := hW511 _ _ (by first | omega | decide)
                have a679 : -2147483648 ≤ (I508 235 9) ∧ (I508 235 9) < 2147483648 := hA510.1 _ _
                have r680 : 0 ≤ (I508 235 9) ∧ (I508 235 9) ≤ 17 := Rg.f9 hR509
                exact ⟨rfl, fun hv hA' => hQ _ (Rg.u hR509 (Pr_f rfl)) hA' (fun k j hk => ((uI_o (by omega))).trans (((hW511 k j (by omega))).trans (((hW429 k j (by omega))).trans (((hW308 k j (by omega))).trans (((hW198 k j (by omega))).trans (((hW99 k j (by omega))).trans ((hW11 k j (by omega))))))))) (show (I508 235 6) ≤ (I508 235 7) from by first | omega | (simp only [wr, wl] at *; omega)) (show (I508 235 7) ≤ (I 236 2) from by first | omega | (simp only [wr, wl] at *; omega)) (show (I508 235 6) < (I 236 2) → (I508 235 6) < (I508 235 7) from by first | omega | (simp only [wr, wl] at *; omega)) (show (I 235 6) ≤ (I508 235 6) from by first | omega | (simp only [wr, wl] at *; omega)) (show 1 = 0 → (I508 235 9) = (I 235 9) + 1 ∧ (I 235 6) + 3 ≤ (I508 235 6) from by first | omega | (simp only [wr, wl] at *; omega)) (show ¬ 1 = 0 → (I508 235 9) = (I 235 9) from by first | omega | (simp only [wr, wl] at *; omega))⟩
              ·
                refine ⟨fun c => absurd c (show (¬ ((6 : Int) ≤ 5)) from by decide), fun _ => ?_⟩
                refine ⟨_, rfl, (by decide), (by decide), ?_⟩
                refine ⟨_, rfl, (by decide), ?_⟩
                refine ⟨fun _ => ?_, fun c => absurd c (show (¬ (1 : Int) = 0) from by decide)⟩
                refine ⟨_, rfl, (by decide), ?_⟩
                refine ⟨fun _ => ?_, fun c => absurd c (show (¬ (1 : Int) = 0) from by decide)⟩
                have r681 : 0 ≤ (I508 235 6) ∧ (I508 235 6) ≤ 64 := Rg.f6 hR509
                have a682 : -2147483648 ≤ (I508 235 6) ∧ (I508 235 6) < 2147483648 := hA510.1 _ _
                have r683 : 0 ≤ (I508 235 7) ∧ (I508 235 7) ≤ 64 := Rg.f7 hR509
                have a684 : -2147483648 ≤ (I508 235 7) ∧ (I508 235 7) < 2147483648 := hA510.1 _ _
                have r685 : 0 ≤ (I 235 9) ∧ (I 235 9) ≤ 17 := Rg.f9 hR
                have u686 : (I8 235 9) = (I 235 9) := hW11 _ _ (by first | omega | decide)
                have a687 : -2147483648 ≤ (I 235 9) ∧ (I 235 9) < 2147483648 := hA.1 _ _
                have a688 : -2147483648 ≤ (I8 235 9) ∧ (I8 235 9) < 2147483648 := hA10.1 _ _
                have r689 : 0 ≤ (I8 235 9) ∧ (I8 235 9) ≤ 17 := Rg.f9 hR9
                have u690 : (I96 235 9) = (I8 235 9) := hW99 _ _ (by first | omega | decide)
                have a691 : -2147483648 ≤ (I96 235 9) ∧ (I96 235 9) < 2147483648 := hA98.1 _ _
                have r692 : 0 ≤ (I96 235 9) ∧ (I96 235 9) ≤ 17 := Rg.f9 hR97
                have u693 : (I195 235 9) = (I96 235 9) := hW198 _ _ (by first | omega | decide)
                have a694 : -2147483648 ≤ (I195 235 9) ∧ (I195 235 9) < 2147483648 := hA197.1 _ _
                have r695 : 0 ≤ (I195 235 9) ∧ (I195 235 9) ≤ 17 := Rg.f9 hR196
                have u696 : (I305 235 9) = (I195 235 9) := hW308 _ _ (by first | omega | decide)
                have a697 : -2147483648 ≤ (I305 235 9) ∧ (I305 235 9) < 2147483648 := hA307.1 _ _
                have r698 : 0 ≤ (I305 235 9) ∧ (I305 235 9) ≤ 17 := Rg.f9 hR306
                have u699 : (I426 235 9) = (I305 235 9) := hW429 _ _ (by first | omega | decide)
                have a700 : -2147483648 ≤ (I426 235 9) ∧ (I426 235 9) < 2147483648 := hA428.1 _ _
                have r701 : 0 ≤ (I426 235 9) ∧ (I426 235 9) ≤ 17 := Rg.f9 hR427
                have u702 : (I508 235 9) = (I426 235 9) := hW511 _ _ (by first | omega | decide)
                have a703 : -2147483648 ≤ (I508 235 9) ∧ (I508 235 9) < 2147483648 := hA510.1 _ _
                have r704 : 0 ≤ (I508 235 9) ∧ (I508 235 9) ≤ 17 := Rg.f9 hR509
                exact ⟨rfl, fun hv hA' => hQ _ (Rg.u hR509 (Pr_f rfl)) hA' (fun k j hk => ((uI_o (by omega))).trans (((hW511 k j (by omega))).trans (((hW429 k j (by omega))).trans (((hW308 k j (by omega))).trans (((hW198 k j (by omega))).trans (((hW99 k j (by omega))).trans ((hW11 k j (by omega))))))))) (show (I508 235 6) ≤ (I508 235 7) from by first | omega | (simp only [wr, wl] at *; omega)) (show (I508 235 7) ≤ (I 236 2) from by first | omega | (simp only [wr, wl] at *; omega)) (show (I508 235 6) < (I 236 2) → (I508 235 6) < (I508 235 7) from by first | omega | (simp only [wr, wl] at *; omega)) (show (I 235 6) ≤ (I508 235 6) from by first | omega | (simp only [wr, wl] at *; omega)) (show 1 = 0 → (I508 235 9) = (I 235 9) + 1 ∧ (I 235 6) + 3 ≤ (I508 235 6) from by first | omega | (simp only [wr, wl] at *; omega)) (show ¬ 1 = 0 → (I508 235 9) = (I 235 9) from by first | omega | (simp only [wr, wl] at *; omega))⟩
theorem r_program_l2 (hF : FS F) (hR : Rg I) {v0 : Int} (hp : 0 ≤ v0 ∧ v0 ≤ 3) (hQ : ∀ (r : Int) (I' : pI), Rg I' → (∀ k j, ¬ ((k = 235 ∧ (j = 6 ∨ j = 7 ∨ j = 8 ∨ j = 9)) ∨ k = 241 ∨ k = 238 ∨ (k = 236 ∧ (j = 2 ∨ (40 ≤ j ∧ j < 184)))) → I' k j = I k j) → Q (some (vi r)) F I') : ∀ (m : Nat) (f b k : Int) (J : pI), Rg J → (∀ k j, ¬ ((k = 235 ∧ (j = 6 ∨ j = 7 ∨ j = 8 ∨ j = 9)) ∨ k = 241 ∨ k = 238 ∨ (k = 236 ∧ (j = 2 ∨ (40 ≤ j ∧ j < 184)))) → J k j = I k j) → (0 : Int) ≤ f → (f : Int) ≤ 17 → (0 : Int) ≤ k → (k : Int) ≤ 36 → (36 - k).toNat < m → GoN G d kX12_program NP NP 169 [some (vr 235), some (vi v0), some (vi f), some (vi b), some (vi k)] [] F J Q := by
  intro m
  induction m with
  | zero => intro f b k J hJ hV _ _ _ _ h; exact absurd h (Nat.not_lt_zero _)
  | succ m ih =>
    intro f b k J hJ hV c100 c101 c102 c103 hm
    refine GoN_in (fun hok hA => ?_)
    have iv0 : -2147483648 ≤ v0 ∧ v0 < 2147483648 := hok 1 _ rfl
    have if : -2147483648 ≤ f ∧ f < 2147483648 := hok 2 _ rfl
    have ib : -2147483648 ≤ b ∧ b < 2147483648 := hok 3 _ rfl
    have ik : -2147483648 ≤ k ∧ k < 2147483648 := hok 4 _ rfl
    refine Go_wp (by decide) ckX12_program [169] ?_
    refine ⟨fun (c1 : ((36 : Int) ≤ k)) => ?_, fun (c1 : (¬ ((36 : Int) ≤ k))) => ?_⟩
    ·
      refine ⟨_, rfl, (by decide), ?_⟩
      have r2 : 0 ≤ (J 235 9) ∧ (J 235 9) ≤ 17 := Rg.f9 hJ
      exact ⟨rfl, hQ _ _ hJ (fun k j hk => (hV k j (by omega)))⟩
    ·
      refine ⟨_, rfl, (by decide), ?_⟩
      refine fun w0 hw0 => ?_; obtain rfl : w0 = some 236 := hw0.symm.trans (FS.g hF rfl)
      refine ⟨_, rfl, (by decide), ?_⟩
      refine fun w0 hw0 => ?_; obtain rfl : w0 = some 241 := hw0.symm.trans (FS.g hF rfl)
      refine ⟨_, rfl, (by decide), (by first | omega | (simp only [wr, wl] at *; omega)), (by first | omega | (simp only [wr, wl] at *; omega)), ?_⟩
      have n3 : (wr (36 * v0)) = 36 * v0 := wr_id (show -2147483648 ≤ (36 * v0 : Int) ∧ (36 * v0 : Int) < 2147483648 from by omega)
      have n4 : (wr (40 + (wr (36 * v0)))) = 40 + (wr (36 * v0)) := wr_id (show -2147483648 ≤ (40 + (wr (36 * v0)) : Int) ∧ (40 + (wr (36 * v0)) : Int) < 2147483648 from by omega)
      have n5 : (wr ((wr (40 + (wr (36 * v0)))) + k)) = (wr (40 + (wr (36 * v0)))) + k := wr_id (show -2147483648 ≤ ((wr (40 + (wr (36 * v0)))) + k : Int) ∧ ((wr (40 + (wr (36 * v0)))) + k : Int) < 2147483648 from by omega)
      refine ⟨_, rfl, (by decide), (show (0 : Int) ≤ (wr ((wr (40 + (wr (36 * v0)))) + k)) from by first | omega | (simp only [wr, wl] at *; omega)), (show (wr ((wr (40 + (wr (36 * v0)))) + k)) < (1340 : Int) from by first | omega | (simp only [wr, wl] at *; omega)), ?_⟩
      have n6 : (wr (k + 1)) = k + 1 := wr_id (show -2147483648 ≤ (k + 1 : Int) ∧ (k + 1 : Int) < 2147483648 from by omega)
      exact ih f b (wr (k + 1)) (uI J 236 (Int.toNat (wr ((wr (40 + (wr (36 * v0)))) + k))) (J 241 (Int.toNat k))) (Rg.u hJ (Pr_n (by have := Pn_sh (p := Int.toNat v0) (k := Int.toNat k) (by omega) (by omega) (hJ.r (Int.toNat k) (by omega)); rwa [show 40 + 36 * Int.toNat v0 + Int.toNat k = (Int.toNat (wr ((wr (40 + (wr (36 * v0)))) + k))) from by omega] at this))) (fun k j hk => ((uI_o (by omega))).trans ((hV k j (by omega)))) (show (0 : Int) ≤ f from by first | omega | (simp only [wr, wl] at *; omega)) (show (f : Int) ≤ 17 from by first | omega | (simp only [wr, wl] at *; omega)) (show (0 : Int) ≤ (wr (k + 1)) from by first | omega | (simp only [wr, wl] at *; omega)) (show ((wr (k + 1)) : Int) ≤ 36 from by first | omega | (simp only [wr, wl] at *; omega)) (show (36 - (wr (k + 1))).toNat < m from by omega)
theorem r_program_l1 (hF : FS F) (hR : Rg I) {v0 : Int} (hp : 0 ≤ v0 ∧ v0 ≤ 3) (hQ : ∀ (r : Int) (I' : pI), Rg I' → (∀ k j, ¬ ((k = 235 ∧ (j = 6 ∨ j = 7 ∨ j = 8 ∨ j = 9)) ∨ k = 241 ∨ k = 238 ∨ (k = 236 ∧ (j = 2 ∨ (40 ≤ j ∧ j < 184)))) → I' k j = I k j) → Q (some (vi r)) F I') : ∀ (m : Nat) (q b : Int) (J : pI), Rg J → (∀ k j, ¬ ((k = 235 ∧ (j = 6 ∨ j = 7 ∨ j = 8 ∨ j = 9)) ∨ k = 241 ∨ k = 238 ∨ (k = 236 ∧ (j = 2 ∨ (40 ≤ j ∧ j < 184)))) → J k j = I k j) → (0 : Int) ≤ q → (q : Int) ≤ 17 → (J 235 6) ≤ (J 235 7) → (J 235 7) ≤ (J 236 2) → (J 235 6) < (J 236 2) → (J 235 6) < (J 235 7) → (J 235 8) = 0 → 4 * (J 235 9) ≤ (J 235 6) + 1 → (65 - (J 235 6)).toNat < m → GoN G (d + 6) kX12_program NP NP 42 [some (vr 235), some (vi v0), some (vi q), some (vi b), none] [] F J Q := by
  intro m
  induction m with
  | zero => intro q b J hJ hV _ _ _ _ _ _ h; exact absurd h (Nat.not_lt_zero _)
  | succ m ih =>
    intro q b J hJ hV c100 c101 c102 c103 c104 c105 hm
    refine GoN_in (fun hok hA => ?_)
    have iv0 : -2147483648 ≤ v0 ∧ v0 < 2147483648 := hok 1 _ rfl
    have iq : -2147483648 ≤ q ∧ q < 2147483648 := hok 2 _ rfl
    have ib : -2147483648 ≤ b ∧ b < 2147483648 := hok 3 _ rfl
    have r1 : 0 ≤ (J 235 6) ∧ (J 235 6) ≤ 64 := Rg.f6 hJ
    have a2 : -2147483648 ≤ (J 235 6) ∧ (J 235 6) < 2147483648 := hA.1 _ _
    have r3 : 0 ≤ (J 235 7) ∧ (J 235 7) ≤ 64 := Rg.f7 hJ
    have a4 : -2147483648 ≤ (J 235 7) ∧ (J 235 7) < 2147483648 := hA.1 _ _
    have a5 : -2147483648 ≤ (J 235 8) ∧ (J 235 8) < 2147483648 := hA.1 _ _
    have r6 : 0 ≤ (J 235 9) ∧ (J 235 9) ≤ 17 := Rg.f9 hJ
    have a7 : -2147483648 ≤ (J 235 9) ∧ (J 235 9) < 2147483648 := hA.1 _ _
    have r8 : 0 ≤ (J 236 2) ∧ (J 236 2) ≤ 64 := Rg.n2 hJ
    have a9 : -2147483648 ≤ (J 236 2) ∧ (J 236 2) < 2147483648 := hA.1 _ _
    refine Go_wp (by decide) ckX12_program [42, 169] ?_
    refine ⟨fun (c10 : ((b : Int) = 0)) => ?_, fun (c10 : (¬ ((b : Int) = 0))) => ?_⟩
    ·
      refine ⟨⟨_, rfl, (by decide)⟩, ?_⟩
      refine r_takes_16 hF hJ (show (J 235 6) ≤ (J 235 7) from by first | omega | (simp only [wr, wl] at *; omega)) (show (J 235 7) ≤ (J 236 2) from by first | omega | (simp only [wr, wl] at *; omega)) (show (J 235 6) < (J 236 2) → (J 235 6) < (J 235 7) from by first | omega | (simp only [wr, wl] at *; omega)) (fun v11 I12 hR13 hA14 hr16 hW15 q17 q18 q19 q20 q21 q22 q23 => ?_)
      have hr16 : -2147483648 ≤ v11 ∧ v11 < 2147483648 := hr16
      refine ⟨fun (c24 : ((v11 : Int) = 0)) => ?_, fun (c24 : (¬ ((v11 : Int) = 0))) => ?_⟩
      ·
        refine ⟨_, rfl, (by decide), ?_⟩
        have u25 : (I12 235 8) = (J 235 8) := hW15 _ _ (by first | omega | decide)
        have a26 : -2147483648 ≤ (I12 235 8) ∧ (I12 235 8) < 2147483648 := hA14.1 _ _
        refine ⟨fun (c27 : (¬ ((I12 235 8) : Int) = 0)) => ?_, fun (c27 : (((I12 235 8) : Int) = 0)) => ?_⟩
        ·
          refine ⟨_, rfl, (by decide), (by decide), ?_⟩
          refine ⟨_, rfl, (by decide), ?_⟩
          refine fun w0 hw0 => ?_; obtain rfl : w0 = some 236 := hw0.symm.trans (FS.g hF rfl)
          refine ⟨_, rfl, (by decide), (by decide), (by decide), ?_⟩
          have p28 : Pn 2 0 := by apply Pn_w <;> omega
          refine ⟨_, rfl, (by decide), ?_⟩
          refine ⟨fun c => absurd c (show (¬ ((1 : Int) = 0)) from by decide), fun _ => ?_⟩
          refine ⟨_, rfl, (by decide), ?_⟩
          have r29 : 0 ≤ (I12 235 6) ∧ (I12 235 6) ≤ 64 := Rg.f6 hR13
          exact ⟨rfl, hQ _ _ (Rg.u (Rg.u hR13 (Pr_f rfl)) (Pr_n p28)) (fun k j hk => ((uI_o (by omega))).trans (((uI_o (by omega))).trans (((hW15 k j (by omega))).trans ((hV k j (by omega))))))⟩
        ·
          refine ⟨_, rfl, (by decide), ?_⟩
          have r30 : 0 ≤ (I12 235 6) ∧ (I12 235 6) ≤ 64 := Rg.f6 hR13
          refine ⟨_, rfl, (by decide), ?_⟩
          refine fun w0 hw0 => ?_; obtain rfl : w0 = some 236 := hw0.symm.trans (FS.g hF rfl)
          refine ⟨_, rfl, (by decide), (by decide), (by decide), ?_⟩
          have u31 : (I12 236 2) = (J 236 2) := hW15 _ _ (by first | omega | decide)
          have a32 : -2147483648 ≤ (I12 236 2) ∧ (I12 236 2) < 2147483648 := hA14.1 _ _
          have r33 : 0 ≤ (I12 236 2) ∧ (I12 236 2) ≤ 64 := Rg.n2 hR13
          have a34 : -2147483648 ≤ (I12 235 6) ∧ (I12 235 6) < 2147483648 := hA14.1 _ _
          refine ⟨fun (c35 : (((I12 236 2) : Int) ≤ (I12 235 6))) => ?_, fun (c35 : (¬ (((I12 236 2) : Int) ≤ (I12 235 6)))) => ?_⟩
          ·
            refine ⟨_, rfl, (by decide), (by decide), ?_⟩
            refine ⟨_, rfl, (by decide), ?_⟩
            refine fun w0 hw0 => ?_; obtain rfl : w0 = some 236 := hw0.symm.trans (FS.g hF rfl)
            refine ⟨_, rfl, (by decide), (by decide), (by decide), ?_⟩
            have p36 : Pn 2 0 := by apply Pn_w <;> omega
            refine ⟨_, rfl, (by decide), ?_⟩
            refine ⟨fun _ => ?_, fun c => absurd (show ((0 : Int) = 0) from by decide) c⟩
            refine ⟨_, rfl, (by decide), ?_⟩
            refine fun w0 hw0 => ?_; obtain rfl : w0 = some 241 := hw0.symm.trans (FS.g hF rfl)
            refine ⟨_, rfl, (by decide), ?_⟩
            have u37 : (I12 235 9) = (J 235 9) := hW15 _ _ (by first | omega | decide)
            have a38 : -2147483648 ≤ (I12 235 9) ∧ (I12 235 9) < 2147483648 := hA14.1 _ _
            have r39 : 0 ≤ (I12 235 9) ∧ (I12 235 9) ≤ 17 := Rg.f9 hR13
            refine ⟨_, rfl, (by decide), (by decide), (by decide), ?_⟩
            have p40 : Pn (40 + 0) (I12 235 9) := by apply Pn_w <;> omega
            refine ⟨_, rfl, (by decide), ?_⟩
            refine fun w0 hw0 => ?_; obtain rfl : w0 = some 241 := hw0.symm.trans (FS.g hF rfl)
            refine ⟨fun _ => ?_, fun c => absurd (show ((b : Int) = 0) from by first | omega | (simp only [wr, wl] at *; omega)) c⟩
            refine ⟨_, rfl, (by decide), ?_⟩
            refine ⟨_, rfl, (by decide), (by decide), (by decide), ?_⟩
            have p41 : Pn (40 + 1) (I12 235 9) := by apply Pn_w <;> omega
            refine r_program_l2 hF hR (by omega) hQ _ q b 0 (uI (uI (uI (uI I12 235 8 0) 236 2 0) 241 0 (I12 235 9)) 241 1 (I12 235 9)) (Rg.u (Rg.u (Rg.u (Rg.u hR13 (Pr_f rfl)) (Pr_n p36)) (Pr_r p40)) (Pr_r p41)) (fun k j hk => ((uI_o (by omega))).trans (((uI_o (by omega))).trans (((uI_o (by omega))).trans (((uI_o (by omega))).trans (((hW15 k j (by omega))).trans ((hV k j (by omega)))))))) (show (0 : Int) ≤ q from by first | omega | (simp only [wr, wl] at *; omega)) (show (q : Int) ≤ 17 from by first | omega | (simp only [wr, wl] at *; omega)) (show (0 : Int) ≤ (0 : Int) from by first | omega | (simp only [wr, wl] at *; omega)) (show ((0 : Int) : Int) ≤ 36 from by first | omega | (simp only [wr, wl] at *; omega)) (Nat.lt_succ_self _)
          ·
            refine ⟨_, rfl, (by decide), (by decide), ?_⟩
            refine ⟨_, rfl, (by decide), ?_⟩
            refine fun w0 hw0 => ?_; obtain rfl : w0 = some 236 := hw0.symm.trans (FS.g hF rfl)
            refine ⟨_, rfl, (by decide), (by decide), (by decide), ?_⟩
            have p42 : Pn 2 0 := by apply Pn_w <;> omega
            refine ⟨_, rfl, (by decide), ?_⟩
            refine ⟨fun c => absurd c (show (¬ ((1 : Int) = 0)) from by decide), fun _ => ?_⟩
            refine ⟨_, rfl, (by decide), ?_⟩
            exact ⟨rfl, hQ _ _ (Rg.u (Rg.u hR13 (Pr_f rfl)) (Pr_n p42)) (fun k j hk => ((uI_o (by omega))).trans (((uI_o (by omega))).trans (((hW15 k j (by omega))).trans ((hV k j (by omega))))))⟩
      ·
        refine ⟨fun c => absurd (show ((b : Int) = 0) from by first | omega | (simp only [wr, wl] at *; omega)) c, fun _ => ?_⟩
        refine ⟨⟨_, rfl, (by decide)⟩, ?_⟩
        have r43 : 0 ≤ (I12 235 6) ∧ (I12 235 6) ≤ 64 := Rg.f6 hR13
        have a44 : -2147483648 ≤ (I12 235 6) ∧ (I12 235 6) < 2147483648 := hA14.1 _ _
        have r45 : 0 ≤ (I12 235 7) ∧ (I12 235 7) ≤ 64 := Rg.f7 hR13
        have a46 : -2147483648 ≤ (I12 235 7) ∧ (I12 235 7) < 2147483648 := hA14.1 _ _
        have u47 : (I12 236 2) = (J 236 2) := hW15 _ _ (by first | omega | decide)
        have a48 : -2147483648 ≤ (I12 236 2) ∧ (I12 236 2) < 2147483648 := hA14.1 _ _
        have r49 : 0 ≤ (I12 236 2) ∧ (I12 236 2) ≤ 64 := Rg.n2 hR13
        refine r_takes_17 hF hR13 (show (I12 235 6) ≤ (I12 235 7) from by first | omega | (simp only [wr, wl] at *; omega)) (show (I12 235 7) ≤ (I12 236 2) from by first | omega | (simp only [wr, wl] at *; omega)) (show (I12 235 6) < (I12 236 2) → (I12 235 6) < (I12 235 7) from by first | omega | (simp only [wr, wl] at *; omega)) (fun v50 I51 hR52 hA53 hr55 hW54 q56 q57 q58 q59 q60 q61 q62 => ?_)
        have hr55 : -2147483648 ≤ v50 ∧ v50 < 2147483648 := hr55
        refine ⟨fun (c63 : ((v50 : Int) = 0)) => ?_, fun (c63 : (¬ ((v50 : Int) = 0))) => ?_⟩
        ·
          refine ⟨⟨_, rfl, (by decide)⟩, ?_⟩
          have r64 : 0 ≤ (I51 235 6) ∧ (I51 235 6) ≤ 64 := Rg.f6 hR52
          have a65 : -2147483648 ≤ (I51 235 6) ∧ (I51 235 6) < 2147483648 := hA53.1 _ _
          have r66 : 0 ≤ (I51 235 7) ∧ (I51 235 7) ≤ 64 := Rg.f7 hR52
          have a67 : -2147483648 ≤ (I51 235 7) ∧ (I51 235 7) < 2147483648 := hA53.1 _ _
          have u68 : (I51 236 2) = (I12 236 2) := hW54 _ _ (by first | omega | decide)
          have a69 : -2147483648 ≤ (I51 236 2) ∧ (I51 236 2) < 2147483648 := hA53.1 _ _
          have r70 : 0 ≤ (I51 236 2) ∧ (I51 236 2) ≤ 64 := Rg.n2 hR52
          have u71 : (I12 235 9) = (J 235 9) := hW15 _ _ (by first | omega | decide)
          have a72 : -2147483648 ≤ (I12 235 9) ∧ (I12 235 9) < 2147483648 := hA14.1 _ _
          have r73 : 0 ≤ (I12 235 9) ∧ (I12 235 9) ≤ 17 := Rg.f9 hR13
          have u74 : (I51 235 9) = (I12 235 9) := hW54 _ _ (by first | omega | decide)
          have a75 : -2147483648 ≤ (I51 235 9) ∧ (I51 235 9) < 2147483648 := hA53.1 _ _
          have r76 : 0 ≤ (I51 235 9) ∧ (I51 235 9) ≤ 17 := Rg.f9 hR52
          refine r_part hF hR52 (show (I51 235 6) ≤ (I51 235 7) from by first | omega | (simp only [wr, wl] at *; omega)) (show (I51 235 7) ≤ (I51 236 2) from by first | omega | (simp only [wr, wl] at *; omega)) (show (I51 235 6) < (I51 236 2) → (I51 235 6) < (I51 235 7) from by first | omega | (simp only [wr, wl] at *; omega)) (show (I51 235 9) ≤ 16 from by first | omega | (simp only [wr, wl] at *; omega)) (fun I77 hR78 hA79 hW80 q81 q82 q83 q84 q85 q86 => ?_)
          have r87 : 0 ≤ (I77 235 6) ∧ (I77 235 6) ≤ 64 := Rg.f6 hR78
          have a88 : -2147483648 ≤ (I77 235 6) ∧ (I77 235 6) < 2147483648 := hA79.1 _ _
          have r89 : 0 ≤ (I77 235 7) ∧ (I77 235 7) ≤ 64 := Rg.f7 hR78
          have a90 : -2147483648 ≤ (I77 235 7) ∧ (I77 235 7) < 2147483648 := hA79.1 _ _
          have a91 : -2147483648 ≤ (I77 235 8) ∧ (I77 235 8) < 2147483648 := hA79.1 _ _
          have r92 : 0 ≤ (I77 235 9) ∧ (I77 235 9) ≤ 17 := Rg.f9 hR78
          have a93 : -2147483648 ≤ (I77 235 9) ∧ (I77 235 9) < 2147483648 := hA79.1 _ _
          have u94 : (I77 236 2) = (I51 236 2) := hW80 _ _ (by first | omega | decide)
          have a95 : -2147483648 ≤ (I77 236 2) ∧ (I77 236 2) < 2147483648 := hA79.1 _ _
          have r96 : 0 ≤ (I77 236 2) ∧ (I77 236 2) ≤ 64 := Rg.n2 hR78
          exact ih q b I77 hR78 (fun k j hk => ((hW80 k j (by omega))).trans (((hW54 k j (by omega))).trans (((hW15 k j (by omega))).trans ((hV k j (by omega)))))) (show (0 : Int) ≤ q from by first | omega | (simp only [wr, wl] at *; omega)) (show (q : Int) ≤ 17 from by first | omega | (simp only [wr, wl] at *; omega)) (show (I77 235 6) ≤ (I77 235 7) from by first | omega | (simp only [wr, wl] at *; omega)) (show (I77 235 7) ≤ (I77 236 2) from by first | omega | (simp only [wr, wl] at *; omega)) (show (I77 235 6) < (I77 236 2) → (I77 235 6) < (I77 235 7) from by first | omega | (simp only [wr, wl] at *; omega)) (show (I77 235 8) = 0 → 4 * (I77 235 9) ≤ (I77 235 6) + 1 from by first | omega | (simp only [wr, wl] at *; omega)) (show (65 - (I77 235 6)).toNat < m from by omega)
        ·
          refine ⟨_, rfl, (by decide), ?_⟩
          have u97 : (I12 235 9) = (J 235 9) := hW15 _ _ (by first | omega | decide)
          have a98 : -2147483648 ≤ (I12 235 9) ∧ (I12 235 9) < 2147483648 := hA14.1 _ _
          have r99 : 0 ≤ (I12 235 9) ∧ (I12 235 9) ≤ 17 := Rg.f9 hR13
          have u100 : (I51 235 9) = (I12 235 9) := hW54 _ _ (by first | omega | decide)
          have a101 : -2147483648 ≤ (I51 235 9) ∧ (I51 235 9) < 2147483648 := hA53.1 _ _
          have r102 : 0 ≤ (I51 235 9) ∧ (I51 235 9) ≤ 17 := Rg.f9 hR52
          refine ⟨⟨_, rfl, (by decide)⟩, ?_⟩
          have r103 : 0 ≤ (I51 235 6) ∧ (I51 235 6) ≤ 64 := Rg.f6 hR52
          have a104 : -2147483648 ≤ (I51 235 6) ∧ (I51 235 6) < 2147483648 := hA53.1 _ _
          have r105 : 0 ≤ (I51 235 7) ∧ (I51 235 7) ≤ 64 := Rg.f7 hR52
          have a106 : -2147483648 ≤ (I51 235 7) ∧ (I51 235 7) < 2147483648 := hA53.1 _ _
          have u107 : (I51 236 2) = (I12 236 2) := hW54 _ _ (by first | omega | decide)
          have a108 : -2147483648 ≤ (I51 236 2) ∧ (I51 236 2) < 2147483648 := hA53.1 _ _
          have r109 : 0 ≤ (I51 236 2) ∧ (I51 236 2) ≤ 64 := Rg.n2 hR52
          refine r_part hF hR52 (show (I51 235 6) ≤ (I51 235 7) from by first | omega | (simp only [wr, wl] at *; omega)) (show (I51 235 7) ≤ (I51 236 2) from by first | omega | (simp only [wr, wl] at *; omega)) (show (I51 235 6) < (I51 236 2) → (I51 235 6) < (I51 235 7) from by first | omega | (simp only [wr, wl] at *; omega)) (show (I51 235 9) ≤ 16 from by first | omega | (simp only [wr, wl] at *; omega)) (fun I110 hR111 hA112 hW113 q114 q115 q116 q117 q118 q119 => ?_)
          have r120 : 0 ≤ (I110 235 6) ∧ (I110 235 6) ≤ 64 := Rg.f6 hR111
          have a121 : -2147483648 ≤ (I110 235 6) ∧ (I110 235 6) < 2147483648 := hA112.1 _ _
          have r122 : 0 ≤ (I110 235 7) ∧ (I110 235 7) ≤ 64 := Rg.f7 hR111
          have a123 : -2147483648 ≤ (I110 235 7) ∧ (I110 235 7) < 2147483648 := hA112.1 _ _
          have a124 : -2147483648 ≤ (I110 235 8) ∧ (I110 235 8) < 2147483648 := hA112.1 _ _
          have r125 : 0 ≤ (I110 235 9) ∧ (I110 235 9) ≤ 17 := Rg.f9 hR111
          have a126 : -2147483648 ≤ (I110 235 9) ∧ (I110 235 9) < 2147483648 := hA112.1 _ _
          have u127 : (I110 236 2) = (I51 236 2) := hW113 _ _ (by first | omega | decide)
          have a128 : -2147483648 ≤ (I110 236 2) ∧ (I110 236 2) < 2147483648 := hA112.1 _ _
          have r129 : 0 ≤ (I110 236 2) ∧ (I110 236 2) ≤ 64 := Rg.n2 hR111
          exact ih (I51 235 9) 1 I110 hR111 (fun k j hk => ((hW113 k j (by omega))).trans (((hW54 k j (by omega))).trans (((hW15 k j (by omega))).trans ((hV k j (by omega)))))) (show (0 : Int) ≤ (I51 235 9) from by first | omega | (simp only [wr, wl] at *; omega)) (show ((I51 235 9) : Int) ≤ 17 from by first | omega | (simp only [wr, wl] at *; omega)) (show (I110 235 6) ≤ (I110 235 7) from by first | omega | (simp only [wr, wl] at *; omega)) (show (I110 235 7) ≤ (I110 236 2) from by first | omega | (simp only [wr, wl] at *; omega)) (show (I110 235 6) < (I110 236 2) → (I110 235 6) < (I110 235 7) from by first | omega | (simp only [wr, wl] at *; omega)) (show (I110 235 8) = 0 → 4 * (I110 235 9) ≤ (I110 235 6) + 1 from by first | omega | (simp only [wr, wl] at *; omega)) (show (65 - (I110 235 6)).toNat < m from by omega)
    ·
      refine ⟨⟨_, rfl, (by decide)⟩, ?_⟩
      refine r_takes_15 hF hJ (show (J 235 6) ≤ (J 235 7) from by first | omega | (simp only [wr, wl] at *; omega)) (show (J 235 7) ≤ (J 236 2) from by first | omega | (simp only [wr, wl] at *; omega)) (show (J 235 6) < (J 236 2) → (J 235 6) < (J 235 7) from by first | omega | (simp only [wr, wl] at *; omega)) (fun v130 I131 hR132 hA133 hr135 hW134 q136 q137 q138 q139 q140 q141 q142 => ?_)
      have hr135 : -2147483648 ≤ v130 ∧ v130 < 2147483648 := hr135
      refine ⟨fun (c143 : ((v130 : Int) = 0)) => ?_, fun (c143 : (¬ ((v130 : Int) = 0))) => ?_⟩
      ·
        refine ⟨_, rfl, (by decide), ?_⟩
        have u144 : (I131 235 8) = (J 235 8) := hW134 _ _ (by first | omega | decide)
        have a145 : -2147483648 ≤ (I131 235 8) ∧ (I131 235 8) < 2147483648 := hA133.1 _ _
        refine ⟨fun (c146 : (¬ ((I131 235 8) : Int) = 0)) => ?_, fun (c146 : (((I131 235 8) : Int) = 0)) => ?_⟩
        ·
          refine ⟨_, rfl, (by decide), (by decide), ?_⟩
          refine ⟨_, rfl, (by decide), ?_⟩
          refine fun w0 hw0 => ?_; obtain rfl : w0 = some 236 := hw0.symm.trans (FS.g hF rfl)
          refine ⟨_, rfl, (by decide), (by decide), (by decide), ?_⟩
          have p147 : Pn 2 0 := by apply Pn_w <;> omega
          refine ⟨_, rfl, (by decide), ?_⟩
          refine ⟨fun c => absurd c (show (¬ ((1 : Int) = 0)) from by decide), fun _ => ?_⟩
          refine ⟨_, rfl, (by decide), ?_⟩
          have r148 : 0 ≤ (I131 235 6) ∧ (I131 235 6) ≤ 64 := Rg.f6 hR132
          exact ⟨rfl, hQ _ _ (Rg.u (Rg.u hR132 (Pr_f rfl)) (Pr_n p147)) (fun k j hk => ((uI_o (by omega))).trans (((uI_o (by omega))).trans (((hW134 k j (by omega))).trans ((hV k j (by omega))))))⟩
        ·
          refine ⟨_, rfl, (by decide), ?_⟩
          have r149 : 0 ≤ (I131 235 6) ∧ (I131 235 6) ≤ 64 := Rg.f6 hR132
          refine ⟨_, rfl, (by decide), ?_⟩
          refine fun w0 hw0 => ?_; obtain rfl : w0 = some 236 := hw0.symm.trans (FS.g hF rfl)
          refine ⟨_, rfl, (by decide), (by decide), (by decide), ?_⟩
          have u150 : (I131 236 2) = (J 236 2) := hW134 _ _ (by first | omega | decide)
          have a151 : -2147483648 ≤ (I131 236 2) ∧ (I131 236 2) < 2147483648 := hA133.1 _ _
          have r152 : 0 ≤ (I131 236 2) ∧ (I131 236 2) ≤ 64 := Rg.n2 hR132
          have a153 : -2147483648 ≤ (I131 235 6) ∧ (I131 235 6) < 2147483648 := hA133.1 _ _
          refine ⟨fun (c154 : (((I131 236 2) : Int) ≤ (I131 235 6))) => ?_, fun (c154 : (¬ (((I131 236 2) : Int) ≤ (I131 235 6)))) => ?_⟩
          ·
            refine ⟨_, rfl, (by decide), (by decide), ?_⟩
            refine ⟨_, rfl, (by decide), ?_⟩
            refine fun w0 hw0 => ?_; obtain rfl : w0 = some 236 := hw0.symm.trans (FS.g hF rfl)
            refine ⟨_, rfl, (by decide), (by decide), (by decide), ?_⟩
            have p155 : Pn 2 0 := by apply Pn_w <;> omega
            refine ⟨_, rfl, (by decide), ?_⟩
            refine ⟨fun _ => ?_, fun c => absurd (show ((0 : Int) = 0) from by decide) c⟩
            refine ⟨_, rfl, (by decide), ?_⟩
            refine fun w0 hw0 => ?_; obtain rfl : w0 = some 241 := hw0.symm.trans (FS.g hF rfl)
            refine ⟨_, rfl, (by decide), ?_⟩
            have u156 : (I131 235 9) = (J 235 9) := hW134 _ _ (by first | omega | decide)
            have a157 : -2147483648 ≤ (I131 235 9) ∧ (I131 235 9) < 2147483648 := hA133.1 _ _
            have r158 : 0 ≤ (I131 235 9) ∧ (I131 235 9) ≤ 17 := Rg.f9 hR132
            refine ⟨_, rfl, (by decide), (by decide), (by decide), ?_⟩
            have p159 : Pn (40 + 0) (I131 235 9) := by apply Pn_w <;> omega
            refine ⟨_, rfl, (by decide), ?_⟩
            refine fun w0 hw0 => ?_; obtain rfl : w0 = some 241 := hw0.symm.trans (FS.g hF rfl)
            refine ⟨fun c => absurd c (show (¬ ((b : Int) = 0)) from by first | omega | (simp only [wr, wl] at *; omega)), fun _ => ?_⟩
            refine ⟨_, rfl, (by decide), (by decide), (by decide), ?_⟩
            have p160 : Pn (40 + 1) q := by apply Pn_w <;> omega
            refine r_program_l2 hF hR (by omega) hQ _ q b 0 (uI (uI (uI (uI I131 235 8 0) 236 2 0) 241 0 (I131 235 9)) 241 1 q) (Rg.u (Rg.u (Rg.u (Rg.u hR132 (Pr_f rfl)) (Pr_n p155)) (Pr_r p159)) (Pr_r p160)) (fun k j hk => ((uI_o (by omega))).trans (((uI_o (by omega))).trans (((uI_o (by omega))).trans (((uI_o (by omega))).trans (((hW134 k j (by omega))).trans ((hV k j (by omega)))))))) (show (0 : Int) ≤ q from by first | omega | (simp only [wr, wl] at *; omega)) (show (q : Int) ≤ 17 from by first | omega | (simp only [wr, wl] at *; omega)) (show (0 : Int) ≤ (0 : Int) from by first | omega | (simp only [wr, wl] at *; omega)) (show ((0 : Int) : Int) ≤ 36 from by first | omega | (simp only [wr, wl] at *; omega)) (Nat.lt_succ_self _)
          ·
            refine ⟨_, rfl, (by decide), (by decide), ?_⟩
            refine ⟨_, rfl, (by decide), ?_⟩
            refine fun w0 hw0 => ?_; obtain rfl : w0 = some 236 := hw0.symm.trans (FS.g hF rfl)
            refine ⟨_, rfl, (by decide), (by decide), (by decide), ?_⟩
            have p161 : Pn 2 0 := by apply Pn_w <;> omega
            refine ⟨_, rfl, (by decide), ?_⟩
            refine ⟨fun c => absurd c (show (¬ ((1 : Int) = 0)) from by decide), fun _ => ?_⟩
            refine ⟨_, rfl, (by decide), ?_⟩
            exact ⟨rfl, hQ _ _ (Rg.u (Rg.u hR132 (Pr_f rfl)) (Pr_n p161)) (fun k j hk => ((uI_o (by omega))).trans (((uI_o (by omega))).trans (((hW134 k j (by omega))).trans ((hV k j (by omega))))))⟩
      ·
        refine ⟨fun _ => ?_, fun c => absurd c (show (¬ (b : Int) = 0) from by first | omega | (simp only [wr, wl] at *; omega))⟩
        refine ⟨⟨_, rfl, (by decide)⟩, ?_⟩
        have r162 : 0 ≤ (I131 235 6) ∧ (I131 235 6) ≤ 64 := Rg.f6 hR132
        have a163 : -2147483648 ≤ (I131 235 6) ∧ (I131 235 6) < 2147483648 := hA133.1 _ _
        have r164 : 0 ≤ (I131 235 7) ∧ (I131 235 7) ≤ 64 := Rg.f7 hR132
        have a165 : -2147483648 ≤ (I131 235 7) ∧ (I131 235 7) < 2147483648 := hA133.1 _ _
        have u166 : (I131 236 2) = (J 236 2) := hW134 _ _ (by first | omega | decide)
        have a167 : -2147483648 ≤ (I131 236 2) ∧ (I131 236 2) < 2147483648 := hA133.1 _ _
        have r168 : 0 ≤ (I131 236 2) ∧ (I131 236 2) ≤ 64 := Rg.n2 hR132
        have u169 : (I131 235 9) = (J 235 9) := hW134 _ _ (by first | omega | decide)
        have a170 : -2147483648 ≤ (I131 235 9) ∧ (I131 235 9) < 2147483648 := hA133.1 _ _
        have r171 : 0 ≤ (I131 235 9) ∧ (I131 235 9) ≤ 17 := Rg.f9 hR132
        refine r_part hF hR132 (show (I131 235 6) ≤ (I131 235 7) from by first | omega | (simp only [wr, wl] at *; omega)) (show (I131 235 7) ≤ (I131 236 2) from by first | omega | (simp only [wr, wl] at *; omega)) (show (I131 235 6) < (I131 236 2) → (I131 235 6) < (I131 235 7) from by first | omega | (simp only [wr, wl] at *; omega)) (show (I131 235 9) ≤ 16 from by first | omega | (simp only [wr, wl] at *; omega)) (fun I172 hR173 hA174 hW175 q176 q177 q178 q179 q180 q181 => ?_)
        have r182 : 0 ≤ (I172 235 6) ∧ (I172 235 6) ≤ 64 := Rg.f6 hR173
        have a183 : -2147483648 ≤ (I172 235 6) ∧ (I172 235 6) < 2147483648 := hA174.1 _ _
        have r184 : 0 ≤ (I172 235 7) ∧ (I172 235 7) ≤ 64 := Rg.f7 hR173
        have a185 : -2147483648 ≤ (I172 235 7) ∧ (I172 235 7) < 2147483648 := hA174.1 _ _
        have a186 : -2147483648 ≤ (I172 235 8) ∧ (I172 235 8) < 2147483648 := hA174.1 _ _
        have r187 : 0 ≤ (I172 235 9) ∧ (I172 235 9) ≤ 17 := Rg.f9 hR173
        have a188 : -2147483648 ≤ (I172 235 9) ∧ (I172 235 9) < 2147483648 := hA174.1 _ _
        have u189 : (I172 236 2) = (I131 236 2) := hW175 _ _ (by first | omega | decide)
        have a190 : -2147483648 ≤ (I172 236 2) ∧ (I172 236 2) < 2147483648 := hA174.1 _ _
        have r191 : 0 ≤ (I172 236 2) ∧ (I172 236 2) ≤ 64 := Rg.n2 hR173
        exact ih q b I172 hR173 (fun k j hk => ((hW175 k j (by omega))).trans (((hW134 k j (by omega))).trans ((hV k j (by omega))))) (show (0 : Int) ≤ q from by first | omega | (simp only [wr, wl] at *; omega)) (show (q : Int) ≤ 17 from by first | omega | (simp only [wr, wl] at *; omega)) (show (I172 235 6) ≤ (I172 235 7) from by first | omega | (simp only [wr, wl] at *; omega)) (show (I172 235 7) ≤ (I172 236 2) from by first | omega | (simp only [wr, wl] at *; omega)) (show (I172 235 6) < (I172 236 2) → (I172 235 6) < (I172 235 7) from by first | omega | (simp only [wr, wl] at *; omega)) (show (I172 235 8) = 0 → 4 * (I172 235 9) ≤ (I172 235 6) + 1 from by first | omega | (simp only [wr, wl] at *; omega)) (show (65 - (I172 235 6)).toNat < m from by omega)
theorem r_program (hF : FS F) (hR : Rg I) {v0 : Int}  (hQ : ∀ (r : Int) (I' : pI), Rg I' → AR I' → iR r → (∀ k j, ¬ ((k = 235 ∧ (j = 6 ∨ j = 7 ∨ j = 8 ∨ j = 9)) ∨ k = 241 ∨ k = 238 ∨ (k = 236 ∧ (j = 2 ∨ (40 ≤ j ∧ j < 184)))) → I' k j = I k j) → Q (some (vi r)) F I') : CallN G (d + 6) kX12_program [vr 235, vi v0] NP F I Q := by
  refine CallN_in (fun hok hA => CallN_out ?_)
  have iv0 : -2147483648 ≤ v0 ∧ v0 < 2147483648 := hok (vi v0) (by simp)
  refine Call_wp (lv := [some (vr 235), some (vi v0), none, none, none]) (by decide) ckX12_program [42] rfl rfl ?_
  refine ⟨⟨_, rfl, (by decide)⟩, ?_⟩
  refine s_X12_isProgram (fun (w1 : ((0 : Int) ≤ v0 ∧ (v0 : Int) ≤ 3)) => ?_) (fun (w1 : ¬ ((0 : Int) ≤ v0 ∧ (v0 : Int) ≤ 3)) => ?_)
  ·
    refine ⟨fun _ => ?_, fun c => absurd c (show (¬ (1 : Int) = 0) from by decide)⟩
    refine ⟨_, rfl, (by decide), ?_⟩
    have p2 : (0 : Int) ≤ 0 ∧ (0 : Int) ≤ 64 := by decide
    refine ⟨_, rfl, (by decide), (by decide), ?_⟩
    refine ⟨_, rfl, (by decide), ?_⟩
    have p3 : (0 : Int) ≤ 0 ∧ (0 : Int) ≤ 17 := by decide
    refine ⟨⟨_, rfl, (by decide)⟩, ?_⟩
    have r4 : 0 ≤ (I 236 2) ∧ (I 236 2) ≤ 64 := Rg.n2 hR
    have a5 : -2147483648 ≤ (I 236 2) ∧ (I 236 2) < 2147483648 := hA.1 _ _
    refine r_goOn hF (Rg.u (Rg.u (Rg.u hR (Pr_x7 p2)) (Pr_f rfl)) (Pr_x9 p3)) (show 0 ≤ (I 236 2) from by first | omega | (simp only [wr, wl] at *; omega)) (fun I6 hR7 hA8 hW9 q10 q11 q12 q13 => ?_)
    refine ⟨⟨_, rfl, (by decide)⟩, ?_⟩
    have r14 : 0 ≤ (I6 235 6) ∧ (I6 235 6) ≤ 64 := Rg.f6 hR7
    have a15 : -2147483648 ≤ (I6 235 6) ∧ (I6 235 6) < 2147483648 := hA8.1 _ _
    have r16 : 0 ≤ (I6 235 7) ∧ (I6 235 7) ≤ 64 := Rg.f7 hR7
    have a17 : -2147483648 ≤ (I6 235 7) ∧ (I6 235 7) < 2147483648 := hA8.1 _ _
    have u18 : (I6 236 2) = ((uI (uI (uI I 235 7 0) 235 8 0) 235 9 0) 236 2) := hW9 _ _ (by first | omega | decide)
    have u19 : ((uI (uI (uI I 235 7 0) 235 8 0) 235 9 0) 236 2) = (I 236 2) := rfl
    have a20 : -2147483648 ≤ (I6 236 2) ∧ (I6 236 2) < 2147483648 := hA8.1 _ _
    have r21 : 0 ≤ (I6 236 2) ∧ (I6 236 2) ≤ 64 := Rg.n2 hR7
    have u22 : (I6 235 9) = ((uI (uI (uI I 235 7 0) 235 8 0) 235 9 0) 235 9) := hW9 _ _ (by first | omega | decide)
    have u23 : ((uI (uI (uI I 235 7 0) 235 8 0) 235 9 0) 235 9) = 0 := rfl
    have a24 : -2147483648 ≤ (I6 235 9) ∧ (I6 235 9) < 2147483648 := hA8.1 _ _
    have r25 : 0 ≤ (I6 235 9) ∧ (I6 235 9) ≤ 17 := Rg.f9 hR7
    refine r_part hF hR7 (show (I6 235 6) ≤ (I6 235 7) from by first | omega | (simp only [wr, wl] at *; omega)) (show (I6 235 7) ≤ (I6 236 2) from by first | omega | (simp only [wr, wl] at *; omega)) (show (I6 235 6) < (I6 236 2) → (I6 235 6) < (I6 235 7) from by first | omega | (simp only [wr, wl] at *; omega)) (show (I6 235 9) ≤ 16 from by first | omega | (simp only [wr, wl] at *; omega)) (fun I26 hR27 hA28 hW29 q30 q31 q32 q33 q34 q35 => ?_)
    have r36 : 0 ≤ (I26 235 6) ∧ (I26 235 6) ≤ 64 := Rg.f6 hR27
    have a37 : -2147483648 ≤ (I26 235 6) ∧ (I26 235 6) < 2147483648 := hA28.1 _ _
    have r38 : 0 ≤ (I26 235 7) ∧ (I26 235 7) ≤ 64 := Rg.f7 hR27
    have a39 : -2147483648 ≤ (I26 235 7) ∧ (I26 235 7) < 2147483648 := hA28.1 _ _
    have a40 : -2147483648 ≤ (I26 235 8) ∧ (I26 235 8) < 2147483648 := hA28.1 _ _
    have r41 : 0 ≤ (I26 235 9) ∧ (I26 235 9) ≤ 17 := Rg.f9 hR27
    have a42 : -2147483648 ≤ (I26 235 9) ∧ (I26 235 9) < 2147483648 := hA28.1 _ _
    have u43 : (I26 236 2) = (I6 236 2) := hW29 _ _ (by first | omega | decide)
    have a44 : -2147483648 ≤ (I26 236 2) ∧ (I26 236 2) < 2147483648 := hA28.1 _ _
    have r45 : 0 ≤ (I26 236 2) ∧ (I26 236 2) ≤ 64 := Rg.n2 hR27
    refine r_program_l1 hF hR (by omega) (fun r I' g1 g2 hv hA' => hQ _ _ g1 hA' (hv _ rfl) g2) _ 0 0 I26 hR27 (fun k j hk => ((hW29 k j (by omega))).trans (((hW9 k j (by omega))).trans (((uI_o (by omega))).trans (((uI_o (by omega))).trans ((uI_o (by omega))))))) (show (0 : Int) ≤ (0 : Int) from by first | omega | (simp only [wr, wl] at *; omega)) (show ((0 : Int) : Int) ≤ 17 from by first | omega | (simp only [wr, wl] at *; omega)) (show (I26 235 6) ≤ (I26 235 7) from by first | omega | (simp only [wr, wl] at *; omega)) (show (I26 235 7) ≤ (I26 236 2) from by first | omega | (simp only [wr, wl] at *; omega)) (show (I26 235 6) < (I26 236 2) → (I26 235 6) < (I26 235 7) from by first | omega | (simp only [wr, wl] at *; omega)) (show (I26 235 8) = 0 → 4 * (I26 235 9) ≤ (I26 235 6) + 1 from by first | omega | (simp only [wr, wl] at *; omega)) (Nat.lt_succ_self _)
  ·
    refine ⟨fun c => absurd (show ((0 : Int) = 0) from by decide) c, fun _ => ?_⟩
    refine ⟨⟨_, rfl, (by decide)⟩, ?_⟩
    refine s_X12_finding hF (v := (-1000001)) (by decide) ?_
    exact ⟨rfl, fun hv hA' => hQ _ _ (Rg.u hR (Pr_f rfl)) hA' (hv _ rfl) (fun k j hk => (uI_o (by omega)))⟩
end RT
