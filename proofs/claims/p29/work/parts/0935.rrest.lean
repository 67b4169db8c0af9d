/-! the reference's pieces, plans, rows, images, what is told, from any state. Own work (scripts laid by wip/pm/gen30.py). -/
section RP
variable {G : pG} {d : Nat} {F : pF} {I : pI} {Q : Option pV → pF → pI → Prop}
theorem r_plates_l3 (hF : FS F) (hR : Rg I) {g lo s v0 v1 v2 : Int} (hs : 0 ≤ v0 ∧ v0 ≤ 3) (hn : 0 ≤ v1 ∧ v1 ≤ 10) (hl : 1 ≤ v2 ∧ v2 ≤ 999) (hq : 1 ≤ s ∧ s ≤ 1023) (hK : ∀ (J : pI), Rg J → (∀ k j, ¬ (k = 238 ∨ k = 247 ∨ k = 248) → J k j = I k j) → GoN G (d + 1) kX12_plates NP NP 358 [some (vr 235), some (vi v0), some (vi v1), some (vi v2), some (vi g), some (vi lo), some (vi s), none, none, none, none, none, none] [] F J Q) : ∀ (mz : Nat) (k : Int) (J : pI), Rg J → (∀ k j, ¬ (k = 238 ∨ k = 247 ∨ k = 248) → J k j = I k j) → ((0 : Int) ≤ k) → ((k : Int) ≤ 10) → (10 - k).toNat < mz → GoN G (d + 1) kX12_plates NP NP 188 [some (vr 235), some (vi v0), some (vi v1), some (vi v2), some (vi g), some (vi lo), some (vi s), some (vi k), none, none, none, none, none] [] F J Q := by
  intro mz
  induction mz with
  | zero => intro k J hJ hV _ _ h; exact absurd h (Nat.not_lt_zero _)
  | succ mz ih =>
    intro k J hJ hV c100 c101 hm
    refine GoN_in (fun hok hA => ?_)
    have iiv0 : -2147483648 ≤ v0 ∧ v0 < 2147483648 := hok 1 _ rfl
    have iiv1 : -2147483648 ≤ v1 ∧ v1 < 2147483648 := hok 2 _ rfl
    have iiv2 : -2147483648 ≤ v2 ∧ v2 < 2147483648 := hok 3 _ rfl
    have iig : -2147483648 ≤ g ∧ g < 2147483648 := hok 4 _ rfl
    have iilo : -2147483648 ≤ lo ∧ lo < 2147483648 := hok 5 _ rfl
    have iis : -2147483648 ≤ s ∧ s < 2147483648 := hok 6 _ rfl
    have iik : -2147483648 ≤ k ∧ k < 2147483648 := hok 7 _ rfl
    refine Go_wp (by decide) ckX12_plates [188, 358] ?_
    refine ⟨fun (c1 : ((v1 : Int) ≤ k)) => ?_, fun (c1 : (¬ ((v1 : Int) ≤ k))) => ?_⟩
    ·
      refine GoN_lv (lv' := [some (vr 235), some (vi v0), some (vi v1), some (vi v2), some (vi g), some (vi lo), some (vi s), none, none, none, none, none, none]) (LvLe.k (LvLe.k (LvLe.k (LvLe.k (LvLe.k (LvLe.k (LvLe.k (LvLe.d (LvLe.k (LvLe.k (LvLe.k (LvLe.k (LvLe.k LvLe.n))))))))))))) ?_
      exact hK  J hJ (fun ka ja hk => (hV ka ja (by omega))) 
    ·
      refine Call_wp (lv := [some (vi s), some (vi k)]) (by decide) ckX12_has [] rfl rfl ?_
      have n2 : 0 ≤ (bI (srI s k) 1) ∧ (bI (srI s k) 1) ≤ 1 := bI_ri (by decide)
      refine ⟨fun (c3 : (¬ ((bI (srI s k) 1) : Int) = 1)) => ?_, fun (c3 : (((bI (srI s k) 1) : Int) = 1)) => ?_⟩
      ·
        refine ⟨rfl, (by decide), ?_⟩
        refine ⟨fun _ => ?_, fun c => absurd (show ((0 : Int) = 0) from by decide) c⟩
        have n4 : (wr (k + 1)) = k + 1 := wr_id (show -2147483648 ≤ (k + 1 : Int) ∧ (k + 1 : Int) < 2147483648 from by omega)
        exact ih (wr (k + 1)) J hJ (fun ka ja hk => (hV ka ja (by omega))) (show (0 : Int) ≤ (wr (k + 1)) from by first | with_reducible assumption | omega | (simp only [wr, wl] at *; omega)) (show ((wr (k + 1)) : Int) ≤ 10 from by first | with_reducible assumption | omega | (simp only [wr, wl] at *; omega)) (show (10 - (wr (k + 1))).toNat < mz from by omega)
      ·
        refine ⟨rfl, (by decide), ?_⟩
        refine ⟨fun c => absurd c (show (¬ ((1 : Int) = 0)) from by decide), fun _ => ?_⟩
        refine ⟨_, rfl, (by decide), ?_⟩
        refine fun w0 hw0 => ?_; obtain rfl : w0 = some 252 := hw0.symm.trans (FS.g hF rfl)
        have n5 : (wr (24 * v0)) = 24 * v0 := wr_id (show -2147483648 ≤ (24 * v0 : Int) ∧ (24 * v0 : Int) < 2147483648 from by omega)
        have n6 : (wr ((wr (24 * v0)) + k)) = (wr (24 * v0)) + k := wr_id (show -2147483648 ≤ ((wr (24 * v0)) + k : Int) ∧ ((wr (24 * v0)) + k : Int) < 2147483648 from by omega)
        refine ⟨_, rfl, (by decide), (show (0 : Int) ≤ (wr ((wr (24 * v0)) + k)) from by first | with_reducible assumption | omega | (simp only [wr, wl] at *; omega)), (show (wr ((wr (24 * v0)) + k)) < (96 : Int) from by first | with_reducible assumption | omega | (simp only [wr, wl] at *; omega)), ?_⟩
        have u7 : (J 252 (Int.toNat (wr ((wr (24 * v0)) + k)))) = (I 252 (Int.toNat (wr ((wr (24 * v0)) + k)))) := hV _ _ (by first | decide | omega)
        have a8 : -2147483648 ≤ (J 252 (Int.toNat (wr ((wr (24 * v0)) + k)))) ∧ (J 252 (Int.toNat (wr ((wr (24 * v0)) + k)))) < 2147483648 := hA.1 _ _
        refine ⟨_, rfl, (by decide), ?_⟩
        refine fun w0 hw0 => ?_; obtain rfl : w0 = some 248 := hw0.symm.trans (FS.g hF rfl)
        have n9 : 1 ≤ (slI 1 k) ∧ (slI 1 k) ≤ 512 := slI_9 (by omega)
        have n10 : 0 ≤ (bI s (xI (slI 1 k) (-1))) ∧ (bI s (xI (slI 1 k) (-1))) ≤ s := bI_le (by omega)
        refine ⟨_, rfl, (by decide), (show (0 : Int) ≤ (bI s (xI (slI 1 k) (-1))) from by first | with_reducible assumption | omega | (simp only [wr, wl] at *; omega)), (show (bI s (xI (slI 1 k) (-1))) < (1024 : Int) from by first | with_reducible assumption | omega | (simp only [wr, wl] at *; omega)), ?_⟩
        have a11 : -2147483648 ≤ (J 248 (Int.toNat (bI s (xI (slI 1 k) (-1))))) ∧ (J 248 (Int.toNat (bI s (xI (slI 1 k) (-1))))) < 2147483648 := hA.1 _ _
        have n12 : -2147483648 ≤ (wr ((J 248 (Int.toNat (bI s (xI (slI 1 k) (-1))))) + (J 252 (Int.toNat (wr ((wr (24 * v0)) + k)))))) ∧ (wr ((J 248 (Int.toNat (bI s (xI (slI 1 k) (-1))))) + (J 252 (Int.toNat (wr ((wr (24 * v0)) + k)))))) < 2147483648 := wr_R _
        refine ⟨fun (c13 : ((v2 : Int) < (wr ((J 248 (Int.toNat (bI s (xI (slI 1 k) (-1))))) + (J 252 (Int.toNat (wr ((wr (24 * v0)) + k)))))))) => ?_, fun (c13 : (¬ ((v2 : Int) < (wr ((J 248 (Int.toNat (bI s (xI (slI 1 k) (-1))))) + (J 252 (Int.toNat (wr ((wr (24 * v0)) + k))))))))) => ?_⟩
        ·
          refine ⟨fun _ => ?_, fun c => absurd (show ((0 : Int) = 0) from by decide) c⟩
          refine ⟨_, rfl, (by decide), ?_⟩
          refine fun w0 hw0 => ?_; obtain rfl : w0 = some 247 := hw0.symm.trans (FS.g hF rfl)
          refine ⟨_, rfl, (by decide), (show (0 : Int) ≤ (bI s (xI (slI 1 k) (-1))) from by first | with_reducible assumption | omega | (simp only [wr, wl] at *; omega)), (show (bI s (xI (slI 1 k) (-1))) < (1024 : Int) from by first | with_reducible assumption | omega | (simp only [wr, wl] at *; omega)), ?_⟩
          refine ⟨fun _ => ?_, fun c => absurd (show ((0 : Int) = 0) from by decide) c⟩
          refine ⟨_, rfl, (by decide), ?_⟩
          refine fun w0 hw0 => ?_; obtain rfl : w0 = some 247 := hw0.symm.trans (FS.g hF rfl)
          refine ⟨_, rfl, (by decide), (show (0 : Int) ≤ s from by first | with_reducible assumption | omega | (simp only [wr, wl] at *; omega)), (show s < (1024 : Int) from by first | with_reducible assumption | omega | (simp only [wr, wl] at *; omega)), ?_⟩
          have a14 : -2147483648 ≤ (J 247 (Int.toNat (bI s (xI (slI 1 k) (-1))))) ∧ (J 247 (Int.toNat (bI s (xI (slI 1 k) (-1))))) < 2147483648 := hA.1 _ _
          have n15 : -2147483648 ≤ (wr ((J 247 (Int.toNat (bI s (xI (slI 1 k) (-1))))) + 1)) ∧ (wr ((J 247 (Int.toNat (bI s (xI (slI 1 k) (-1))))) + 1)) < 2147483648 := wr_R _
          have a16 : -2147483648 ≤ (J 247 (Int.toNat s)) ∧ (J 247 (Int.toNat s)) < 2147483648 := hA.1 _ _
          refine ⟨fun (c17 : (((wr ((J 247 (Int.toNat (bI s (xI (slI 1 k) (-1))))) + 1)) : Int) < (J 247 (Int.toNat s)))) => ?_, fun (c17 : (¬ (((wr ((J 247 (Int.toNat (bI s (xI (slI 1 k) (-1))))) + 1)) : Int) < (J 247 (Int.toNat s))))) => ?_⟩
          ·
            refine ⟨_, rfl, (by decide), ?_⟩
            refine fun w0 hw0 => ?_; obtain rfl : w0 = some 247 := hw0.symm.trans (FS.g hF rfl)
            refine ⟨_, rfl, (by decide), (show (0 : Int) ≤ s from by first | with_reducible assumption | omega | (simp only [wr, wl] at *; omega)), (show s < (1024 : Int) from by first | with_reducible assumption | omega | (simp only [wr, wl] at *; omega)), ?_⟩
            refine ⟨_, rfl, (by decide), ?_⟩
            refine fun w0 hw0 => ?_; obtain rfl : w0 = some 248 := hw0.symm.trans (FS.g hF rfl)
            refine ⟨_, rfl, (by decide), (show (0 : Int) ≤ s from by first | with_reducible assumption | omega | (simp only [wr, wl] at *; omega)), (show s < (1024 : Int) from by first | with_reducible assumption | omega | (simp only [wr, wl] at *; omega)), ?_⟩
            refine GoN_lv (lv' := [some (vr 235), some (vi v0), some (vi v1), some (vi v2), some (vi g), some (vi lo), some (vi s), some (vi (wr (k + 1))), none, none, none, none, none]) (LvLe.k (LvLe.k (LvLe.k (LvLe.k (LvLe.k (LvLe.k (LvLe.k (LvLe.k (LvLe.d (LvLe.d (LvLe.d (LvLe.d (LvLe.d LvLe.n))))))))))))) ?_
            have n18 : (wr (k + 1)) = k + 1 := wr_id (show -2147483648 ≤ (k + 1 : Int) ∧ (k + 1 : Int) < 2147483648 from by omega)
            exact ih (wr (k + 1)) (uI (uI J 247 (Int.toNat s) (wr ((J 247 (Int.toNat (bI s (xI (slI 1 k) (-1))))) + 1))) 248 (Int.toNat s) (J 252 (Int.toNat (wr ((wr (24 * v0)) + k))))) (Rg.u (Rg.u hJ (Pr_p (k := 247) rfl _ _)) (Pr_p (k := 248) rfl _ _)) (fun ka ja hk => ((uI_o (show ¬ (ka = 248 ∧ ja = (Int.toNat s)) from by first | (intro e; obtain ⟨rfl, _⟩ := e; exact hk (by decide)) | omega))).trans (((uI_o (show ¬ (ka = 247 ∧ ja = (Int.toNat s)) from by first | (intro e; obtain ⟨rfl, _⟩ := e; exact hk (by decide)) | omega))).trans ((hV ka ja (by omega))))) (show (0 : Int) ≤ (wr (k + 1)) from by first | with_reducible assumption | omega | (simp only [wr, wl] at *; omega)) (show ((wr (k + 1)) : Int) ≤ 10 from by first | with_reducible assumption | omega | (simp only [wr, wl] at *; omega)) (show (10 - (wr (k + 1))).toNat < mz from by omega)
          ·
            refine ⟨_, rfl, (by decide), ?_⟩
            refine fun w0 hw0 => ?_; obtain rfl : w0 = some 247 := hw0.symm.trans (FS.g hF rfl)
            refine ⟨_, rfl, (by decide), (show (0 : Int) ≤ s from by first | with_reducible assumption | omega | (simp only [wr, wl] at *; omega)), (show s < (1024 : Int) from by first | with_reducible assumption | omega | (simp only [wr, wl] at *; omega)), ?_⟩
            refine ⟨fun (c19 : (¬ ((wr ((J 247 (Int.toNat (bI s (xI (slI 1 k) (-1))))) + 1)) : Int) = (J 247 (Int.toNat s)))) => ?_, fun (c19 : (((wr ((J 247 (Int.toNat (bI s (xI (slI 1 k) (-1))))) + 1)) : Int) = (J 247 (Int.toNat s)))) => ?_⟩
            ·
              refine GoN_lv (lv' := [some (vr 235), some (vi v0), some (vi v1), some (vi v2), some (vi g), some (vi lo), some (vi s), some (vi (wr (k + 1))), none, none, none, none, none]) (LvLe.k (LvLe.k (LvLe.k (LvLe.k (LvLe.k (LvLe.k (LvLe.k (LvLe.k (LvLe.d (LvLe.d (LvLe.d (LvLe.d (LvLe.d LvLe.n))))))))))))) ?_
              have n20 : (wr (k + 1)) = k + 1 := wr_id (show -2147483648 ≤ (k + 1 : Int) ∧ (k + 1 : Int) < 2147483648 from by omega)
              exact ih (wr (k + 1)) J hJ (fun ka ja hk => (hV ka ja (by omega))) (show (0 : Int) ≤ (wr (k + 1)) from by first | with_reducible assumption | omega | (simp only [wr, wl] at *; omega)) (show ((wr (k + 1)) : Int) ≤ 10 from by first | with_reducible assumption | omega | (simp only [wr, wl] at *; omega)) (show (10 - (wr (k + 1))).toNat < mz from by omega)
            ·
              refine ⟨_, rfl, (by decide), ?_⟩
              refine fun w0 hw0 => ?_; obtain rfl : w0 = some 248 := hw0.symm.trans (FS.g hF rfl)
              refine ⟨_, rfl, (by decide), (show (0 : Int) ≤ s from by first | with_reducible assumption | omega | (simp only [wr, wl] at *; omega)), (show s < (1024 : Int) from by first | with_reducible assumption | omega | (simp only [wr, wl] at *; omega)), ?_⟩
              have a21 : -2147483648 ≤ (J 248 (Int.toNat s)) ∧ (J 248 (Int.toNat s)) < 2147483648 := hA.1 _ _
              refine ⟨fun (c22 : (((J 248 (Int.toNat s)) : Int) ≤ (J 252 (Int.toNat (wr ((wr (24 * v0)) + k)))))) => ?_, fun (c22 : (¬ (((J 248 (Int.toNat s)) : Int) ≤ (J 252 (Int.toNat (wr ((wr (24 * v0)) + k))))))) => ?_⟩
              ·
                refine GoN_lv (lv' := [some (vr 235), some (vi v0), some (vi v1), some (vi v2), some (vi g), some (vi lo), some (vi s), some (vi (wr (k + 1))), none, none, none, none, none]) (LvLe.k (LvLe.k (LvLe.k (LvLe.k (LvLe.k (LvLe.k (LvLe.k (LvLe.k (LvLe.d (LvLe.d (LvLe.d (LvLe.d (LvLe.d LvLe.n))))))))))))) ?_
                have n23 : (wr (k + 1)) = k + 1 := wr_id (show -2147483648 ≤ (k + 1 : Int) ∧ (k + 1 : Int) < 2147483648 from by omega)
                exact ih (wr (k + 1)) J hJ (fun ka ja hk => (hV ka ja (by omega))) (show (0 : Int) ≤ (wr (k + 1)) from by first | with_reducible assumption | omega | (simp only [wr, wl] at *; omega)) (show ((wr (k + 1)) : Int) ≤ 10 from by first | with_reducible assumption | omega | (simp only [wr, wl] at *; omega)) (show (10 - (wr (k + 1))).toNat < mz from by omega)
              ·
                refine ⟨_, rfl, (by decide), ?_⟩
                refine fun w0 hw0 => ?_; obtain rfl : w0 = some 247 := hw0.symm.trans (FS.g hF rfl)
                refine ⟨_, rfl, (by decide), (show (0 : Int) ≤ s from by first | with_reducible assumption | omega | (simp only [wr, wl] at *; omega)), (show s < (1024 : Int) from by first | with_reducible assumption | omega | (simp only [wr, wl] at *; omega)), ?_⟩
                refine ⟨_, rfl, (by decide), ?_⟩
                refine fun w0 hw0 => ?_; obtain rfl : w0 = some 248 := hw0.symm.trans (FS.g hF rfl)
                refine ⟨_, rfl, (by decide), (show (0 : Int) ≤ s from by first | with_reducible assumption | omega | (simp only [wr, wl] at *; omega)), (show s < (1024 : Int) from by first | with_reducible assumption | omega | (simp only [wr, wl] at *; omega)), ?_⟩
                refine GoN_lv (lv' := [some (vr 235), some (vi v0), some (vi v1), some (vi v2), some (vi g), some (vi lo), some (vi s), some (vi (wr (k + 1))), none, none, none, none, none]) (LvLe.k (LvLe.k (LvLe.k (LvLe.k (LvLe.k (LvLe.k (LvLe.k (LvLe.k (LvLe.d (LvLe.d (LvLe.d (LvLe.d (LvLe.d LvLe.n))))))))))))) ?_
                have n24 : (wr (k + 1)) = k + 1 := wr_id (show -2147483648 ≤ (k + 1 : Int) ∧ (k + 1 : Int) < 2147483648 from by omega)
                exact ih (wr (k + 1)) (uI (uI J 247 (Int.toNat s) (wr ((J 247 (Int.toNat (bI s (xI (slI 1 k) (-1))))) + 1))) 248 (Int.toNat s) (J 252 (Int.toNat (wr ((wr (24 * v0)) + k))))) (Rg.u (Rg.u hJ (Pr_p (k := 247) rfl _ _)) (Pr_p (k := 248) rfl _ _)) (fun ka ja hk => ((uI_o (show ¬ (ka = 248 ∧ ja = (Int.toNat s)) from by first | (intro e; obtain ⟨rfl, _⟩ := e; exact hk (by decide)) | omega))).trans (((uI_o (show ¬ (ka = 247 ∧ ja = (Int.toNat s)) from by first | (intro e; obtain ⟨rfl, _⟩ := e; exact hk (by decide)) | omega))).trans ((hV ka ja (by omega))))) (show (0 : Int) ≤ (wr (k + 1)) from by first | with_reducible assumption | omega | (simp only [wr, wl] at *; omega)) (show ((wr (k + 1)) : Int) ≤ 10 from by first | with_reducible assumption | omega | (simp only [wr, wl] at *; omega)) (show (10 - (wr (k + 1))).toNat < mz from by omega)
        ·
          refine ⟨fun c => absurd c (show (¬ ((1 : Int) = 0)) from by decide), fun _ => ?_⟩
          refine ⟨_, rfl, (by decide), ?_⟩
          refine fun w0 hw0 => ?_; obtain rfl : w0 = some 247 := hw0.symm.trans (FS.g hF rfl)
          refine ⟨_, rfl, (by decide), (show (0 : Int) ≤ (bI s (xI (slI 1 k) (-1))) from by first | with_reducible assumption | omega | (simp only [wr, wl] at *; omega)), (show (bI s (xI (slI 1 k) (-1))) < (1024 : Int) from by first | with_reducible assumption | omega | (simp only [wr, wl] at *; omega)), ?_⟩
          refine ⟨fun c => absurd c (show (¬ ((1 : Int) = 0)) from by decide), fun _ => ?_⟩
          refine ⟨_, rfl, (by decide), ?_⟩
          refine fun w0 hw0 => ?_; obtain rfl : w0 = some 248 := hw0.symm.trans (FS.g hF rfl)
          refine ⟨_, rfl, (by decide), (show (0 : Int) ≤ (bI s (xI (slI 1 k) (-1))) from by first | with_reducible assumption | omega | (simp only [wr, wl] at *; omega)), (show (bI s (xI (slI 1 k) (-1))) < (1024 : Int) from by first | with_reducible assumption | omega | (simp only [wr, wl] at *; omega)), ?_⟩
          refine ⟨_, rfl, (by decide), ?_⟩
          refine fun w0 hw0 => ?_; obtain rfl : w0 = some 247 := hw0.symm.trans (FS.g hF rfl)
          refine ⟨_, rfl, (by decide), (show (0 : Int) ≤ s from by first | with_reducible assumption | omega | (simp only [wr, wl] at *; omega)), (show s < (1024 : Int) from by first | with_reducible assumption | omega | (simp only [wr, wl] at *; omega)), ?_⟩
          have a25 : -2147483648 ≤ (J 247 (Int.toNat (bI s (xI (slI 1 k) (-1))))) ∧ (J 247 (Int.toNat (bI s (xI (slI 1 k) (-1))))) < 2147483648 := hA.1 _ _
          have a26 : -2147483648 ≤ (J 247 (Int.toNat s)) ∧ (J 247 (Int.toNat s)) < 2147483648 := hA.1 _ _
          refine ⟨fun (c27 : (((J 247 (Int.toNat (bI s (xI (slI 1 k) (-1))))) : Int) < (J 247 (Int.toNat s)))) => ?_, fun (c27 : (¬ (((J 247 (Int.toNat (bI s (xI (slI 1 k) (-1))))) : Int) < (J 247 (Int.toNat s))))) => ?_⟩
          ·
            refine ⟨_, rfl, (by decide), ?_⟩
            refine fun w0 hw0 => ?_; obtain rfl : w0 = some 247 := hw0.symm.trans (FS.g hF rfl)
            refine ⟨_, rfl, (by decide), (show (0 : Int) ≤ s from by first | with_reducible assumption | omega | (simp only [wr, wl] at *; omega)), (show s < (1024 : Int) from by first | with_reducible assumption | omega | (simp only [wr, wl] at *; omega)), ?_⟩
            refine ⟨_, rfl, (by decide), ?_⟩
            refine fun w0 hw0 => ?_; obtain rfl : w0 = some 248 := hw0.symm.trans (FS.g hF rfl)
            refine ⟨_, rfl, (by decide), (show (0 : Int) ≤ s from by first | with_reducible assumption | omega | (simp only [wr, wl] at *; omega)), (show s < (1024 : Int) from by first | with_reducible assumption | omega | (simp only [wr, wl] at *; omega)), ?_⟩
            refine GoN_lv (lv' := [some (vr 235), some (vi v0), some (vi v1), some (vi v2), some (vi g), some (vi lo), some (vi s), some (vi (wr (k + 1))), none, none, none, none, none]) (LvLe.k (LvLe.k (LvLe.k (LvLe.k (LvLe.k (LvLe.k (LvLe.k (LvLe.k (LvLe.d (LvLe.d (LvLe.d (LvLe.d (LvLe.d LvLe.n))))))))))))) ?_
            have n28 : (wr (k + 1)) = k + 1 := wr_id (show -2147483648 ≤ (k + 1 : Int) ∧ (k + 1 : Int) < 2147483648 from by omega)
            exact ih (wr (k + 1)) (uI (uI J 247 (Int.toNat s) (J 247 (Int.toNat (bI s (xI (slI 1 k) (-1)))))) 248 (Int.toNat s) (wr ((J 248 (Int.toNat (bI s (xI (slI 1 k) (-1))))) + (J 252 (Int.toNat (wr ((wr (24 * v0)) + k))))))) (Rg.u (Rg.u hJ (Pr_p (k := 247) rfl _ _)) (Pr_p (k := 248) rfl _ _)) (fun ka ja hk => ((uI_o (show ¬ (ka = 248 ∧ ja = (Int.toNat s)) from by first | (intro e; obtain ⟨rfl, _⟩ := e; exact hk (by decide)) | omega))).trans (((uI_o (show ¬ (ka = 247 ∧ ja = (Int.toNat s)) from by first | (intro e; obtain ⟨rfl, _⟩ := e; exact hk (by decide)) | omega))).trans ((hV ka ja (by omega))))) (show (0 : Int) ≤ (wr (k + 1)) from by first | with_reducible assumption | omega | (simp only [wr, wl] at *; omega)) (show ((wr (k + 1)) : Int) ≤ 10 from by first | with_reducible assumption | omega | (simp only [wr, wl] at *; omega)) (show (10 - (wr (k + 1))).toNat < mz from by omega)
          ·
            refine ⟨_, rfl, (by decide), ?_⟩
            refine fun w0 hw0 => ?_; obtain rfl : w0 = some 247 := hw0.symm.trans (FS.g hF rfl)
            refine ⟨_, rfl, (by decide), (show (0 : Int) ≤ s from by first | with_reducible assumption | omega | (simp only [wr, wl] at *; omega)), (show s < (1024 : Int) from by first | with_reducible assumption | omega | (simp only [wr, wl] at *; omega)), ?_⟩
            refine ⟨fun (c29 : (¬ ((J 247 (Int.toNat (bI s (xI (slI 1 k) (-1))))) : Int) = (J 247 (Int.toNat s)))) => ?_, fun (c29 : (((J 247 (Int.toNat (bI s (xI (slI 1 k) (-1))))) : Int) = (J 247 (Int.toNat s)))) => ?_⟩
            ·
              refine GoN_lv (lv' := [some (vr 235), some (vi v0), some (vi v1), some (vi v2), some (vi g), some (vi lo), some (vi s), some (vi (wr (k + 1))), none, none, none, none, none]) (LvLe.k (LvLe.k (LvLe.k (LvLe.k (LvLe.k (LvLe.k (LvLe.k (LvLe.k (LvLe.d (LvLe.d (LvLe.d (LvLe.d (LvLe.d LvLe.n))))))))))))) ?_
              have n30 : (wr (k + 1)) = k + 1 := wr_id (show -2147483648 ≤ (k + 1 : Int) ∧ (k + 1 : Int) < 2147483648 from by omega)
              exact ih (wr (k + 1)) J hJ (fun ka ja hk => (hV ka ja (by omega))) (show (0 : Int) ≤ (wr (k + 1)) from by first | with_reducible assumption | omega | (simp only [wr, wl] at *; omega)) (show ((wr (k + 1)) : Int) ≤ 10 from by first | with_reducible assumption | omega | (simp only [wr, wl] at *; omega)) (show (10 - (wr (k + 1))).toNat < mz from by omega)
            ·
              refine ⟨_, rfl, (by decide), ?_⟩
              refine fun w0 hw0 => ?_; obtain rfl : w0 = some 248 := hw0.symm.trans (FS.g hF rfl)
              refine ⟨_, rfl, (by decide), (show (0 : Int) ≤ s from by first | with_reducible assumption | omega | (simp only [wr, wl] at *; omega)), (show s < (1024 : Int) from by first | with_reducible assumption | omega | (simp only [wr, wl] at *; omega)), ?_⟩
              have a31 : -2147483648 ≤ (J 248 (Int.toNat s)) ∧ (J 248 (Int.toNat s)) < 2147483648 := hA.1 _ _
              refine ⟨fun (c32 : (((J 248 (Int.toNat s)) : Int) ≤ (wr ((J 248 (Int.toNat (bI s (xI (slI 1 k) (-1))))) + (J 252 (Int.toNat (wr ((wr (24 * v0)) + k)))))))) => ?_, fun (c32 : (¬ (((J 248 (Int.toNat s)) : Int) ≤ (wr ((J 248 (Int.toNat (bI s (xI (slI 1 k) (-1))))) + (J 252 (Int.toNat (wr ((wr (24 * v0)) + k))))))))) => ?_⟩
              ·
                refine GoN_lv (lv' := [some (vr 235), some (vi v0), some (vi v1), some (vi v2), some (vi g), some (vi lo), some (vi s), some (vi (wr (k + 1))), none, none, none, none, none]) (LvLe.k (LvLe.k (LvLe.k (LvLe.k (LvLe.k (LvLe.k (LvLe.k (LvLe.k (LvLe.d (LvLe.d (LvLe.d (LvLe.d (LvLe.d LvLe.n))))))))))))) ?_
                have n33 : (wr (k + 1)) = k + 1 := wr_id (show -2147483648 ≤ (k + 1 : Int) ∧ (k + 1 : Int) < 2147483648 from by omega)
                exact ih (wr (k + 1)) J hJ (fun ka ja hk => (hV ka ja (by omega))) (show (0 : Int) ≤ (wr (k + 1)) from by first | with_reducible assumption | omega | (simp only [wr, wl] at *; omega)) (show ((wr (k + 1)) : Int) ≤ 10 from by first | with_reducible assumption | omega | (simp only [wr, wl] at *; omega)) (show (10 - (wr (k + 1))).toNat < mz from by omega)
              ·
                refine ⟨_, rfl, (by decide), ?_⟩
                refine fun w0 hw0 => ?_; obtain rfl : w0 = some 247 := hw0.symm.trans (FS.g hF rfl)
                refine ⟨_, rfl, (by decide), (show (0 : Int) ≤ s from by first | with_reducible assumption | omega | (simp only [wr, wl] at *; omega)), (show s < (1024 : Int) from by first | with_reducible assumption | omega | (simp only [wr, wl] at *; omega)), ?_⟩
                refine ⟨_, rfl, (by decide), ?_⟩
                refine fun w0 hw0 => ?_; obtain rfl : w0 = some 248 := hw0.symm.trans (FS.g hF rfl)
                refine ⟨_, rfl, (by decide), (show (0 : Int) ≤ s from by first | with_reducible assumption | omega | (simp only [wr, wl] at *; omega)), (show s < (1024 : Int) from by first | with_reducible assumption | omega | (simp only [wr, wl] at *; omega)), ?_⟩
                refine GoN_lv (lv' := [some (vr 235), some (vi v0), some (vi v1), some (vi v2), some (vi g), some (vi lo), some (vi s), some (vi (wr (k + 1))), none, none, none, none, none]) (LvLe.k (LvLe.k (LvLe.k (LvLe.k (LvLe.k (LvLe.k (LvLe.k (LvLe.k (LvLe.d (LvLe.d (LvLe.d (LvLe.d (LvLe.d LvLe.n))))))))))))) ?_
                have n34 : (wr (k + 1)) = k + 1 := wr_id (show -2147483648 ≤ (k + 1 : Int) ∧ (k + 1 : Int) < 2147483648 from by omega)
                exact ih (wr (k + 1)) (uI (uI J 247 (Int.toNat s) (J 247 (Int.toNat (bI s (xI (slI 1 k) (-1)))))) 248 (Int.toNat s) (wr ((J 248 (Int.toNat (bI s (xI (slI 1 k) (-1))))) + (J 252 (Int.toNat (wr ((wr (24 * v0)) + k))))))) (Rg.u (Rg.u hJ (Pr_p (k := 247) rfl _ _)) (Pr_p (k := 248) rfl _ _)) (fun ka ja hk => ((uI_o (show ¬ (ka = 248 ∧ ja = (Int.toNat s)) from by first | (intro e; obtain ⟨rfl, _⟩ := e; exact hk (by decide)) | omega))).trans (((uI_o (show ¬ (ka = 247 ∧ ja = (Int.toNat s)) from by first | (intro e; obtain ⟨rfl, _⟩ := e; exact hk (by decide)) | omega))).trans ((hV ka ja (by omega))))) (show (0 : Int) ≤ (wr (k + 1)) from by first | with_reducible assumption | omega | (simp only [wr, wl] at *; omega)) (show ((wr (k + 1)) : Int) ≤ 10 from by first | with_reducible assumption | omega | (simp only [wr, wl] at *; omega)) (show (10 - (wr (k + 1))).toNat < mz from by omega)
theorem r_plates_l2 (hF : FS F) (hR : Rg I) {v0 v1 v2 : Int} (hs : 0 ≤ v0 ∧ v0 ≤ 3) (hn : 0 ≤ v1 ∧ v1 ≤ 10) (hl : 1 ≤ v2 ∧ v2 ≤ 999) (hQ : ∀ (r : Int) (I' : pI), Rg I' → (∀ k j, ¬ (k = 238 ∨ k = 247 ∨ k = 248) → I' k j = I k j) → Q (some (vi r)) F I') : ∀ (mz : Nat) (g lo s : Int) (J : pI), Rg J → (∀ k j, ¬ (k = 238 ∨ k = 247 ∨ k = 248) → J k j = I k j) → ((1 : Int) ≤ s) → ((s : Int) ≤ 1024) → (1024 - s).toNat < mz → GoN G (d + 1) kX12_plates NP NP 167 [some (vr 235), some (vi v0), some (vi v1), some (vi v2), some (vi g), some (vi lo), some (vi s), none, none, none, none, none, none] [] F J Q := by
  intro mz
  induction mz with
  | zero => intro g lo s J hJ hV _ _ h; exact absurd h (Nat.not_lt_zero _)
  | succ mz ih =>
    intro g lo s J hJ hV c100 c101 hm
    refine GoN_in (fun hok hA => ?_)
    have iiv0 : -2147483648 ≤ v0 ∧ v0 < 2147483648 := hok 1 _ rfl
    have iiv1 : -2147483648 ≤ v1 ∧ v1 < 2147483648 := hok 2 _ rfl
    have iiv2 : -2147483648 ≤ v2 ∧ v2 < 2147483648 := hok 3 _ rfl
    have iig : -2147483648 ≤ g ∧ g < 2147483648 := hok 4 _ rfl
    have iilo : -2147483648 ≤ lo ∧ lo < 2147483648 := hok 5 _ rfl
    have iis : -2147483648 ≤ s ∧ s < 2147483648 := hok 6 _ rfl
    refine Go_wp (by decide) ckX12_plates [167, 188] ?_
    have n1 : 1 ≤ (slI 1 v1) ∧ (slI 1 v1) ≤ 1024 := slI_10 (by omega)
    refine ⟨fun (c2 : (((slI 1 v1) : Int) ≤ s)) => ?_, fun (c2 : (¬ (((slI 1 v1) : Int) ≤ s))) => ?_⟩
    ·
      refine ⟨_, rfl, (by decide), ?_⟩
      refine fun w0 hw0 => ?_; obtain rfl : w0 = some 247 := hw0.symm.trans (FS.g hF rfl)
      have n3 : (wr ((slI 1 v1) - 1)) = (slI 1 v1) - 1 := wr_id (show -2147483648 ≤ ((slI 1 v1) - 1 : Int) ∧ ((slI 1 v1) - 1 : Int) < 2147483648 from by omega)
      refine ⟨_, rfl, (by decide), (show (0 : Int) ≤ (wr ((slI 1 v1) - 1)) from by first | with_reducible assumption | omega | (simp only [wr, wl] at *; omega)), (show (wr ((slI 1 v1) - 1)) < (1024 : Int) from by first | with_reducible assumption | omega | (simp only [wr, wl] at *; omega)), ?_⟩
      exact ⟨rfl, hQ _ _ hJ (fun ka ja hk => (hV ka ja (by omega)))⟩
    ·
      refine ⟨_, rfl, (by decide), ?_⟩
      refine fun w0 hw0 => ?_; obtain rfl : w0 = some 247 := hw0.symm.trans (FS.g hF rfl)
      refine ⟨_, rfl, (by decide), (show (0 : Int) ≤ s from by first | with_reducible assumption | omega | (simp only [wr, wl] at *; omega)), (show s < (1024 : Int) from by first | with_reducible assumption | omega | (simp only [wr, wl] at *; omega)), ?_⟩
      refine r_plates_l3 hF (Rg.u hJ (Pr_p (k := 247) rfl _ _)) (by omega) (by omega) (by omega) (by omega) (fun J4 hR5 hV7 => ?_) _ 0 (uI J 247 (Int.toNat s) (wr (v1 + 1))) (Rg.u hJ (Pr_p (k := 247) rfl _ _)) (fun _ _ _ => rfl) (show (0 : Int) ≤ (0 : Int) from Int.le_refl _) (show ((0 : Int) : Int) ≤ 10 from by first | with_reducible assumption | omega | (simp only [wr, wl] at *; omega)) (Nat.lt_succ_self _)
      refine GoN_in (fun hok8 hA6 => ?_)
      refine Go_wp (by decide) ckX12_plates [167, 188] ?_
      have n9 : (wr (s + 1)) = s + 1 := wr_id (show -2147483648 ≤ (s + 1 : Int) ∧ (s + 1 : Int) < 2147483648 from by omega)
      exact ih g lo (wr (s + 1)) J4 hR5 (fun ka ja hk => ((hV7 ka ja (by omega))).trans (((uI_o (show ¬ (ka = 247 ∧ ja = (Int.toNat s)) from by first | (intro e; obtain ⟨rfl, _⟩ := e; exact hk (by decide)) | omega))).trans ((hV ka ja (by omega))))) (show (1 : Int) ≤ (wr (s + 1)) from by first | with_reducible assumption | omega | (simp only [wr, wl] at *; omega)) (show ((wr (s + 1)) : Int) ≤ 1024 from by first | with_reducible assumption | omega | (simp only [wr, wl] at *; omega)) (show (1024 - (wr (s + 1))).toNat < mz from by omega)
theorem r_plates_l1 (hF : FS F) (hR : Rg I) {v0 v1 v2 : Int} (hs : 0 ≤ v0 ∧ v0 ≤ 3) (hn : 0 ≤ v1 ∧ v1 ≤ 10) (hl : 1 ≤ v2 ∧ v2 ≤ 999) (hQ : ∀ (r : Int) (I' : pI), Rg I' → (∀ k j, ¬ (k = 238 ∨ k = 247 ∨ k = 248) → I' k j = I k j) → Q (some (vi r)) F I') : ∀ (mz : Nat) (g lo k : Int) (J : pI), Rg J → (∀ k j, ¬ (k = 238 ∨ k = 247 ∨ k = 248) → J k j = I k j) → ((0 : Int) ≤ k) → ((k : Int) ≤ 10) → (10 - k).toNat < mz → GoN G (d + 1) kX12_plates NP NP 74 [some (vr 235), some (vi v0), some (vi v1), some (vi v2), some (vi g), some (vi lo), some (vi k), none, none, none, none, none, none] [] F J Q := by
  intro mz
  induction mz with
  | zero => intro g lo k J hJ hV _ _ h; exact absurd h (Nat.not_lt_zero _)
  | succ mz ih =>
    intro g lo k J hJ hV c100 c101 hm
    refine GoN_in (fun hok hA => ?_)
    have iiv0 : -2147483648 ≤ v0 ∧ v0 < 2147483648 := hok 1 _ rfl
    have iiv1 : -2147483648 ≤ v1 ∧ v1 < 2147483648 := hok 2 _ rfl
    have iiv2 : -2147483648 ≤ v2 ∧ v2 < 2147483648 := hok 3 _ rfl
    have iig : -2147483648 ≤ g ∧ g < 2147483648 := hok 4 _ rfl
    have iilo : -2147483648 ≤ lo ∧ lo < 2147483648 := hok 5 _ rfl
    have iik : -2147483648 ≤ k ∧ k < 2147483648 := hok 6 _ rfl
    refine Go_wp (by decide) ckX12_plates [74, 167] ?_
    refine ⟨fun (c1 : ((v1 : Int) ≤ k)) => ?_, fun (c1 : (¬ ((v1 : Int) ≤ k))) => ?_⟩
    ·
      refine ⟨fun (c2 : (¬ (g : Int) = 0)) => ?_, fun (c2 : ((g : Int) = 0)) => ?_⟩
      ·
        refine ⟨fun (c3 : ((lo : Int) ≤ v2)) => ?_, fun (c3 : (¬ ((lo : Int) ≤ v2))) => ?_⟩
        ·
          refine ⟨_, rfl, (by decide), ?_⟩
          refine fun w0 hw0 => ?_; obtain rfl : w0 = some 247 := hw0.symm.trans (FS.g hF rfl)
          refine ⟨_, rfl, (by decide), (by decide), (by decide), ?_⟩
          refine ⟨_, rfl, (by decide), ?_⟩
          refine fun w0 hw0 => ?_; obtain rfl : w0 = some 248 := hw0.symm.trans (FS.g hF rfl)
          refine ⟨_, rfl, (by decide), (by decide), (by decide), ?_⟩
          refine r_plates_l2 hF hR (by omega) (by omega) (by omega) hQ _ g lo 1 (uI (uI J 247 0 0) 248 0 v2) (Rg.u (Rg.u hJ (Pr_f rfl)) (Pr_f rfl)) (fun ka ja hk => ((uI_o (show ¬ (ka = 248 ∧ ja = 0) from by first | (intro e; obtain ⟨rfl, rfl⟩ := e; exact hk (by decide)) | omega))).trans (((uI_o (show ¬ (ka = 247 ∧ ja = 0) from by first | (intro e; obtain ⟨rfl, rfl⟩ := e; exact hk (by decide)) | omega))).trans ((hV ka ja (by omega))))) (show (1 : Int) ≤ (1 : Int) from Int.le_refl _) (show ((1 : Int) : Int) ≤ 1024 from by first | with_reducible assumption | omega | (simp only [wr, wl] at *; omega)) (Nat.lt_succ_self _)
        ·
          refine ⟨⟨_, rfl, (by decide)⟩, ?_⟩
          refine s_X12_finding hF (v := (-1000003)) (by decide) ?_
          exact ⟨rfl, hQ _ _ (Rg.u hJ (Pr_f rfl)) (fun ka ja hk => ((uI_o (show ¬ (ka = 238 ∧ ja = 3) from by first | (intro e; obtain ⟨rfl, rfl⟩ := e; exact hk (by decide)) | omega))).trans ((hV ka ja (by omega))))⟩
      ·
        refine ⟨⟨_, rfl, (by decide)⟩, ?_⟩
        refine s_X12_finding hF (v := (-1000001)) (by decide) ?_
        exact ⟨rfl, hQ _ _ (Rg.u hJ (Pr_f rfl)) (fun ka ja hk => ((uI_o (show ¬ (ka = 238 ∧ ja = 1) from by first | (intro e; obtain ⟨rfl, rfl⟩ := e; exact hk (by decide)) | omega))).trans ((hV ka ja (by omega))))⟩
    ·
      refine ⟨fun (c4 : ((g : Int) = 0)) => ?_, fun (c4 : (¬ ((g : Int) = 0))) => ?_⟩
      ·
        refine ⟨fun c => absurd (show ((g : Int) = 0) from by first | omega | (simp only [wr, wl] at *; omega)) c, fun _ => ?_⟩
        refine ⟨⟨_, rfl, (by decide)⟩, ?_⟩
        refine s_X12_finding hF (v := (-1000001)) (by decide) ?_
        exact ⟨rfl, hQ _ _ (Rg.u hJ (Pr_f rfl)) (fun ka ja hk => ((uI_o (show ¬ (ka = 238 ∧ ja = 1) from by first | (intro e; obtain ⟨rfl, rfl⟩ := e; exact hk (by decide)) | omega))).trans ((hV ka ja (by omega))))⟩
      ·
        refine ⟨_, rfl, (by decide), ?_⟩
        refine fun w0 hw0 => ?_; obtain rfl : w0 = some 252 := hw0.symm.trans (FS.g hF rfl)
        have n5 : (wr (24 * v0)) = 24 * v0 := wr_id (show -2147483648 ≤ (24 * v0 : Int) ∧ (24 * v0 : Int) < 2147483648 from by omega)
        have n6 : (wr ((wr (24 * v0)) + k)) = (wr (24 * v0)) + k := wr_id (show -2147483648 ≤ ((wr (24 * v0)) + k : Int) ∧ ((wr (24 * v0)) + k : Int) < 2147483648 from by omega)
        refine ⟨_, rfl, (by decide), (show (0 : Int) ≤ (wr ((wr (24 * v0)) + k)) from by first | with_reducible assumption | omega | (simp only [wr, wl] at *; omega)), (show (wr ((wr (24 * v0)) + k)) < (96 : Int) from by first | with_reducible assumption | omega | (simp only [wr, wl] at *; omega)), ?_⟩
        have u7 : (J 252 (Int.toNat (wr ((wr (24 * v0)) + k)))) = (I 252 (Int.toNat (wr ((wr (24 * v0)) + k)))) := hV _ _ (by first | decide | omega)
        have a8 : -2147483648 ≤ (J 252 (Int.toNat (wr ((wr (24 * v0)) + k)))) ∧ (J 252 (Int.toNat (wr ((wr (24 * v0)) + k)))) < 2147483648 := hA.1 _ _
        refine s_X12_within (fun (w9 : ((1 : Int) ≤ (J 252 (Int.toNat (wr ((wr (24 * v0)) + k)))) ∧ ((J 252 (Int.toNat (wr ((wr (24 * v0)) + k)))) : Int) ≤ 999)) => ?_) (fun (w9 : ¬ ((1 : Int) ≤ (J 252 (Int.toNat (wr ((wr (24 * v0)) + k)))) ∧ ((J 252 (Int.toNat (wr ((wr (24 * v0)) + k)))) : Int) ≤ 999)) => ?_)
        ·
          refine j_max (fun w10 h11 h12 h13 => ?_)
          refine GoN_lv (lv' := [some (vr 235), some (vi v0), some (vi v1), some (vi v2), some (vi 1), some (vi w10), some (vi (wr (k + 1))), none, none, none, none, none, none]) (LvLe.k (LvLe.k (LvLe.k (LvLe.k (LvLe.k (LvLe.k (LvLe.k (LvLe.d (LvLe.k (LvLe.k (LvLe.k (LvLe.k (LvLe.k LvLe.n))))))))))))) ?_
          have n14 : (wr (k + 1)) = k + 1 := wr_id (show -2147483648 ≤ (k + 1 : Int) ∧ (k + 1 : Int) < 2147483648 from by omega)
          exact ih 1 w10 (wr (k + 1)) J hJ (fun ka ja hk => (hV ka ja (by omega))) (show (0 : Int) ≤ (wr (k + 1)) from by first | with_reducible assumption | omega | (simp only [wr, wl] at *; omega)) (show ((wr (k + 1)) : Int) ≤ 10 from by first | with_reducible assumption | omega | (simp only [wr, wl] at *; omega)) (show (10 - (wr (k + 1))).toNat < mz from by omega)
        ·
          refine j_max (fun w15 h16 h17 h18 => ?_)
          refine GoN_lv (lv' := [some (vr 235), some (vi v0), some (vi v1), some (vi v2), some (vi 0), some (vi w15), some (vi (wr (k + 1))), none, none, none, none, none, none]) (LvLe.k (LvLe.k (LvLe.k (LvLe.k (LvLe.k (LvLe.k (LvLe.k (LvLe.d (LvLe.k (LvLe.k (LvLe.k (LvLe.k (LvLe.k LvLe.n))))))))))))) ?_
          have n19 : (wr (k + 1)) = k + 1 := wr_id (show -2147483648 ≤ (k + 1 : Int) ∧ (k + 1 : Int) < 2147483648 from by omega)
          exact ih 0 w15 (wr (k + 1)) J hJ (fun ka ja hk => (hV ka ja (by omega))) (show (0 : Int) ≤ (wr (k + 1)) from by first | with_reducible assumption | omega | (simp only [wr, wl] at *; omega)) (show ((wr (k + 1)) : Int) ≤ 10 from by first | with_reducible assumption | omega | (simp only [wr, wl] at *; omega)) (show (10 - (wr (k + 1))).toNat < mz from by omega)
theorem r_plates (hF : FS F) (hR : Rg I) {v0 v1 v2 : Int}  (hQ : ∀ (r : Int) (I' : pI), Rg I' → AR I' → iR r → (∀ k j, ¬ (k = 238 ∨ k = 247 ∨ k = 248) → I' k j = I k j) → Q (some (vi r)) F I') : CallN G (d + 2) kX12_plates [vr 235, vi v0, vi v1, vi v2] NP F I Q := by
  refine CallN_in (fun hok hA => CallN_out ?_)
  have iv0 : -2147483648 ≤ v0 ∧ v0 < 2147483648 := hok (vi v0) (by simp)
  have iv1 : -2147483648 ≤ v1 ∧ v1 < 2147483648 := hok (vi v1) (by simp)
  have iv2 : -2147483648 ≤ v2 ∧ v2 < 2147483648 := hok (vi v2) (by simp)
  refine Call_wp (lv := [some (vr 235), some (vi v0), some (vi v1), some (vi v2), none, none, none, none, none, none, none, none, none]) (by decide) ckX12_plates [74] rfl rfl ?_
  refine s_X12_isSheet (fun (w1 : ((0 : Int) ≤ v0 ∧ (v0 : Int) ≤ 3)) => ?_) (fun (w1 : ¬ ((0 : Int) ≤ v0 ∧ (v0 : Int) ≤ 3)) => ?_)
  ·
    refine ⟨fun c => absurd c (show (¬ ((1 : Int) = 0)) from by decide), fun _ => ?_⟩
    refine s_X12_within (fun (w2 : ((0 : Int) ≤ v1 ∧ (v1 : Int) ≤ 10)) => ?_) (fun (w2 : ¬ ((0 : Int) ≤ v1 ∧ (v1 : Int) ≤ 10)) => ?_)
    ·
      refine ⟨fun c => absurd c (show (¬ ((1 : Int) = 0)) from by decide), fun _ => ?_⟩
      refine s_X12_within (fun (w3 : ((1 : Int) ≤ v2 ∧ (v2 : Int) ≤ 999)) => ?_) (fun (w3 : ¬ ((1 : Int) ≤ v2 ∧ (v2 : Int) ≤ 999)) => ?_)
      ·
        refine ⟨fun _ => ?_, fun c => absurd c (show (¬ (1 : Int) = 0) from by decide)⟩
        refine ⟨_, rfl, (by decide), ?_⟩
        refine fun w0 hw0 => ?_; obtain rfl : w0 = some 250 := hw0.symm.trans (FS.g hF rfl)
        refine ⟨_, rfl, (by decide), (show (0 : Int) ≤ v0 from by first | with_reducible assumption | omega | (simp only [wr, wl] at *; omega)), (show v0 < (4 : Int) from by first | with_reducible assumption | omega | (simp only [wr, wl] at *; omega)), ?_⟩
        have a4 : -2147483648 ≤ (I 250 (Int.toNat v0)) ∧ (I 250 (Int.toNat v0)) < 2147483648 := hA.1 _ _
        refine ⟨fun (c5 : (¬ ((I 250 (Int.toNat v0)) : Int) = 0)) => ?_, fun (c5 : (((I 250 (Int.toNat v0)) : Int) = 0)) => ?_⟩
        ·
          refine ⟨_, rfl, (by decide), ?_⟩
          refine fun w0 hw0 => ?_; obtain rfl : w0 = some 251 := hw0.symm.trans (FS.g hF rfl)
          refine ⟨_, rfl, (by decide), (show (0 : Int) ≤ v0 from by first | with_reducible assumption | omega | (simp only [wr, wl] at *; omega)), (show v0 < (4 : Int) from by first | with_reducible assumption | omega | (simp only [wr, wl] at *; omega)), ?_⟩
          have r6 : 0 ≤ (I 251 (Int.toNat v0)) ∧ (I 251 (Int.toNat v0)) ≤ 24 := hR.s _ (by omega)
          refine ⟨fun (c8 : (((I 251 (Int.toNat v0)) : Int) < v1)) => ?_, fun (c8 : (¬ (((I 251 (Int.toNat v0)) : Int) < v1))) => ?_⟩
          ·
            refine r_plates_l1 hF hR (by omega) (by omega) (by omega) (fun r I' g1 g2 hv hA' => hQ _ _ g1 hA' (hv _ rfl) g2) _ 0 0 0 I hR (fun _ _ _ => rfl) (show (0 : Int) ≤ (0 : Int) from Int.le_refl _) (show ((0 : Int) : Int) ≤ 10 from by first | with_reducible assumption | omega | (simp only [wr, wl] at *; omega)) (Nat.lt_succ_self _)
          ·
            refine r_plates_l1 hF hR (by omega) (by omega) (by omega) (fun r I' g1 g2 hv hA' => hQ _ _ g1 hA' (hv _ rfl) g2) _ 1 0 0 I hR (fun _ _ _ => rfl) (show (0 : Int) ≤ (0 : Int) from Int.le_refl _) (show ((0 : Int) : Int) ≤ 10 from by first | with_reducible assumption | omega | (simp only [wr, wl] at *; omega)) (Nat.lt_succ_self _)
        ·
          refine ⟨⟨_, rfl, (by decide)⟩, ?_⟩
          refine s_X12_finding hF (v := (-1000002)) (by decide) ?_
          exact ⟨rfl, fun hv hA' => hQ _ _ (Rg.u hR (Pr_f rfl)) hA' (hv _ rfl) (fun ka ja hk => (uI_o (show ¬ (ka = 238 ∧ ja = 2) from by first | (intro e; obtain ⟨rfl, rfl⟩ := e; exact hk (by decide)) | omega)))⟩
      ·
        refine ⟨fun c => absurd (show ((0 : Int) = 0) from by decide) c, fun _ => ?_⟩
        refine ⟨⟨_, rfl, (by decide)⟩, ?_⟩
        refine s_X12_finding hF (v := (-1000001)) (by decide) ?_
        exact ⟨rfl, fun hv hA' => hQ _ _ (Rg.u hR (Pr_f rfl)) hA' (hv _ rfl) (fun ka ja hk => (uI_o (show ¬ (ka = 238 ∧ ja = 1) from by first | (intro e; obtain ⟨rfl, rfl⟩ := e; exact hk (by decide)) | omega)))⟩
    ·
      refine ⟨fun _ => ?_, fun c => absurd (show ((0 : Int) = 0) from by decide) c⟩
      refine ⟨⟨_, rfl, (by decide)⟩, ?_⟩
      refine s_X12_finding hF (v := (-1000001)) (by decide) ?_
      exact ⟨rfl, fun hv hA' => hQ _ _ (Rg.u hR (Pr_f rfl)) hA' (hv _ rfl) (fun ka ja hk => (uI_o (show ¬ (ka = 238 ∧ ja = 1) from by first | (intro e; obtain ⟨rfl, rfl⟩ := e; exact hk (by decide)) | omega)))⟩
  ·
    refine ⟨fun _ => ?_, fun c => absurd (show ((0 : Int) = 0) from by decide) c⟩
    refine ⟨⟨_, rfl, (by decide)⟩, ?_⟩
    refine s_X12_finding hF (v := (-1000001)) (by decide) ?_
    exact ⟨rfl, fun hv hA' => hQ _ _ (Rg.u hR (Pr_f rfl)) hA' (hv _ rfl) (fun ka ja hk => (uI_o (show ¬ (ka = 238 ∧ ja = 1) from by first | (intro e; obtain ⟨rfl, rfl⟩ := e; exact hk (by decide)) | omega)))⟩
theorem r_copy237_l (hF : FS F) (hQ : ∀ I' : pI, (∀ j, j < 1340 → I' 237 j = I 236 j) → (∀ k j, k ≠ 237 → I' k j = I k j) → Q none F I') : ∀ (m : Nat) (k : Int) (J : pI), (∀ j : Nat, (j : Int) < k → J 237 j = I 236 j) → (∀ a j, a ≠ 237 → J a j = I a j) → 0 ≤ k → k ≤ 1340 → (1340 - k).toNat < m → GoN G d kX12_copy NP NP 2 [some (vr 236), some (vr 237), some (vi k)] [] F J Q := by
  intro m
  induction m with
  | zero => intro k J _ _ _ _ h; exact absurd h (Nat.not_lt_zero _)
  | succ m ih =>
    intro k J hc hv h0 h1 hm
    refine Go_wp (by decide) ckX12_copy [2] ?_
    refine ⟨fun (c1 : ((1340 : Int) ≤ k)) => ?_, fun (c1 : (¬ ((1340 : Int) ≤ k))) => ?_⟩
    ·
      exact ⟨rfl, hQ J (fun j hj => hc j (by omega)) hv⟩
    ·
      refine ⟨_, rfl, (by decide), (show (0 : Int) ≤ k from by first | with_reducible assumption | omega | (simp only [wr, wl] at *; omega)), (show k < (1340 : Int) from by first | with_reducible assumption | omega | (simp only [wr, wl] at *; omega)), ?_⟩
      refine ⟨_, rfl, (by decide), (show (0 : Int) ≤ k from by first | with_reducible assumption | omega | (simp only [wr, wl] at *; omega)), (show k < (1340 : Int) from by first | with_reducible assumption | omega | (simp only [wr, wl] at *; omega)), ?_⟩
      have n2 : (wr (k + 1)) = k + 1 := wr_id (show -2147483648 ≤ (k + 1 : Int) ∧ (k + 1 : Int) < 2147483648 from by omega)
      refine ih _ _ (fun j hj => ?_) (fun a j ha => (uI_o (fun e => ha e.1)).trans (hv a j ha)) (by omega) (by omega) (by omega)
      by_cases e : j = Int.toNat k
      · subst e; exact uJ_eq.trans (hv 236 _ (by decide))
      · exact (uJ_ne e).trans (hc j (by omega))
theorem r_copy237 (hF : FS F) (hQ : ∀ I' : pI, (∀ j, j < 1340 → I' 237 j = I 236 j) → (∀ k j, k ≠ 237 → I' k j = I k j) → Q none F I') : CallN G d kX12_copy [vr 236, vr 237] NP F I Q := by
  refine Call_wp (lv := [some (vr 236), some (vr 237), none]) (by decide) ckX12_copy [2] rfl rfl ?_
  exact r_copy237_l hF hQ _ 0 I (fun j hj => absurd hj (by omega)) (fun _ _ _ => rfl) (by omega) (by omega) (Nat.lt_succ_self _)
theorem r_copy236_l (hF : FS F) (hQ : ∀ I' : pI, (∀ j, j < 1340 → I' 236 j = I 237 j) → (∀ k j, k ≠ 236 → I' k j = I k j) → Q none F I') : ∀ (m : Nat) (k : Int) (J : pI), (∀ j : Nat, (j : Int) < k → J 236 j = I 237 j) → (∀ a j, a ≠ 236 → J a j = I a j) → 0 ≤ k → k ≤ 1340 → (1340 - k).toNat < m → GoN G d kX12_copy NP NP 2 [some (vr 237), some (vr 236), some (vi k)] [] F J Q := by
  intro m
  induction m with
  | zero => intro k J _ _ _ _ h; exact absurd h (Nat.not_lt_zero _)
  | succ m ih =>
    intro k J hc hv h0 h1 hm
    refine Go_wp (by decide) ckX12_copy [2] ?_
    refine ⟨fun (c1 : ((1340 : Int) ≤ k)) => ?_, fun (c1 : (¬ ((1340 : Int) ≤ k))) => ?_⟩
    ·
      exact ⟨rfl, hQ J (fun j hj => hc j (by omega)) hv⟩
    ·
      refine ⟨_, rfl, (by decide), (show (0 : Int) ≤ k from by first | with_reducible assumption | omega | (simp only [wr, wl] at *; omega)), (show k < (1340 : Int) from by first | with_reducible assumption | omega | (simp only [wr, wl] at *; omega)), ?_⟩
      refine ⟨_, rfl, (by decide), (show (0 : Int) ≤ k from by first | with_reducible assumption | omega | (simp only [wr, wl] at *; omega)), (show k < (1340 : Int) from by first | with_reducible assumption | omega | (simp only [wr, wl] at *; omega)), ?_⟩
      have n2 : (wr (k + 1)) = k + 1 := wr_id (show -2147483648 ≤ (k + 1 : Int) ∧ (k + 1 : Int) < 2147483648 from by omega)
      refine ih _ _ (fun j hj => ?_) (fun a j ha => (uI_o (fun e => ha e.1)).trans (hv a j ha)) (by omega) (by omega) (by omega)
      by_cases e : j = Int.toNat k
      · subst e; exact uJ_eq.trans (hv 237 _ (by decide))
      · exact (uJ_ne e).trans (hc j (by omega))
theorem r_copy236 (hF : FS F) (hQ : ∀ I' : pI, (∀ j, j < 1340 → I' 236 j = I 237 j) → (∀ k j, k ≠ 236 → I' k j = I k j) → Q none F I') : CallN G d kX12_copy [vr 237, vr 236] NP F I Q := by
  refine Call_wp (lv := [some (vr 237), some (vr 236), none]) (by decide) ckX12_copy [2] rfl rfl ?_
  exact r_copy236_l hF hQ _ 0 I (fun j hj => absurd hj (by omega)) (fun _ _ _ => rfl) (by omega) (by omega) (Nat.lt_succ_self _)
theorem r_tell (hF : FS F) (hR : Rg I) {v0 : Int}  (hQ : ∀ (r : Int) (I' : pI), Rg I' → AR I' → iR r → (∀ k j, ¬ (k = 238 ∨ (k = 236 ∧ (j = 3 ∨ (1292 ≤ j ∧ j < 1340)))) → I' k j = I k j) → Q (some (vi r)) F I') : CallN G (d + 1) kX12_tell [vr 235, vi v0] NP F I Q := by
  refine CallN_in (fun hok hA => CallN_out ?_)
  have iv0 : -2147483648 ≤ v0 ∧ v0 < 2147483648 := hok (vi v0) (by simp)
  refine Call_wp (lv := [some (vr 235), some (vi v0)]) (by decide) ckX12_tell [] rfl rfl ?_
  refine ⟨_, rfl, (by decide), ?_⟩
  refine fun w0 hw0 => ?_; obtain rfl : w0 = some 236 := hw0.symm.trans (FS.g hF rfl)
  refine ⟨_, rfl, (by decide), (by decide), (by decide), ?_⟩
  have r1 : 0 ≤ (I 236 3) ∧ (I 236 3) ≤ 48 := Rg.n3 hR
  refine ⟨fun (c3 : (¬ ((I 236 3) : Int) = 48)) => ?_, fun (c3 : (((I 236 3) : Int) = 48)) => ?_⟩
  ·
    refine ⟨_, rfl, (by decide), ?_⟩
    refine fun w0 hw0 => ?_; obtain rfl : w0 = some 236 := hw0.symm.trans (FS.g hF rfl)
    refine ⟨_, rfl, (by decide), ?_⟩
    refine fun w0 hw0 => ?_; obtain rfl : w0 = some 236 := hw0.symm.trans (FS.g hF rfl)
    refine ⟨_, rfl, (by decide), (by decide), (by decide), ?_⟩
    have n4 : (wr (1292 + (I 236 3))) = 1292 + (I 236 3) := wr_id (show -2147483648 ≤ (1292 + (I 236 3) : Int) ∧ (1292 + (I 236 3) : Int) < 2147483648 from by omega)
    refine ⟨_, rfl, (by decide), (show (0 : Int) ≤ (wr (1292 + (I 236 3))) from by first | with_reducible assumption | omega | (simp only [wr, wl] at *; omega)), (show (wr (1292 + (I 236 3))) < (1340 : Int) from by first | with_reducible assumption | omega | (simp only [wr, wl] at *; omega)), ?_⟩
    have p5 : Pn (Int.toNat (wr (1292 + (I 236 3)))) v0 := by apply Pn_w <;> omega
    refine ⟨_, rfl, (by decide), ?_⟩
    refine fun w0 hw0 => ?_; obtain rfl : w0 = some 236 := hw0.symm.trans (FS.g hF rfl)
    refine ⟨_, rfl, (by decide), (by decide), (by decide), ?_⟩
    have u6 : ((uI I 236 (Int.toNat (wr (1292 + (I 236 3)))) v0) 236 3) = (I 236 3) := uJ_ne (by omega)
    refine ⟨_, rfl, (by decide), (by decide), (by decide), ?_⟩
    have n7 : (wr (((uI I 236 (Int.toNat (wr (1292 + (I 236 3)))) v0) 236 3) + 1)) = ((uI I 236 (Int.toNat (wr (1292 + (I 236 3)))) v0) 236 3) + 1 := wr_id (show -2147483648 ≤ (((uI I 236 (Int.toNat (wr (1292 + (I 236 3)))) v0) 236 3) + 1 : Int) ∧ (((uI I 236 (Int.toNat (wr (1292 + (I 236 3)))) v0) 236 3) + 1 : Int) < 2147483648 from by omega)
    have p8 : Pn 3 (wr (((uI I 236 (Int.toNat (wr (1292 + (I 236 3)))) v0) 236 3) + 1)) := by apply Pn_w <;> omega
    refine ⟨_, rfl, (by decide), ?_⟩
    refine fun w0 hw0 => ?_; obtain rfl : w0 = some 236 := hw0.symm.trans (FS.g hF rfl)
    refine ⟨_, rfl, (by decide), (by decide), (by decide), ?_⟩
    exact ⟨rfl, fun hv hA' => hQ _ _ (Rg.u (Rg.u hR (Pr_n p5)) (Pr_n p8)) hA' (hv _ rfl) (fun ka ja hk => ((uI_o (show ¬ (ka = 236 ∧ ja = 3) from by first | (intro e; obtain ⟨rfl, rfl⟩ := e; exact hk (by decide)) | omega))).trans ((uI_o (show ¬ (ka = 236 ∧ ja = (Int.toNat (wr (1292 + (I 236 3))))) from by omega))))⟩
  ·
    refine ⟨⟨_, rfl, (by decide)⟩, ?_⟩
    refine s_X12_finding hF (v := (-1000004)) (by decide) ?_
    exact ⟨rfl, fun hv hA' => hQ _ _ (Rg.u hR (Pr_f rfl)) hA' (hv _ rfl) (fun ka ja hk => (uI_o (show ¬ (ka = 238 ∧ ja = 4) from by first | (intro e; obtain ⟨rfl, rfl⟩ := e; exact hk (by decide)) | omega)))⟩
theorem r_count_l1 (hF : FS F) (hR : Rg I) {v0 : Int}  (hQ : ∀ (r : Int) , Q (some (vi r)) F I) : ∀ (mz : Nat) (n e : Int) , ((0 : Int) ≤ e) → ((e : Int) ≤ 20) → (20 - e).toNat < mz → GoN G (d + 1) kX12_count NP NP 64 [some (vr 235), some (vi v0), some (vi n), some (vi e)] [] F I Q := by
  intro mz
  induction mz with
  | zero => intro n e _ _ h; exact absurd h (Nat.not_lt_zero _)
  | succ mz ih =>
    intro n e c100 c101 hm
    refine GoN_in (fun hok hA => ?_)
    have iiv0 : -2147483648 ≤ v0 ∧ v0 < 2147483648 := hok 1 _ rfl
    have iin : -2147483648 ≤ n ∧ n < 2147483648 := hok 2 _ rfl
    have iie : -2147483648 ≤ e ∧ e < 2147483648 := hok 3 _ rfl
    refine Go_wp (by decide) ckX12_count [64] ?_
    refine ⟨_, rfl, (by decide), ?_⟩
    refine fun w0 hw0 => ?_; obtain rfl : w0 = some 236 := hw0.symm.trans (FS.g hF rfl)
    refine ⟨_, rfl, (by decide), (by decide), (by decide), ?_⟩
    have r1 : 0 ≤ (I 236 1) ∧ (I 236 1) ≤ 20 := Rg.n1 hR
    refine ⟨fun (c3 : (((I 236 1) : Int) ≤ e)) => ?_, fun (c3 : (¬ (((I 236 1) : Int) ≤ e))) => ?_⟩
    ·
      exact ⟨rfl, hQ _⟩
    ·
      refine ⟨⟨_, rfl, (by decide)⟩, ?_⟩
      refine r_entry (p := e) (f := 5) hF (j := (Int.toNat (189 + 6 * e))) (by omega) (by omega) (by omega) (fun w4 hw5 => ?_)
      have hw5 : w4 = (I 236 (Int.toNat (189 + 6 * e))) := hw5
      have a6 : -2147483648 ≤ (I 236 (Int.toNat (189 + 6 * e))) ∧ (I 236 (Int.toNat (189 + 6 * e))) < 2147483648 := hA.1 _ _
      refine ⟨fun (c7 : ((w4 : Int) < 0)) => ?_, fun (c7 : (¬ ((w4 : Int) < 0))) => ?_⟩
      ·
        have n8 : (wr (n + 0)) = n + 0 := wr_id (show -2147483648 ≤ (n + 0 : Int) ∧ (n + 0 : Int) < 2147483648 from by omega)
        have n9 : (wr (e + 1)) = e + 1 := wr_id (show -2147483648 ≤ (e + 1 : Int) ∧ (e + 1 : Int) < 2147483648 from by omega)
        exact ih (wr (n + 0)) (wr (e + 1))  (show (0 : Int) ≤ (wr (e + 1)) from by first | with_reducible assumption | omega | (simp only [wr, wl] at *; omega)) (show ((wr (e + 1)) : Int) ≤ 20 from by first | with_reducible assumption | omega | (simp only [wr, wl] at *; omega)) (show (20 - (wr (e + 1))).toNat < mz from by omega)
      ·
        have n10 : -2147483648 ≤ (wr (n + 1)) ∧ (wr (n + 1)) < 2147483648 := wr_R _
        have n11 : (wr (e + 1)) = e + 1 := wr_id (show -2147483648 ≤ (e + 1 : Int) ∧ (e + 1 : Int) < 2147483648 from by omega)
        exact ih (wr (n + 1)) (wr (e + 1))  (show (0 : Int) ≤ (wr (e + 1)) from by first | with_reducible assumption | omega | (simp only [wr, wl] at *; omega)) (show ((wr (e + 1)) : Int) ≤ 20 from by first | with_reducible assumption | omega | (simp only [wr, wl] at *; omega)) (show (20 - (wr (e + 1))).toNat < mz from by omega)
theorem r_count_l2 (hF : FS F) (hR : Rg I) {v0 : Int}  (hQ : ∀ (r : Int) , Q (some (vi r)) F I) : ∀ (mz : Nat) (n e : Int) , ((0 : Int) ≤ e) → ((e : Int) ≤ 4) → (4 - e).toNat < mz → GoN G (d + 1) kX12_count NP NP 101 [some (vr 235), some (vi v0), some (vi n), some (vi e)] [] F I Q := by
  intro mz
  induction mz with
  | zero => intro n e _ _ h; exact absurd h (Nat.not_lt_zero _)
  | succ mz ih =>
    intro n e c100 c101 hm
    refine GoN_in (fun hok hA => ?_)
    have iiv0 : -2147483648 ≤ v0 ∧ v0 < 2147483648 := hok 1 _ rfl
    have iin : -2147483648 ≤ n ∧ n < 2147483648 := hok 2 _ rfl
    have iie : -2147483648 ≤ e ∧ e < 2147483648 := hok 3 _ rfl
    refine Go_wp (by decide) ckX12_count [101] ?_
    refine ⟨fun (c1 : ((4 : Int) ≤ e)) => ?_, fun (c1 : (¬ ((4 : Int) ≤ e))) => ?_⟩
    ·
      exact ⟨rfl, hQ _⟩
    ·
      refine ⟨⟨_, rfl, (by decide)⟩, ?_⟩
      refine Call_wp (lv := [some (vr 235), some (vi e)]) (by decide) ckX12_hasProgram [] rfl rfl ?_
      refine ⟨_, rfl, (by decide), ?_⟩
      refine fun w0 hw0 => ?_; obtain rfl : w0 = some 236 := hw0.symm.trans (FS.g hF rfl)
      have n2 : (wr (36 * e)) = 36 * e := wr_id (show -2147483648 ≤ (36 * e : Int) ∧ (36 * e : Int) < 2147483648 from by omega)
      have n3 : (wr (40 + (wr (36 * e)))) = 40 + (wr (36 * e)) := wr_id (show -2147483648 ≤ (40 + (wr (36 * e)) : Int) ∧ (40 + (wr (36 * e)) : Int) < 2147483648 from by omega)
      have n4 : (wr ((wr (40 + (wr (36 * e)))) + 0)) = (wr (40 + (wr (36 * e)))) + 0 := wr_id (show -2147483648 ≤ ((wr (40 + (wr (36 * e)))) + 0 : Int) ∧ ((wr (40 + (wr (36 * e)))) + 0 : Int) < 2147483648 from by omega)
      refine ⟨_, rfl, (by decide), (show (0 : Int) ≤ (wr ((wr (40 + (wr (36 * e)))) + 0)) from by first | with_reducible assumption | omega | (simp only [wr, wl] at *; omega)), (show (wr ((wr (40 + (wr (36 * e)))) + 0)) < (1340 : Int) from by first | with_reducible assumption | omega | (simp only [wr, wl] at *; omega)), ?_⟩
      have r5 : 0 ≤ (I 236 (Int.toNat (wr ((wr (40 + (wr (36 * e)))) + 0)))) ∧ (I 236 (Int.toNat (wr ((wr (40 + (wr (36 * e)))) + 0)))) ≤ 17 := Pn_g0 (p := (Int.toNat e)) (by omega) (by omega) (hR.n (Int.toNat (wr ((wr (40 + (wr (36 * e)))) + 0))) (by omega))
      refine ⟨fun (c7 : (((I 236 (Int.toNat (wr ((wr (40 + (wr (36 * e)))) + 0)))) : Int) ≤ 0)) => ?_, fun (c7 : (¬ (((I 236 (Int.toNat (wr ((wr (40 + (wr (36 * e)))) + 0)))) : Int) ≤ 0))) => ?_⟩
      ·
        refine ⟨rfl, (by decide), ?_⟩
        refine ⟨fun _ => ?_, fun c => absurd (show ((0 : Int) = 0) from by decide) c⟩
        have n8 : (wr (n + 0)) = n + 0 := wr_id (show -2147483648 ≤ (n + 0 : Int) ∧ (n + 0 : Int) < 2147483648 from by omega)
        have n9 : (wr (e + 1)) = e + 1 := wr_id (show -2147483648 ≤ (e + 1 : Int) ∧ (e + 1 : Int) < 2147483648 from by omega)
        exact ih (wr (n + 0)) (wr (e + 1))  (show (0 : Int) ≤ (wr (e + 1)) from by first | with_reducible assumption | omega | (simp only [wr, wl] at *; omega)) (show ((wr (e + 1)) : Int) ≤ 4 from by first | with_reducible assumption | omega | (simp only [wr, wl] at *; omega)) (show (4 - (wr (e + 1))).toNat < mz from by omega)
      ·
        refine ⟨rfl, (by decide), ?_⟩
        refine ⟨fun c => absurd c (show (¬ ((1 : Int) = 0)) from by decide), fun _ => ?_⟩
        have n10 : -2147483648 ≤ (wr (n + 1)) ∧ (wr (n + 1)) < 2147483648 := wr_R _
        have n11 : (wr (e + 1)) = e + 1 := wr_id (show -2147483648 ≤ (e + 1 : Int) ∧ (e + 1 : Int) < 2147483648 from by omega)
        exact ih (wr (n + 1)) (wr (e + 1))  (show (0 : Int) ≤ (wr (e + 1)) from by first | with_reducible assumption | omega | (simp only [wr, wl] at *; omega)) (show ((wr (e + 1)) : Int) ≤ 4 from by first | with_reducible assumption | omega | (simp only [wr, wl] at *; omega)) (show (4 - (wr (e + 1))).toNat < mz from by omega)
theorem r_count_l3 (hF : FS F) (hR : Rg I) {v0 : Int}  (hQ : ∀ (r : Int) , Q (some (vi r)) F I) : ∀ (mz : Nat) (n e : Int) , ((0 : Int) ≤ e) → ((e : Int) ≤ 14) → (14 - e).toNat < mz → GoN G (d + 2) kX12_count NP NP 151 [some (vr 235), some (vi v0), some (vi n), some (vi e)] [] F I Q := by
  intro mz
  induction mz with
  | zero => intro n e _ _ h; exact absurd h (Nat.not_lt_zero _)
  | succ mz ih =>
    intro n e c100 c101 hm
    refine GoN_in (fun hok hA => ?_)
    have iiv0 : -2147483648 ≤ v0 ∧ v0 < 2147483648 := hok 1 _ rfl
    have iin : -2147483648 ≤ n ∧ n < 2147483648 := hok 2 _ rfl
    have iie : -2147483648 ≤ e ∧ e < 2147483648 := hok 3 _ rfl
    refine Go_wp (by decide) ckX12_count [151] ?_
    refine ⟨_, rfl, (by decide), ?_⟩
    refine fun w0 hw0 => ?_; obtain rfl : w0 = some 236 := hw0.symm.trans (FS.g hF rfl)
    refine ⟨_, rfl, (by decide), (by decide), (by decide), ?_⟩
    have r1 : 0 ≤ (I 236 0) ∧ (I 236 0) ≤ 14 := Rg.n0 hR
    refine ⟨fun (c3 : (((I 236 0) : Int) ≤ e)) => ?_, fun (c3 : (¬ (((I 236 0) : Int) ≤ e))) => ?_⟩
    ·
      exact ⟨rfl, hQ _⟩
    ·
      refine ⟨⟨_, rfl, (by decide)⟩, ?_⟩
      refine Call_wp (lv := [some (vr 235), some (vi e)]) (by decide) ckX12_many [] rfl rfl ?_
      refine ⟨⟨_, rfl, (by decide)⟩, ?_⟩
      refine r_of (p := e) (f := 4) hF (j := (Int.toNat (308 + 66 * e))) (by omega) (by omega) (by omega) (fun w4 hw5 => ?_)
      have r6 : 0 ≤ (I 236 (Int.toNat (308 + 66 * e))) ∧ (I 236 (Int.toNat (308 + 66 * e))) ≤ 24 := Pn_p4 (p := (Int.toNat e)) (by omega) (by omega) (hR.n (Int.toNat (308 + 66 * e)) (by omega))
      have hw5 : w4 = (I 236 (Int.toNat (308 + 66 * e))) := hw5
      refine ⟨rfl, ?_⟩
      have n8 : -2147483648 ≤ (wr (n + w4)) ∧ (wr (n + w4)) < 2147483648 := wr_R _
      have n9 : (wr (e + 1)) = e + 1 := wr_id (show -2147483648 ≤ (e + 1 : Int) ∧ (e + 1 : Int) < 2147483648 from by omega)
      exact ih (wr (n + w4)) (wr (e + 1))  (show (0 : Int) ≤ (wr (e + 1)) from by first | with_reducible assumption | omega | (simp only [wr, wl] at *; omega)) (show ((wr (e + 1)) : Int) ≤ 14 from by first | with_reducible assumption | omega | (simp only [wr, wl] at *; omega)) (show (14 - (wr (e + 1))).toNat < mz from by omega)
theorem r_count (hF : FS F) (hR : Rg I) {v0 : Int}  (hQ : ∀ (r : Int) (I' : pI), Rg I' → AR I' → iR r → (∀ k j, ¬ (k = 238) → I' k j = I k j) → Q (some (vi r)) F I') : CallN G (d + 2) kX12_count [vr 235, vi v0] NP F I Q := by
  refine CallN_in (fun hok hA => CallN_out ?_)
  have iv0 : -2147483648 ≤ v0 ∧ v0 < 2147483648 := hok (vi v0) (by simp)
  refine Call_wp (lv := [some (vr 235), some (vi v0), none, none]) (by decide) ckX12_count [64, 101, 151] rfl rfl ?_
  refine ⟨fun (c1 : ((v0 : Int) = 0)) => ?_, fun (c1 : (¬ ((v0 : Int) = 0))) => ?_⟩
  ·
    refine ⟨_, rfl, (by decide), ?_⟩
    refine fun w0 hw0 => ?_; obtain rfl : w0 = some 236 := hw0.symm.trans (FS.g hF rfl)
    refine ⟨_, rfl, (by decide), (by decide), (by decide), ?_⟩
    have r2 : 0 ≤ (I 236 0) ∧ (I 236 0) ≤ 14 := Rg.n0 hR
    exact ⟨rfl, fun hv hA' => hQ _ _ hR hA' (hv _ rfl) (fun _ _ _ => rfl)⟩
  ·
    refine ⟨fun (c3 : ((v0 : Int) = 1)) => ?_, fun (c3 : (¬ ((v0 : Int) = 1))) => ?_⟩
    ·
      refine ⟨_, rfl, (by decide), ?_⟩
      refine fun w0 hw0 => ?_; obtain rfl : w0 = some 236 := hw0.symm.trans (FS.g hF rfl)
      refine ⟨_, rfl, (by decide), (by decide), (by decide), ?_⟩
      have r4 : 0 ≤ (I 236 1) ∧ (I 236 1) ≤ 20 := Rg.n1 hR
      exact ⟨rfl, fun hv hA' => hQ _ _ hR hA' (hv _ rfl) (fun _ _ _ => rfl)⟩
    ·
      refine ⟨fun (c5 : ((v0 : Int) = 2)) => ?_, fun (c5 : (¬ ((v0 : Int) = 2))) => ?_⟩
      ·
        refine r_count_l1 hF hR  (fun r hv hA' => hQ _ _ hR hA' (hv _ rfl) (fun _ _ _ => rfl)) _ 0 0  (show (0 : Int) ≤ (0 : Int) from Int.le_refl _) (show ((0 : Int) : Int) ≤ 20 from by first | with_reducible assumption | omega | (simp only [wr, wl] at *; omega)) (Nat.lt_succ_self _)
      ·
        refine ⟨fun (c6 : ((v0 : Int) = 3)) => ?_, fun (c6 : (¬ ((v0 : Int) = 3))) => ?_⟩
        ·
          refine r_count_l2 hF hR  (fun r hv hA' => hQ _ _ hR hA' (hv _ rfl) (fun _ _ _ => rfl)) _ 0 0  (show (0 : Int) ≤ (0 : Int) from Int.le_refl _) (show ((0 : Int) : Int) ≤ 4 from by first | with_reducible assumption | omega | (simp only [wr, wl] at *; omega)) (Nat.lt_succ_self _)
        ·
          refine ⟨fun (c7 : ((v0 : Int) = 4)) => ?_, fun (c7 : (¬ ((v0 : Int) = 4))) => ?_⟩
          ·
            refine ⟨_, rfl, (by decide), ?_⟩
            refine fun w0 hw0 => ?_; obtain rfl : w0 = some 236 := hw0.symm.trans (FS.g hF rfl)
            refine ⟨_, rfl, (by decide), (by decide), (by decide), ?_⟩
            have r8 : 0 ≤ (I 236 2) ∧ (I 236 2) ≤ 64 := Rg.n2 hR
            exact ⟨rfl, fun hv hA' => hQ _ _ hR hA' (hv _ rfl) (fun _ _ _ => rfl)⟩
          ·
            refine ⟨fun (c9 : ((v0 : Int) = 5)) => ?_, fun (c9 : (¬ ((v0 : Int) = 5))) => ?_⟩
            ·
              refine ⟨_, rfl, (by decide), ?_⟩
              refine fun w0 hw0 => ?_; obtain rfl : w0 = some 236 := hw0.symm.trans (FS.g hF rfl)
              refine ⟨_, rfl, (by decide), (by decide), (by decide), ?_⟩
              have r10 : 0 ≤ (I 236 3) ∧ (I 236 3) ≤ 48 := Rg.n3 hR
              exact ⟨rfl, fun hv hA' => hQ _ _ hR hA' (hv _ rfl) (fun _ _ _ => rfl)⟩
            ·
              refine ⟨fun (c11 : ((v0 : Int) = 6)) => ?_, fun (c11 : (¬ ((v0 : Int) = 6))) => ?_⟩
              ·
                refine ⟨_, rfl, (by decide), ?_⟩
                have r12 : 0 ≤ (I 235 31) ∧ (I 235 31) ≤ 30 := Rg.f31 hR
                exact ⟨rfl, fun hv hA' => hQ _ _ hR hA' (hv _ rfl) (fun _ _ _ => rfl)⟩
              ·
                refine ⟨fun (c13 : ((v0 : Int) = 7)) => ?_, fun (c13 : (¬ ((v0 : Int) = 7))) => ?_⟩
                ·
                  refine r_count_l3 hF hR  (fun r hv hA' => hQ _ _ hR hA' (hv _ rfl) (fun _ _ _ => rfl)) _ 0 0  (show (0 : Int) ≤ (0 : Int) from Int.le_refl _) (show ((0 : Int) : Int) ≤ 14 from by first | with_reducible assumption | omega | (simp only [wr, wl] at *; omega)) (Nat.lt_succ_self _)
                ·
                  refine ⟨⟨_, rfl, (by decide)⟩, ?_⟩
                  refine s_X12_finding hF (v := (-1000001)) (by decide) ?_
                  exact ⟨rfl, fun hv hA' => hQ _ _ (Rg.u hR (Pr_f rfl)) hA' (hv _ rfl) (fun ka ja hk => (uI_o (show ¬ (ka = 238 ∧ ja = 1) from by first | (intro e; obtain ⟨rfl, rfl⟩ := e; exact hk (by decide)) | omega)))⟩
theorem r_told (hF : FS F) (hR : Rg I) {v0 : Int}  (hQ : ∀ (r : Int) (I' : pI), Rg I' → AR I' → iR r → (∀ k j, ¬ (k = 238) → I' k j = I k j) → Q (some (vi r)) F I') : CallN G (d + 1) kX12_told [vr 235, vi v0] NP F I Q := by
  refine CallN_in (fun hok hA => CallN_out ?_)
  have iv0 : -2147483648 ≤ v0 ∧ v0 < 2147483648 := hok (vi v0) (by simp)
  refine Call_wp (lv := [some (vr 235), some (vi v0)]) (by decide) ckX12_told [] rfl rfl ?_
  refine s_X12_within (fun (w1 : ((1 : Int) ≤ v0 ∧ (v0 : Int) ≤ 6)) => ?_) (fun (w1 : ¬ ((1 : Int) ≤ v0 ∧ (v0 : Int) ≤ 6)) => ?_)
  ·
    refine ⟨fun c => absurd c (show (¬ ((1 : Int) = 0)) from by decide), fun _ => ?_⟩
    refine ⟨_, rfl, (by decide), ?_⟩
    refine fun w0 hw0 => ?_; obtain rfl : w0 = some 238 := hw0.symm.trans (FS.g hF rfl)
    refine ⟨_, rfl, (by decide), (show (0 : Int) ≤ v0 from by first | with_reducible assumption | omega | (simp only [wr, wl] at *; omega)), (show v0 < (7 : Int) from by first | with_reducible assumption | omega | (simp only [wr, wl] at *; omega)), ?_⟩
    exact ⟨rfl, fun hv hA' => hQ _ _ hR hA' (hv _ rfl) (fun _ _ _ => rfl)⟩
  ·
    refine ⟨fun _ => ?_, fun c => absurd (show ((0 : Int) = 0) from by decide) c⟩
    refine ⟨⟨_, rfl, (by decide)⟩, ?_⟩
    refine s_X12_finding hF (v := (-1000001)) (by decide) ?_
    exact ⟨rfl, fun hv hA' => hQ _ _ (Rg.u hR (Pr_f rfl)) hA' (hv _ rfl) (fun ka ja hk => (uI_o (show ¬ (ka = 238 ∧ ja = 1) from by first | (intro e; obtain ⟨rfl, rfl⟩ := e; exact hk (by decide)) | omega)))⟩
theorem r_body_ (hF : FS F) (hR : Rg I) {v0 : Int}  (hQ : ∀ (r : Int) (I' : pI), Rg I' → AR I' → iR r → (∀ k j, ¬ (k = 238) → I' k j = I k j) → Q (some (vi r)) F I') : CallN G (d + 1) kX12_body_ [vr 235, vi v0] NP F I Q := by
  refine CallN_in (fun hok hA => CallN_out ?_)
  have iv0 : -2147483648 ≤ v0 ∧ v0 < 2147483648 := hok (vi v0) (by simp)
  refine Call_wp (lv := [some (vr 235), some (vi v0)]) (by decide) ckX12_body_ [] rfl rfl ?_
  refine ⟨_, rfl, (by decide), ?_⟩
  have r1 : 0 ≤ (I 235 31) ∧ (I 235 31) ≤ 30 := Rg.f31 hR
  have n3 : (wr ((I 235 31) - 1)) = (I 235 31) - 1 := wr_id (show -2147483648 ≤ ((I 235 31) - 1 : Int) ∧ ((I 235 31) - 1 : Int) < 2147483648 from by omega)
  refine s_X12_within (fun (w4 : ((0 : Int) ≤ v0 ∧ (v0 : Int) ≤ (wr ((I 235 31) - 1)))) => ?_) (fun (w4 : ¬ ((0 : Int) ≤ v0 ∧ (v0 : Int) ≤ (wr ((I 235 31) - 1)))) => ?_)
  ·
    refine ⟨fun c => absurd c (show (¬ ((1 : Int) = 0)) from by decide), fun _ => ?_⟩
    refine ⟨_, rfl, (by decide), ?_⟩
    refine fun w0 hw0 => ?_; obtain rfl : w0 = some 249 := hw0.symm.trans (FS.g hF rfl)
    refine ⟨_, rfl, (by decide), (show (0 : Int) ≤ v0 from by first | with_reducible assumption | omega | (simp only [wr, wl] at *; omega)), (show v0 < (30 : Int) from by first | with_reducible assumption | omega | (simp only [wr, wl] at *; omega)), ?_⟩
    exact ⟨rfl, fun hv hA' => hQ _ _ hR hA' (hv _ rfl) (fun _ _ _ => rfl)⟩
  ·
    refine ⟨fun _ => ?_, fun c => absurd (show ((0 : Int) = 0) from by decide) c⟩
    refine ⟨⟨_, rfl, (by decide)⟩, ?_⟩
    refine s_X12_finding hF (v := (-1000002)) (by decide) ?_
    exact ⟨rfl, fun hv hA' => hQ _ _ (Rg.u hR (Pr_f rfl)) hA' (hv _ rfl) (fun ka ja hk => (uI_o (show ¬ (ka = 238 ∧ ja = 2) from by first | (intro e; obtain ⟨rfl, rfl⟩ := e; exact hk (by decide)) | omega)))⟩
end RP
