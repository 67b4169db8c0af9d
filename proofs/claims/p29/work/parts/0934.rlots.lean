/-! the reference's lots, meters, book, from any state. Own work (scripts laid by wip/pm/gen30.py). -/
section RO
variable {G : pG} {d : Nat} {F : pF} {I : pI} {Q : Option pV → pF → pI → Prop}
theorem r_adds_l (hF : FS F) (hR : Rg I) {v0 v1 : Int} (hm : I 235 27 ≤ 13) (hQ : ∀ (I' : pI), Rg I' → (∀ k j, ¬ ((k = 235 ∧ (j = 27)) ∨ k = 245 ∨ k = 246) → I' k j = I k j) → ((I' 235 27) = (I 235 27) + 1) → Q none F I') : ∀ (mz : Nat) (a : Int) (J : pI), Rg J → (∀ k j, ¬ ((k = 235 ∧ (j = 27)) ∨ k = 245 ∨ k = 246) → J k j = I k j) → ((0 : Int) ≤ a) → ((a : Int) ≤ 13) → ((J 235 27) = I 235 27) → (a).toNat < mz → GoN G d kX12_adds NP NP 5 [some (vr 235), some (vi v0), some (vi v1), some (vi a)] [] F J Q := by
  intro mz
  induction mz with
  | zero => intro a J hJ hV _ _ _ h; exact absurd h (Nat.not_lt_zero _)
  | succ mz ih =>
    intro a J hJ hV c100 c101 c102 hm
    refine GoN_in (fun hok hA => ?_)
    have iiv0 : -2147483648 ≤ v0 ∧ v0 < 2147483648 := hok 1 _ rfl
    have iiv1 : -2147483648 ≤ v1 ∧ v1 < 2147483648 := hok 2 _ rfl
    have iia : -2147483648 ≤ a ∧ a < 2147483648 := hok 3 _ rfl
    have r1 : 0 ≤ (J 235 27) ∧ (J 235 27) ≤ 14 := Rg.f27 hJ
    refine Go_wp (by decide) ckX12_adds [5] ?_
    refine ⟨fun (c3 : ((a : Int) ≤ 0)) => ?_, fun (c3 : (¬ ((a : Int) ≤ 0))) => ?_⟩
    ·
      refine ⟨_, rfl, (by decide), ?_⟩
      refine fun w0 hw0 => ?_; obtain rfl : w0 = some 245 := hw0.symm.trans (FS.g hF rfl)
      refine ⟨_, rfl, (by decide), (show (0 : Int) ≤ a from by first | with_reducible assumption | omega | (simp only [wr, wl] at *; omega)), (show a < (14 : Int) from by first | with_reducible assumption | omega | (simp only [wr, wl] at *; omega)), ?_⟩
      refine ⟨_, rfl, (by decide), ?_⟩
      refine fun w0 hw0 => ?_; obtain rfl : w0 = some 246 := hw0.symm.trans (FS.g hF rfl)
      refine ⟨_, rfl, (by decide), (show (0 : Int) ≤ a from by first | with_reducible assumption | omega | (simp only [wr, wl] at *; omega)), (show a < (14 : Int) from by first | with_reducible assumption | omega | (simp only [wr, wl] at *; omega)), ?_⟩
      refine ⟨_, rfl, (by decide), ?_⟩
      refine ⟨_, rfl, (by decide), ?_⟩
      have n4 : (wr ((J 235 27) + 1)) = (J 235 27) + 1 := wr_id (show -2147483648 ≤ ((J 235 27) + 1 : Int) ∧ ((J 235 27) + 1 : Int) < 2147483648 from by omega)
      have p5 : (0 : Int) ≤ (wr ((J 235 27) + 1)) ∧ ((wr ((J 235 27) + 1)) : Int) ≤ 14 := by first | omega | (simp only [wr, wl] at *; omega)
      have r6 : 0 ≤ (I 235 27) ∧ (I 235 27) ≤ 14 := Rg.f27 hR
      exact ⟨rfl, hQ _ (Rg.u (Rg.u (Rg.u hJ (Pr_p (k := 245) rfl _ _)) (Pr_p (k := 246) rfl _ _)) (Pr_x27 p5)) (fun ka ja hk => ((uI_o (show ¬ (ka = 235 ∧ ja = 27) from by first | (intro e; obtain ⟨rfl, rfl⟩ := e; exact hk (by decide)) | omega))).trans (((uI_o (show ¬ (ka = 246 ∧ ja = (Int.toNat a)) from by first | (intro e; obtain ⟨rfl, _⟩ := e; exact hk (by decide)) | omega))).trans (((uI_o (show ¬ (ka = 245 ∧ ja = (Int.toNat a)) from by first | (intro e; obtain ⟨rfl, _⟩ := e; exact hk (by decide)) | omega))).trans ((hV ka ja (by omega)))))) (show (wr ((J 235 27) + 1)) = (I 235 27) + 1 from by first | omega | (simp only [wr, wl] at *; omega))⟩
    ·
      refine ⟨_, rfl, (by decide), ?_⟩
      refine fun w0 hw0 => ?_; obtain rfl : w0 = some 245 := hw0.symm.trans (FS.g hF rfl)
      have n7 : (wr (a - 1)) = a - 1 := wr_id (show -2147483648 ≤ (a - 1 : Int) ∧ (a - 1 : Int) < 2147483648 from by omega)
      refine ⟨_, rfl, (by decide), (show (0 : Int) ≤ (wr (a - 1)) from by first | with_reducible assumption | omega | (simp only [wr, wl] at *; omega)), (show (wr (a - 1)) < (14 : Int) from by first | with_reducible assumption | omega | (simp only [wr, wl] at *; omega)), ?_⟩
      have a8 : -2147483648 ≤ (J 245 (Int.toNat (wr (a - 1)))) ∧ (J 245 (Int.toNat (wr (a - 1)))) < 2147483648 := hA.1 _ _
      refine ⟨fun (c9 : (((J 245 (Int.toNat (wr (a - 1)))) : Int) ≤ v0)) => ?_, fun (c9 : (¬ (((J 245 (Int.toNat (wr (a - 1)))) : Int) ≤ v0))) => ?_⟩
      ·
        refine ⟨_, rfl, (by decide), ?_⟩
        refine fun w0 hw0 => ?_; obtain rfl : w0 = some 245 := hw0.symm.trans (FS.g hF rfl)
        refine ⟨_, rfl, (by decide), (show (0 : Int) ≤ a from by first | with_reducible assumption | omega | (simp only [wr, wl] at *; omega)), (show a < (14 : Int) from by first | with_reducible assumption | omega | (simp only [wr, wl] at *; omega)), ?_⟩
        refine ⟨_, rfl, (by decide), ?_⟩
        refine fun w0 hw0 => ?_; obtain rfl : w0 = some 246 := hw0.symm.trans (FS.g hF rfl)
        refine ⟨_, rfl, (by decide), (show (0 : Int) ≤ a from by first | with_reducible assumption | omega | (simp only [wr, wl] at *; omega)), (show a < (14 : Int) from by first | with_reducible assumption | omega | (simp only [wr, wl] at *; omega)), ?_⟩
        refine ⟨_, rfl, (by decide), ?_⟩
        refine ⟨_, rfl, (by decide), ?_⟩
        have n10 : (wr ((J 235 27) + 1)) = (J 235 27) + 1 := wr_id (show -2147483648 ≤ ((J 235 27) + 1 : Int) ∧ ((J 235 27) + 1 : Int) < 2147483648 from by omega)
        have p11 : (0 : Int) ≤ (wr ((J 235 27) + 1)) ∧ ((wr ((J 235 27) + 1)) : Int) ≤ 14 := by first | omega | (simp only [wr, wl] at *; omega)
        have r12 : 0 ≤ (I 235 27) ∧ (I 235 27) ≤ 14 := Rg.f27 hR
        exact ⟨rfl, hQ _ (Rg.u (Rg.u (Rg.u hJ (Pr_p (k := 245) rfl _ _)) (Pr_p (k := 246) rfl _ _)) (Pr_x27 p11)) (fun ka ja hk => ((uI_o (show ¬ (ka = 235 ∧ ja = 27) from by first | (intro e; obtain ⟨rfl, rfl⟩ := e; exact hk (by decide)) | omega))).trans (((uI_o (show ¬ (ka = 246 ∧ ja = (Int.toNat a)) from by first | (intro e; obtain ⟨rfl, _⟩ := e; exact hk (by decide)) | omega))).trans (((uI_o (show ¬ (ka = 245 ∧ ja = (Int.toNat a)) from by first | (intro e; obtain ⟨rfl, _⟩ := e; exact hk (by decide)) | omega))).trans ((hV ka ja (by omega)))))) (show (wr ((J 235 27) + 1)) = (I 235 27) + 1 from by first | omega | (simp only [wr, wl] at *; omega))⟩
      ·
        refine ⟨_, rfl, (by decide), ?_⟩
        refine fun w0 hw0 => ?_; obtain rfl : w0 = some 245 := hw0.symm.trans (FS.g hF rfl)
        refine ⟨_, rfl, (by decide), ?_⟩
        refine fun w0 hw0 => ?_; obtain rfl : w0 = some 245 := hw0.symm.trans (FS.g hF rfl)
        refine ⟨_, rfl, (by decide), (show (0 : Int) ≤ (wr (a - 1)) from by first | with_reducible assumption | omega | (simp only [wr, wl] at *; omega)), (show (wr (a - 1)) < (14 : Int) from by first | with_reducible assumption | omega | (simp only [wr, wl] at *; omega)), ?_⟩
        refine ⟨_, rfl, (by decide), (show (0 : Int) ≤ a from by first | with_reducible assumption | omega | (simp only [wr, wl] at *; omega)), (show a < (14 : Int) from by first | with_reducible assumption | omega | (simp only [wr, wl] at *; omega)), ?_⟩
        refine ⟨_, rfl, (by decide), ?_⟩
        refine fun w0 hw0 => ?_; obtain rfl : w0 = some 246 := hw0.symm.trans (FS.g hF rfl)
        refine ⟨_, rfl, (by decide), ?_⟩
        refine fun w0 hw0 => ?_; obtain rfl : w0 = some 246 := hw0.symm.trans (FS.g hF rfl)
        refine ⟨_, rfl, (by decide), (show (0 : Int) ≤ (wr (a - 1)) from by first | with_reducible assumption | omega | (simp only [wr, wl] at *; omega)), (show (wr (a - 1)) < (14 : Int) from by first | with_reducible assumption | omega | (simp only [wr, wl] at *; omega)), ?_⟩
        refine ⟨_, rfl, (by decide), (show (0 : Int) ≤ a from by first | with_reducible assumption | omega | (simp only [wr, wl] at *; omega)), (show a < (14 : Int) from by first | with_reducible assumption | omega | (simp only [wr, wl] at *; omega)), ?_⟩
        have n13 : (wr (a + (-1))) = a + (-1) := wr_id (show -2147483648 ≤ (a + (-1) : Int) ∧ (a + (-1) : Int) < 2147483648 from by omega)
        exact ih (wr (a + (-1))) (uI (uI J 245 (Int.toNat a) (J 245 (Int.toNat (wr (a - 1))))) 246 (Int.toNat a) (J 246 (Int.toNat (wr (a - 1))))) (Rg.u (Rg.u hJ (Pr_p (k := 245) rfl _ _)) (Pr_p (k := 246) rfl _ _)) (fun ka ja hk => ((uI_o (show ¬ (ka = 246 ∧ ja = (Int.toNat a)) from by first | (intro e; obtain ⟨rfl, _⟩ := e; exact hk (by decide)) | omega))).trans (((uI_o (show ¬ (ka = 245 ∧ ja = (Int.toNat a)) from by first | (intro e; obtain ⟨rfl, _⟩ := e; exact hk (by decide)) | omega))).trans ((hV ka ja (by omega))))) (show (0 : Int) ≤ (wr (a + (-1))) from by first | with_reducible assumption | omega | (simp only [wr, wl] at *; omega)) (show ((wr (a + (-1))) : Int) ≤ 13 from by first | with_reducible assumption | omega | (simp only [wr, wl] at *; omega)) (show (J 235 27) = I 235 27 from by first | omega | (simp only [wr, wl] at *; omega)) (show ((wr (a + (-1)))).toNat < mz from by omega)
theorem r_adds (hF : FS F) (hR : Rg I) {v0 v1 : Int} (hm : I 235 27 ≤ 13) (hQ : ∀ (I' : pI), Rg I' → AR I' → (∀ k j, ¬ ((k = 235 ∧ (j = 27)) ∨ k = 245 ∨ k = 246) → I' k j = I k j) → ((I' 235 27) = (I 235 27) + 1) → Q none F I') : CallN G d kX12_adds [vr 235, vi v0, vi v1] NP F I Q := by
  refine CallN_in (fun hok hA => CallN_out ?_)
  have iv0 : -2147483648 ≤ v0 ∧ v0 < 2147483648 := hok (vi v0) (by simp)
  have iv1 : -2147483648 ≤ v1 ∧ v1 < 2147483648 := hok (vi v1) (by simp)
  refine Call_wp (lv := [some (vr 235), some (vi v0), some (vi v1), none]) (by decide) ckX12_adds [5] rfl rfl ?_
  refine ⟨_, rfl, (by decide), ?_⟩
  have r1 : 0 ≤ (I 235 27) ∧ (I 235 27) ≤ 14 := Rg.f27 hR
  refine r_adds_l hF hR hm (fun I' g1 g2 g3 hv hA' => hQ _ g1 hA' g2 g3) _ (I 235 27) I hR (fun _ _ _ => rfl) (show (0 : Int) ≤ (I 235 27) from by first | with_reducible assumption | omega | (simp only [wr, wl] at *; omega)) (show ((I 235 27) : Int) ≤ 13 from by first | with_reducible assumption | omega | (simp only [wr, wl] at *; omega)) (show (I 235 27) = I 235 27 from by first | omega | (simp only [wr, wl] at *; omega)) (Nat.lt_succ_self _)
theorem r_fn_l (hF : FS F) (hR : Rg I) {v0 v1 : Int}  (hQ : ∀ (I' : pI), Rg I' → (∀ k j, ¬ ((k = 235 ∧ (j = 22 ∨ j = 23 ∨ j = 24 ∨ j = 27)) ∨ k = 245 ∨ k = 246) → I' k j = I k j) → Q none F I') : ∀ (mz : Nat) (p : Int) (J : pI), Rg J → (∀ k j, ¬ ((k = 235 ∧ (j = 22 ∨ j = 23 ∨ j = 24 ∨ j = 27)) ∨ k = 245 ∨ k = 246) → J k j = I k j) → ((0 : Int) ≤ p) → ((p : Int) ≤ 14) → ((J 235 27) ≤ p) → (14 - p).toNat < mz → GoN G (d + 7) kX12_findNumbers NP NP 7 [some (vr 235), some (vi v0), some (vi v1), some (vi p), none] [] F J Q := by
  intro mz
  induction mz with
  | zero => intro p J hJ hV _ _ _ h; exact absurd h (Nat.not_lt_zero _)
  | succ mz ih =>
    intro p J hJ hV c100 c101 c102 hm
    refine GoN_in (fun hok hA => ?_)
    have iiv0 : -2147483648 ≤ v0 ∧ v0 < 2147483648 := hok 1 _ rfl
    have iiv1 : -2147483648 ≤ v1 ∧ v1 < 2147483648 := hok 2 _ rfl
    have iip : -2147483648 ≤ p ∧ p < 2147483648 := hok 3 _ rfl
    have r1 : 0 ≤ (J 235 27) ∧ (J 235 27) ≤ 14 := Rg.f27 hJ
    refine Go_wp (by decide) ckX12_findNumbers [7] ?_
    refine ⟨_, rfl, (by decide), ?_⟩
    refine fun w0 hw0 => ?_; obtain rfl : w0 = some 236 := hw0.symm.trans (FS.g hF rfl)
    refine ⟨_, rfl, (by decide), (by decide), (by decide), ?_⟩
    have r3 : 0 ≤ (I 236 0) ∧ (I 236 0) ≤ 14 := Rg.n0 hR
    have u4 : (J 236 0) = (I 236 0) := hV _ _ (by first | decide | omega)
    have a5 : -2147483648 ≤ (J 236 0) ∧ (J 236 0) < 2147483648 := hA.1 _ _
    have r6 : 0 ≤ (J 236 0) ∧ (J 236 0) ≤ 14 := Rg.n0 hJ
    refine ⟨fun (c7 : (((J 236 0) : Int) ≤ p)) => ?_, fun (c7 : (¬ (((J 236 0) : Int) ≤ p))) => ?_⟩
    ·
      exact ⟨rfl, hQ _ hJ (fun ka ja hk => (hV ka ja (by omega)))⟩
    ·
      refine ⟨⟨_, rfl, (by decide)⟩, ?_⟩
      refine r_of (p := p) (f := 1) hF (j := (Int.toNat (305 + 66 * p))) (by omega) (by omega) (by omega) (fun w8 hw9 => ?_)
      have u10 : (J 236 (Int.toNat (305 + 66 * p))) = (I 236 (Int.toNat (305 + 66 * p))) := hV _ _ (by first | decide | omega)
      have a11 : -2147483648 ≤ (J 236 (Int.toNat (305 + 66 * p))) ∧ (J 236 (Int.toNat (305 + 66 * p))) < 2147483648 := hA.1 _ _
      have hw9 : w8 = (J 236 (Int.toNat (305 + 66 * p))) := hw9
      refine ⟨fun (c13 : (¬ (w8 : Int) = v0)) => ?_, fun (c13 : ((w8 : Int) = v0)) => ?_⟩
      ·
        refine ⟨fun _ => ?_, fun c => absurd (show (((-1) : Int) < 0) from by decide) c⟩
        refine GoN_lv (lv' := [some (vr 235), some (vi v0), some (vi v1), some (vi (wr (p + 1))), none]) (LvLe.k (LvLe.k (LvLe.k (LvLe.k (LvLe.d LvLe.n))))) ?_
        have n14 : (wr (p + 1)) = p + 1 := wr_id (show -2147483648 ≤ (p + 1 : Int) ∧ (p + 1 : Int) < 2147483648 from by omega)
        exact ih (wr (p + 1)) J hJ (fun ka ja hk => (hV ka ja (by omega))) (show (0 : Int) ≤ (wr (p + 1)) from by first | with_reducible assumption | omega | (simp only [wr, wl] at *; omega)) (show ((wr (p + 1)) : Int) ≤ 14 from by first | with_reducible assumption | omega | (simp only [wr, wl] at *; omega)) (show (J 235 27) ≤ (wr (p + 1)) from by first | with_reducible assumption | omega | (simp only [wr, wl] at *; omega)) (show (14 - (wr (p + 1))).toNat < mz from by omega)
      ·
        refine ⟨⟨_, rfl, (by decide)⟩, ?_⟩
        refine r_numberOf (v0 := p) (v1 := v1) hF hJ (by omega) (fun vr15 I16 hR17 hA18 hr20 hW19 => ?_)
        have hr20 : -2147483648 ≤ vr15 ∧ vr15 < 2147483648 := hr20
        refine ⟨fun (c21 : ((vr15 : Int) < 0)) => ?_, fun (c21 : (¬ ((vr15 : Int) < 0))) => ?_⟩
        ·
          refine GoN_lv (lv' := [some (vr 235), some (vi v0), some (vi v1), some (vi (wr (p + 1))), none]) (LvLe.k (LvLe.k (LvLe.k (LvLe.k (LvLe.d LvLe.n))))) ?_
          have n22 : (wr (p + 1)) = p + 1 := wr_id (show -2147483648 ≤ (p + 1 : Int) ∧ (p + 1 : Int) < 2147483648 from by omega)
          have u23 : (I16 235 27) = (J 235 27) := hW19 _ _ (by first | decide | omega)
          have a24 : -2147483648 ≤ (I16 235 27) ∧ (I16 235 27) < 2147483648 := hA18.1 _ _
          have r25 : 0 ≤ (I16 235 27) ∧ (I16 235 27) ≤ 14 := Rg.f27 hR17
          exact ih (wr (p + 1)) I16 hR17 (fun ka ja hk => ((hW19 ka ja (by omega))).trans ((hV ka ja (by omega)))) (show (0 : Int) ≤ (wr (p + 1)) from by first | with_reducible assumption | omega | (simp only [wr, wl] at *; omega)) (show ((wr (p + 1)) : Int) ≤ 14 from by first | with_reducible assumption | omega | (simp only [wr, wl] at *; omega)) (show (I16 235 27) ≤ (wr (p + 1)) from by first | with_reducible assumption | omega | (simp only [wr, wl] at *; omega)) (show (14 - (wr (p + 1))).toNat < mz from by omega)
        ·
          refine ⟨⟨_, rfl, (by decide)⟩, ?_⟩
          have u26 : (I16 235 27) = (J 235 27) := hW19 _ _ (by first | decide | omega)
          have a27 : -2147483648 ≤ (I16 235 27) ∧ (I16 235 27) < 2147483648 := hA18.1 _ _
          have r28 : 0 ≤ (I16 235 27) ∧ (I16 235 27) ≤ 14 := Rg.f27 hR17
          refine r_adds (v0 := vr15) (v1 := p) hF hR17 (show (I16 235 27) ≤ 13 from by first | with_reducible assumption | omega | (simp only [wr, wl] at *; omega)) (fun I29 hR30 hA31 hW32 q33 => ?_)
          have q33 : (I29 235 27) = (I16 235 27) + 1 := q33
          refine GoN_lv (lv' := [some (vr 235), some (vi v0), some (vi v1), some (vi (wr (p + 1))), none]) (LvLe.k (LvLe.k (LvLe.k (LvLe.k (LvLe.d LvLe.n))))) ?_
          have n34 : (wr (p + 1)) = p + 1 := wr_id (show -2147483648 ≤ (p + 1 : Int) ∧ (p + 1 : Int) < 2147483648 from by omega)
          have r35 : 0 ≤ (I29 235 27) ∧ (I29 235 27) ≤ 14 := Rg.f27 hR30
          exact ih (wr (p + 1)) I29 hR30 (fun ka ja hk => ((hW32 ka ja (by omega))).trans (((hW19 ka ja (by omega))).trans ((hV ka ja (by omega))))) (show (0 : Int) ≤ (wr (p + 1)) from by first | with_reducible assumption | omega | (simp only [wr, wl] at *; omega)) (show ((wr (p + 1)) : Int) ≤ 14 from by first | with_reducible assumption | omega | (simp only [wr, wl] at *; omega)) (show (I29 235 27) ≤ (wr (p + 1)) from by first | with_reducible assumption | omega | (simp only [wr, wl] at *; omega)) (show (14 - (wr (p + 1))).toNat < mz from by omega)
theorem r_fn (hF : FS F) (hR : Rg I) {v0 v1 : Int}  (hQ : ∀ (I' : pI), Rg I' → AR I' → (∀ k j, ¬ ((k = 235 ∧ (j = 22 ∨ j = 23 ∨ j = 24 ∨ j = 27)) ∨ k = 245 ∨ k = 246) → I' k j = I k j) → Q none F I') : CallN G (d + 7) kX12_findNumbers [vr 235, vi v0, vi v1] NP F I Q := by
  refine CallN_in (fun hok hA => CallN_out ?_)
  have iv0 : -2147483648 ≤ v0 ∧ v0 < 2147483648 := hok (vi v0) (by simp)
  have iv1 : -2147483648 ≤ v1 ∧ v1 < 2147483648 := hok (vi v1) (by simp)
  refine Call_wp (lv := [some (vr 235), some (vi v0), some (vi v1), none, none]) (by decide) ckX12_findNumbers [7] rfl rfl ?_
  refine ⟨_, rfl, (by decide), ?_⟩
  have p1 : (0 : Int) ≤ 0 ∧ (0 : Int) ≤ 14 := by decide
  refine r_fn_l hF hR  (fun I' g1 g2 hv hA' => hQ _ g1 hA' g2) _ 0 (uI I 235 27 0) (Rg.u hR (Pr_x27 p1)) (fun ka ja hk => (uI_o (show ¬ (ka = 235 ∧ ja = 27) from by first | (intro e; obtain ⟨rfl, rfl⟩ := e; exact hk (by decide)) | omega))) (show (0 : Int) ≤ (0 : Int) from Int.le_refl _) (show ((0 : Int) : Int) ≤ 14 from by first | with_reducible assumption | omega | (simp only [wr, wl] at *; omega)) (show (0 : Int) ≤ (0 : Int) from Int.le_refl _) (Nat.lt_succ_self _)
theorem r_curveOf_l (hF : FS F) (hR : Rg I) {v0 v1 : Int} (hp : 0 ≤ v0 ∧ v0 ≤ 13) (hQ : ∀ (r : Int) , Q (some (vi r)) F I) : ∀ (mz : Nat) (la i : Int) , (((-1) : Int) ≤ la) → ((la : Int) ≤ 23) → ((0 : Int) ≤ i) → (24 - i).toNat < mz → GoN G (d + 3) kX12_curveOf NP NP 5 [some (vr 235), some (vi v0), some (vi v1), some (vi la), some (vi i), none, none, none] [] F I Q := by
  intro mz
  induction mz with
  | zero => intro la i _ _ _ h; exact absurd h (Nat.not_lt_zero _)
  | succ mz ih =>
    intro la i c100 c101 c102 hm
    refine GoN_in (fun hok hA => ?_)
    have iiv0 : -2147483648 ≤ v0 ∧ v0 < 2147483648 := hok 1 _ rfl
    have iiv1 : -2147483648 ≤ v1 ∧ v1 < 2147483648 := hok 2 _ rfl
    have iila : -2147483648 ≤ la ∧ la < 2147483648 := hok 3 _ rfl
    have iii : -2147483648 ≤ i ∧ i < 2147483648 := hok 4 _ rfl
    refine Go_wp (by decide) ckX12_curveOf [5] ?_
    refine ⟨⟨_, rfl, (by decide)⟩, ?_⟩
    refine Call_wp (lv := [some (vr 235), some (vi v0)]) (by decide) ckX12_many [] rfl rfl ?_
    refine ⟨⟨_, rfl, (by decide)⟩, ?_⟩
    refine r_of (p := v0) (f := 4) hF (j := (Int.toNat (308 + 66 * v0))) (by omega) (by omega) (by omega) (fun w1 hw2 => ?_)
    have r3 : 0 ≤ (I 236 (Int.toNat (308 + 66 * v0))) ∧ (I 236 (Int.toNat (308 + 66 * v0))) ≤ 24 := Pn_p4 (p := (Int.toNat v0)) (by omega) (by omega) (hR.n (Int.toNat (308 + 66 * v0)) (by omega))
    have hw2 : w1 = (I 236 (Int.toNat (308 + 66 * v0))) := hw2
    refine ⟨rfl, ?_⟩
    refine ⟨fun (c5 : ((w1 : Int) ≤ i)) => ?_, fun (c5 : (¬ ((w1 : Int) ≤ i))) => ?_⟩
    ·
      exact ⟨rfl, hQ _⟩
    ·
      refine ⟨⟨_, rfl, (by decide)⟩, ?_⟩
      refine Call_wp (lv := [some (vr 235), some (vi v0), some (vi i)]) (by decide) ckX12_isGood [] rfl rfl ?_
      refine ⟨⟨_, rfl, (by decide)⟩, ?_⟩
      refine Call_wp (lv := [some (vr 235), some (vi v0), some (vi i)]) (by decide) ckX12_load [] rfl rfl ?_
      refine ⟨⟨_, rfl, (by decide)⟩, ?_⟩
      have n6 : (wr (2 * i)) = 2 * i := wr_id (show -2147483648 ≤ (2 * i : Int) ∧ (2 * i : Int) < 2147483648 from by omega)
      have n7 : (wr (17 + (wr (2 * i)))) = 17 + (wr (2 * i)) := wr_id (show -2147483648 ≤ (17 + (wr (2 * i)) : Int) ∧ (17 + (wr (2 * i)) : Int) < 2147483648 from by omega)
      have n8 : (wr ((wr (17 + (wr (2 * i)))) + 1)) = (wr (17 + (wr (2 * i)))) + 1 := wr_id (show -2147483648 ≤ ((wr (17 + (wr (2 * i)))) + 1 : Int) ∧ ((wr (17 + (wr (2 * i)))) + 1 : Int) < 2147483648 from by omega)
      refine r_of (p := v0) (f := (wr ((wr (17 + (wr (2 * i)))) + 1))) hF (j := (Int.toNat (322 + 2 * i + 66 * v0))) (by omega) (by omega) (by omega) (fun w9 hw10 => ?_)
      have hw10 : w9 = (I 236 (Int.toNat (322 + 2 * i + 66 * v0))) := hw10
      refine ⟨rfl, ?_⟩
      have a11 : -2147483648 ≤ (I 236 (Int.toNat (322 + 2 * i + 66 * v0))) ∧ (I 236 (Int.toNat (322 + 2 * i + 66 * v0))) < 2147483648 := hA.1 _ _
      refine ⟨fun (c12 : ((w9 : Int) < 0)) => ?_, fun (c12 : (¬ ((w9 : Int) < 0))) => ?_⟩
      ·
        refine ⟨rfl, (by decide), ?_⟩
        refine ⟨fun _ => ?_, fun c => absurd (show ((0 : Int) = 0) from by decide) c⟩
        have n13 : (wr (i + 1)) = i + 1 := wr_id (show -2147483648 ≤ (i + 1 : Int) ∧ (i + 1 : Int) < 2147483648 from by omega)
        exact ih la (wr (i + 1))  (show ((-1) : Int) ≤ la from by first | with_reducible assumption | omega | (simp only [wr, wl] at *; omega)) (show (la : Int) ≤ 23 from by first | with_reducible assumption | omega | (simp only [wr, wl] at *; omega)) (show (0 : Int) ≤ (wr (i + 1)) from by first | with_reducible assumption | omega | (simp only [wr, wl] at *; omega)) (show (24 - (wr (i + 1))).toNat < mz from by omega)
      ·
        refine ⟨rfl, (by decide), ?_⟩
        refine ⟨fun c => absurd c (show (¬ ((1 : Int) = 0)) from by decide), fun _ => ?_⟩
        refine ⟨fun (c14 : ((la : Int) < 0)) => ?_, fun (c14 : (¬ ((la : Int) < 0))) => ?_⟩
        ·
          have n15 : (wr (i + 1)) = i + 1 := wr_id (show -2147483648 ≤ (i + 1 : Int) ∧ (i + 1 : Int) < 2147483648 from by omega)
          exact ih i (wr (i + 1))  (show ((-1) : Int) ≤ i from by first | with_reducible assumption | omega | (simp only [wr, wl] at *; omega)) (show (i : Int) ≤ 23 from by first | with_reducible assumption | omega | (simp only [wr, wl] at *; omega)) (show (0 : Int) ≤ (wr (i + 1)) from by first | with_reducible assumption | omega | (simp only [wr, wl] at *; omega)) (show (24 - (wr (i + 1))).toNat < mz from by omega)
        ·
          refine ⟨⟨_, rfl, (by decide)⟩, ?_⟩
          refine Call_wp (lv := [some (vr 235), some (vi v0), some (vi la)]) (by decide) ckX12_stretch [] rfl rfl ?_
          refine ⟨⟨_, rfl, (by decide)⟩, ?_⟩
          have n16 : (wr (2 * la)) = 2 * la := wr_id (show -2147483648 ≤ (2 * la : Int) ∧ (2 * la : Int) < 2147483648 from by omega)
          have n17 : (wr (17 + (wr (2 * la)))) = 17 + (wr (2 * la)) := wr_id (show -2147483648 ≤ (17 + (wr (2 * la)) : Int) ∧ (17 + (wr (2 * la)) : Int) < 2147483648 from by omega)
          refine r_of (p := v0) (f := (wr (17 + (wr (2 * la))))) hF (j := (Int.toNat (321 + 2 * la + 66 * v0))) (by omega) (by omega) (by omega) (fun w18 hw19 => ?_)
          have hw19 : w18 = (I 236 (Int.toNat (321 + 2 * la + 66 * v0))) := hw19
          refine ⟨rfl, ?_⟩
          have a20 : -2147483648 ≤ (I 236 (Int.toNat (321 + 2 * la + 66 * v0))) ∧ (I 236 (Int.toNat (321 + 2 * la + 66 * v0))) < 2147483648 := hA.1 _ _
          refine ⟨fun (c21 : ((v1 : Int) < w18)) => ?_, fun (c21 : (¬ ((v1 : Int) < w18))) => ?_⟩
          ·
            have n22 : (wr (i + 1)) = i + 1 := wr_id (show -2147483648 ≤ (i + 1 : Int) ∧ (i + 1 : Int) < 2147483648 from by omega)
            exact ih i (wr (i + 1))  (show ((-1) : Int) ≤ i from by first | with_reducible assumption | omega | (simp only [wr, wl] at *; omega)) (show (i : Int) ≤ 23 from by first | with_reducible assumption | omega | (simp only [wr, wl] at *; omega)) (show (0 : Int) ≤ (wr (i + 1)) from by first | with_reducible assumption | omega | (simp only [wr, wl] at *; omega)) (show (24 - (wr (i + 1))).toNat < mz from by omega)
          ·
            refine ⟨⟨_, rfl, (by decide)⟩, ?_⟩
            refine Call_wp (lv := [some (vr 235), some (vi v0), some (vi i)]) (by decide) ckX12_stretch [] rfl rfl ?_
            refine ⟨⟨_, rfl, (by decide)⟩, ?_⟩
            refine r_of (p := v0) (f := (wr (17 + (wr (2 * i))))) hF (j := (Int.toNat (321 + 2 * i + 66 * v0))) (by omega) (by omega) (by omega) (fun w23 hw24 => ?_)
            have hw24 : w23 = (I 236 (Int.toNat (321 + 2 * i + 66 * v0))) := hw24
            refine ⟨rfl, ?_⟩
            have a25 : -2147483648 ≤ (I 236 (Int.toNat (321 + 2 * i + 66 * v0))) ∧ (I 236 (Int.toNat (321 + 2 * i + 66 * v0))) < 2147483648 := hA.1 _ _
            refine ⟨fun (c26 : ((w23 : Int) < v1)) => ?_, fun (c26 : (¬ ((w23 : Int) < v1))) => ?_⟩
            ·
              have n27 : (wr (i + 1)) = i + 1 := wr_id (show -2147483648 ≤ (i + 1 : Int) ∧ (i + 1 : Int) < 2147483648 from by omega)
              exact ih i (wr (i + 1))  (show ((-1) : Int) ≤ i from by first | with_reducible assumption | omega | (simp only [wr, wl] at *; omega)) (show (i : Int) ≤ 23 from by first | with_reducible assumption | omega | (simp only [wr, wl] at *; omega)) (show (0 : Int) ≤ (wr (i + 1)) from by first | with_reducible assumption | omega | (simp only [wr, wl] at *; omega)) (show (24 - (wr (i + 1))).toNat < mz from by omega)
            ·
              refine ⟨⟨_, rfl, (by decide)⟩, ?_⟩
              refine Call_wp (lv := [some (vr 235), some (vi v0), some (vi i)]) (by decide) ckX12_stretch [] rfl rfl ?_
              refine ⟨⟨_, rfl, (by decide)⟩, ?_⟩
              refine r_of (p := v0) (f := (wr (17 + (wr (2 * i))))) hF (j := (Int.toNat (321 + 2 * i + 66 * v0))) (by omega) (by omega) (by omega) (fun w28 hw29 => ?_)
              have hw29 : w28 = (I 236 (Int.toNat (321 + 2 * i + 66 * v0))) := hw29
              obtain rfl : w23 = w28 := hw24.trans hw29.symm
              refine ⟨rfl, ?_⟩
              refine ⟨⟨_, rfl, (by decide)⟩, ?_⟩
              refine Call_wp (lv := [some (vr 235), some (vi v0), some (vi la)]) (by decide) ckX12_stretch [] rfl rfl ?_
              refine ⟨⟨_, rfl, (by decide)⟩, ?_⟩
              refine r_of (p := v0) (f := (wr (17 + (wr (2 * la))))) hF (j := (Int.toNat (321 + 2 * la + 66 * v0))) (by omega) (by omega) (by omega) (fun w30 hw31 => ?_)
              have hw31 : w30 = (I 236 (Int.toNat (321 + 2 * la + 66 * v0))) := hw31
              obtain rfl : w18 = w30 := hw19.trans hw31.symm
              refine ⟨rfl, ?_⟩
              have n32 : -2147483648 ≤ (wr (w23 - w18)) ∧ (wr (w23 - w18)) < 2147483648 := wr_R _
              refine ⟨fun (c33 : (¬ ((wr (w23 - w18)) : Int) = 0)) => ?_, fun (c33 : (((wr (w23 - w18)) : Int) = 0)) => ?_⟩
              ·
                refine ⟨⟨_, rfl, (by decide)⟩, ?_⟩
                refine Call_wp (lv := [some (vr 235), some (vi v0), some (vi i)]) (by decide) ckX12_load [] rfl rfl ?_
                refine ⟨⟨_, rfl, (by decide)⟩, ?_⟩
                refine r_of (p := v0) (f := (wr ((wr (17 + (wr (2 * i)))) + 1))) hF (j := (Int.toNat (322 + 2 * i + 66 * v0))) (by omega) (by omega) (by omega) (fun w34 hw35 => ?_)
                have hw35 : w34 = (I 236 (Int.toNat (322 + 2 * i + 66 * v0))) := hw35
                obtain rfl : w9 = w34 := hw10.trans hw35.symm
                refine ⟨rfl, ?_⟩
                refine ⟨⟨_, rfl, (by decide)⟩, ?_⟩
                refine Call_wp (lv := [some (vr 235), some (vi v0), some (vi la)]) (by decide) ckX12_load [] rfl rfl ?_
                refine ⟨⟨_, rfl, (by decide)⟩, ?_⟩
                have n36 : (wr ((wr (17 + (wr (2 * la)))) + 1)) = (wr (17 + (wr (2 * la)))) + 1 := wr_id (show -2147483648 ≤ ((wr (17 + (wr (2 * la)))) + 1 : Int) ∧ ((wr (17 + (wr (2 * la)))) + 1 : Int) < 2147483648 from by omega)
                refine r_of (p := v0) (f := (wr ((wr (17 + (wr (2 * la)))) + 1))) hF (j := (Int.toNat (322 + 2 * la + 66 * v0))) (by omega) (by omega) (by omega) (fun w37 hw38 => ?_)
                have hw38 : w37 = (I 236 (Int.toNat (322 + 2 * la + 66 * v0))) := hw38
                refine ⟨rfl, ?_⟩
                refine ⟨⟨_, rfl, (by decide)⟩, ?_⟩
                refine Call_wp (lv := [some (vr 235), some (vi v0), some (vi la)]) (by decide) ckX12_stretch [] rfl rfl ?_
                refine ⟨⟨_, rfl, (by decide)⟩, ?_⟩
                refine r_of (p := v0) (f := (wr (17 + (wr (2 * la))))) hF (j := (Int.toNat (321 + 2 * la + 66 * v0))) (by omega) (by omega) (by omega) (fun w39 hw40 => ?_)
                have hw40 : w39 = (I 236 (Int.toNat (321 + 2 * la + 66 * v0))) := hw40
                obtain rfl : w18 = w39 := hw19.trans hw40.symm
                refine ⟨rfl, ?_⟩
                refine ⟨(show ¬ ((wr (w23 - w18)) : Int) = 0 from by first | omega | (simp only [wr, wl] at *; omega)), ?_⟩
                refine ⟨⟨_, rfl, (by decide)⟩, ?_⟩
                refine Call_wp (lv := [some (vr 235), some (vi v0), some (vi la)]) (by decide) ckX12_load [] rfl rfl ?_
                refine ⟨⟨_, rfl, (by decide)⟩, ?_⟩
                refine r_of (p := v0) (f := (wr ((wr (17 + (wr (2 * la)))) + 1))) hF (j := (Int.toNat (322 + 2 * la + 66 * v0))) (by omega) (by omega) (by omega) (fun w41 hw42 => ?_)
                have hw42 : w41 = (I 236 (Int.toNat (322 + 2 * la + 66 * v0))) := hw42
                obtain rfl : w37 = w41 := hw38.trans hw42.symm
                refine ⟨rfl, ?_⟩
                exact ⟨rfl, hQ _⟩
              ·
                refine ⟨⟨_, rfl, (by decide)⟩, ?_⟩
                refine Call_wp (lv := [some (vr 235), some (vi v0), some (vi la)]) (by decide) ckX12_load [] rfl rfl ?_
                refine ⟨⟨_, rfl, (by decide)⟩, ?_⟩
                have n43 : (wr ((wr (17 + (wr (2 * la)))) + 1)) = (wr (17 + (wr (2 * la)))) + 1 := wr_id (show -2147483648 ≤ ((wr (17 + (wr (2 * la)))) + 1 : Int) ∧ ((wr (17 + (wr (2 * la)))) + 1 : Int) < 2147483648 from by omega)
                refine r_of (p := v0) (f := (wr ((wr (17 + (wr (2 * la)))) + 1))) hF (j := (Int.toNat (322 + 2 * la + 66 * v0))) (by omega) (by omega) (by omega) (fun w44 hw45 => ?_)
                have hw45 : w44 = (I 236 (Int.toNat (322 + 2 * la + 66 * v0))) := hw45
                refine ⟨rfl, ?_⟩
                exact ⟨rfl, hQ _⟩
theorem r_curveOf (hF : FS F) (hR : Rg I) {v0 v1 : Int} (hp : 0 ≤ v0 ∧ v0 ≤ 13) (hQ : ∀ r : Int, iR r → Q (some (vi r)) F I) : CallN G (d + 3) kX12_curveOf [vr 235, vi v0, vi v1] NP F I Q := by
  refine CallN_in (fun hok hA => CallN_out ?_)
  have iv0 : -2147483648 ≤ v0 ∧ v0 < 2147483648 := hok (vi v0) (by simp)
  have iv1 : -2147483648 ≤ v1 ∧ v1 < 2147483648 := hok (vi v1) (by simp)
  refine Call_wp (lv := [some (vr 235), some (vi v0), some (vi v1), none, none, none, none, none]) (by decide) ckX12_curveOf [5] rfl rfl ?_
  refine r_curveOf_l hF hR (by omega) (fun r hv hA' => hQ _ (hv _ rfl)) _ (-1) 0  (show ((-1) : Int) ≤ ((-1) : Int) from Int.le_refl _) (show (((-1) : Int) : Int) ≤ 23 from by first | with_reducible assumption | omega | (simp only [wr, wl] at *; omega)) (show (0 : Int) ≤ (0 : Int) from Int.le_refl _) (Nat.lt_succ_self _)
theorem r_curve_l (hF : FS F) (hR : Rg I) {v0 v1 v2 : Int}  (hQ : ∀ (r : Int) (I' : pI), Rg I' → (∀ k j, ¬ (k = 238 ∨ (k = 235 ∧ (j = 27)) ∨ k = 245 ∨ k = 246) → I' k j = I k j) → Q (some (vi r)) F I') : ∀ (mz : Nat) (p : Int) (J : pI), Rg J → (∀ k j, ¬ (k = 238 ∨ (k = 235 ∧ (j = 27)) ∨ k = 245 ∨ k = 246) → J k j = I k j) → ((0 : Int) ≤ p) → ((p : Int) ≤ 14) → ((J 235 27) ≤ p) → (14 - p).toNat < mz → GoN G (d + 4) kX12_curve NP NP 42 [some (vr 235), some (vi v0), some (vi v1), some (vi v2), some (vi p), none] [] F J Q := by
  intro mz
  induction mz with
  | zero => intro p J hJ hV _ _ _ h; exact absurd h (Nat.not_lt_zero _)
  | succ mz ih =>
    intro p J hJ hV c100 c101 c102 hm
    refine GoN_in (fun hok hA => ?_)
    have iiv0 : -2147483648 ≤ v0 ∧ v0 < 2147483648 := hok 1 _ rfl
    have iiv1 : -2147483648 ≤ v1 ∧ v1 < 2147483648 := hok 2 _ rfl
    have iiv2 : -2147483648 ≤ v2 ∧ v2 < 2147483648 := hok 3 _ rfl
    have iip : -2147483648 ≤ p ∧ p < 2147483648 := hok 4 _ rfl
    have r1 : 0 ≤ (J 235 27) ∧ (J 235 27) ≤ 14 := Rg.f27 hJ
    refine Go_wp (by decide) ckX12_curve [42] ?_
    refine ⟨_, rfl, (by decide), ?_⟩
    refine fun w0 hw0 => ?_; obtain rfl : w0 = some 236 := hw0.symm.trans (FS.g hF rfl)
    refine ⟨_, rfl, (by decide), (by decide), (by decide), ?_⟩
    have r3 : 0 ≤ (I 236 0) ∧ (I 236 0) ≤ 14 := Rg.n0 hR
    have u4 : (J 236 0) = (I 236 0) := hV _ _ (by first | decide | omega)
    have a5 : -2147483648 ≤ (J 236 0) ∧ (J 236 0) < 2147483648 := hA.1 _ _
    have r6 : 0 ≤ (J 236 0) ∧ (J 236 0) ≤ 14 := Rg.n0 hJ
    refine ⟨fun (c7 : (((J 236 0) : Int) ≤ p)) => ?_, fun (c7 : (¬ (((J 236 0) : Int) ≤ p))) => ?_⟩
    ·
      refine ⟨fun (c8 : (¬ (v2 : Int) = 3)) => ?_, fun (c8 : ((v2 : Int) = 3)) => ?_⟩
      ·
        refine ⟨_, rfl, (by decide), ?_⟩
        refine ⟨fun (c9 : (¬ ((J 235 27) : Int) = 0)) => ?_, fun (c9 : (((J 235 27) : Int) = 0)) => ?_⟩
        ·
          refine ⟨_, rfl, (by decide), ?_⟩
          refine fun w0 hw0 => ?_; obtain rfl : w0 = some 245 := hw0.symm.trans (FS.g hF rfl)
          refine ⟨fun (c10 : (¬ (v2 : Int) = 0)) => ?_, fun (c10 : ((v2 : Int) = 0)) => ?_⟩
          ·
            refine ⟨fun (c11 : (¬ (v2 : Int) = 1)) => ?_, fun (c11 : ((v2 : Int) = 1)) => ?_⟩
            ·
              refine ⟨_, rfl, (by decide), ?_⟩
              have n12 : (wr ((J 235 27) - 1)) = (J 235 27) - 1 := wr_id (show -2147483648 ≤ ((J 235 27) - 1 : Int) ∧ ((J 235 27) - 1 : Int) < 2147483648 from by omega)
              refine ⟨_, rfl, (by decide), (show (0 : Int) ≤ (wr ((J 235 27) - 1)) from by first | with_reducible assumption | omega | (simp only [wr, wl] at *; omega)), (show (wr ((J 235 27) - 1)) < (14 : Int) from by first | with_reducible assumption | omega | (simp only [wr, wl] at *; omega)), ?_⟩
              exact ⟨rfl, hQ _ _ hJ (fun ka ja hk => (hV ka ja (by omega)))⟩
            ·
              refine ⟨_, rfl, (by decide), ?_⟩
              refine ⟨(by decide), ?_⟩
              have n13 : (wr ((J 235 27) - 1)) = (J 235 27) - 1 := wr_id (show -2147483648 ≤ ((J 235 27) - 1 : Int) ∧ ((J 235 27) - 1 : Int) < 2147483648 from by omega)
              have n14 : (Int.tdiv (wr ((J 235 27) - 1)) 2) = ((wr ((J 235 27) - 1)) : Int) / 2 := Int.tdiv_eq_ediv_of_nonneg (by omega)
              have n15 : (wr (Int.tdiv (wr ((J 235 27) - 1)) 2)) = (Int.tdiv (wr ((J 235 27) - 1)) 2) := wr_id (show -2147483648 ≤ ((Int.tdiv (wr ((J 235 27) - 1)) 2) : Int) ∧ ((Int.tdiv (wr ((J 235 27) - 1)) 2) : Int) < 2147483648 from by omega)
              refine ⟨_, rfl, (by decide), (show (0 : Int) ≤ (wr (Int.tdiv (wr ((J 235 27) - 1)) 2)) from by first | with_reducible assumption | omega | (simp only [wr, wl] at *; omega)), (show (wr (Int.tdiv (wr ((J 235 27) - 1)) 2)) < (14 : Int) from by first | with_reducible assumption | omega | (simp only [wr, wl] at *; omega)), ?_⟩
              exact ⟨rfl, hQ _ _ hJ (fun ka ja hk => (hV ka ja (by omega)))⟩
          ·
            refine ⟨_, rfl, (by decide), (by decide), (by decide), ?_⟩
            exact ⟨rfl, hQ _ _ hJ (fun ka ja hk => (hV ka ja (by omega)))⟩
        ·
          refine ⟨⟨_, rfl, (by decide)⟩, ?_⟩
          refine s_X12_finding hF (v := (-1000002)) (by decide) ?_
          exact ⟨rfl, hQ _ _ (Rg.u hJ (Pr_f rfl)) (fun ka ja hk => ((uI_o (show ¬ (ka = 238 ∧ ja = 2) from by first | (intro e; obtain ⟨rfl, rfl⟩ := e; exact hk (by decide)) | omega))).trans ((hV ka ja (by omega))))⟩
      ·
        refine ⟨_, rfl, (by decide), ?_⟩
        exact ⟨rfl, hQ _ _ hJ (fun ka ja hk => (hV ka ja (by omega)))⟩
    ·
      refine ⟨⟨_, rfl, (by decide)⟩, ?_⟩
      refine r_of (p := p) (f := 1) hF (j := (Int.toNat (305 + 66 * p))) (by omega) (by omega) (by omega) (fun w16 hw17 => ?_)
      have u18 : (J 236 (Int.toNat (305 + 66 * p))) = (I 236 (Int.toNat (305 + 66 * p))) := hV _ _ (by first | decide | omega)
      have a19 : -2147483648 ≤ (J 236 (Int.toNat (305 + 66 * p))) ∧ (J 236 (Int.toNat (305 + 66 * p))) < 2147483648 := hA.1 _ _
      have hw17 : w16 = (J 236 (Int.toNat (305 + 66 * p))) := hw17
      refine ⟨fun (c21 : (¬ (w16 : Int) = v0)) => ?_, fun (c21 : ((w16 : Int) = v0)) => ?_⟩
      ·
        refine ⟨fun _ => ?_, fun c => absurd (show (((-1) : Int) < 0) from by decide) c⟩
        refine GoN_lv (lv' := [some (vr 235), some (vi v0), some (vi v1), some (vi v2), some (vi (wr (p + 1))), none]) (LvLe.k (LvLe.k (LvLe.k (LvLe.k (LvLe.k (LvLe.d LvLe.n)))))) ?_
        have n22 : (wr (p + 1)) = p + 1 := wr_id (show -2147483648 ≤ (p + 1 : Int) ∧ (p + 1 : Int) < 2147483648 from by omega)
        exact ih (wr (p + 1)) J hJ (fun ka ja hk => (hV ka ja (by omega))) (show (0 : Int) ≤ (wr (p + 1)) from by first | with_reducible assumption | omega | (simp only [wr, wl] at *; omega)) (show ((wr (p + 1)) : Int) ≤ 14 from by first | with_reducible assumption | omega | (simp only [wr, wl] at *; omega)) (show (J 235 27) ≤ (wr (p + 1)) from by first | with_reducible assumption | omega | (simp only [wr, wl] at *; omega)) (show (14 - (wr (p + 1))).toNat < mz from by omega)
      ·
        refine ⟨⟨_, rfl, (by decide)⟩, ?_⟩
        refine r_curveOf (v0 := p) (v1 := v1) hF hJ (by omega) (fun vr23 hr24 => ?_)
        have hr24 : -2147483648 ≤ vr23 ∧ vr23 < 2147483648 := hr24
        refine ⟨fun (c25 : ((vr23 : Int) < 0)) => ?_, fun (c25 : (¬ ((vr23 : Int) < 0))) => ?_⟩
        ·
          refine GoN_lv (lv' := [some (vr 235), some (vi v0), some (vi v1), some (vi v2), some (vi (wr (p + 1))), none]) (LvLe.k (LvLe.k (LvLe.k (LvLe.k (LvLe.k (LvLe.d LvLe.n)))))) ?_
          have n26 : (wr (p + 1)) = p + 1 := wr_id (show -2147483648 ≤ (p + 1 : Int) ∧ (p + 1 : Int) < 2147483648 from by omega)
          exact ih (wr (p + 1)) J hJ (fun ka ja hk => (hV ka ja (by omega))) (show (0 : Int) ≤ (wr (p + 1)) from by first | with_reducible assumption | omega | (simp only [wr, wl] at *; omega)) (show ((wr (p + 1)) : Int) ≤ 14 from by first | with_reducible assumption | omega | (simp only [wr, wl] at *; omega)) (show (J 235 27) ≤ (wr (p + 1)) from by first | with_reducible assumption | omega | (simp only [wr, wl] at *; omega)) (show (14 - (wr (p + 1))).toNat < mz from by omega)
        ·
          refine ⟨⟨_, rfl, (by decide)⟩, ?_⟩
          refine r_adds (v0 := vr23) (v1 := p) hF hJ (show (J 235 27) ≤ 13 from by first | with_reducible assumption | omega | (simp only [wr, wl] at *; omega)) (fun I27 hR28 hA29 hW30 q31 => ?_)
          have q31 : (I27 235 27) = (J 235 27) + 1 := q31
          refine GoN_lv (lv' := [some (vr 235), some (vi v0), some (vi v1), some (vi v2), some (vi (wr (p + 1))), none]) (LvLe.k (LvLe.k (LvLe.k (LvLe.k (LvLe.k (LvLe.d LvLe.n)))))) ?_
          have n32 : (wr (p + 1)) = p + 1 := wr_id (show -2147483648 ≤ (p + 1 : Int) ∧ (p + 1 : Int) < 2147483648 from by omega)
          have r33 : 0 ≤ (I27 235 27) ∧ (I27 235 27) ≤ 14 := Rg.f27 hR28
          exact ih (wr (p + 1)) I27 hR28 (fun ka ja hk => ((hW30 ka ja (by omega))).trans ((hV ka ja (by omega)))) (show (0 : Int) ≤ (wr (p + 1)) from by first | with_reducible assumption | omega | (simp only [wr, wl] at *; omega)) (show ((wr (p + 1)) : Int) ≤ 14 from by first | with_reducible assumption | omega | (simp only [wr, wl] at *; omega)) (show (I27 235 27) ≤ (wr (p + 1)) from by first | with_reducible assumption | omega | (simp only [wr, wl] at *; omega)) (show (14 - (wr (p + 1))).toNat < mz from by omega)
theorem r_curve (hF : FS F) (hR : Rg I) {v0 v1 v2 : Int}  (hQ : ∀ (r : Int) (I' : pI), Rg I' → AR I' → iR r → (∀ k j, ¬ (k = 238 ∨ (k = 235 ∧ (j = 27)) ∨ k = 245 ∨ k = 246) → I' k j = I k j) → Q (some (vi r)) F I') : CallN G (d + 4) kX12_curve [vr 235, vi v0, vi v1, vi v2] NP F I Q := by
  refine CallN_in (fun hok hA => CallN_out ?_)
  have iv0 : -2147483648 ≤ v0 ∧ v0 < 2147483648 := hok (vi v0) (by simp)
  have iv1 : -2147483648 ≤ v1 ∧ v1 < 2147483648 := hok (vi v1) (by simp)
  have iv2 : -2147483648 ≤ v2 ∧ v2 < 2147483648 := hok (vi v2) (by simp)
  refine Call_wp (lv := [some (vr 235), some (vi v0), some (vi v1), some (vi v2), none, none]) (by decide) ckX12_curve [42] rfl rfl ?_
  refine s_X12_isLot (fun (w1 : ((0 : Int) ≤ v0 ∧ (v0 : Int) ≤ 3)) => ?_) (fun (w1 : ¬ ((0 : Int) ≤ v0 ∧ (v0 : Int) ≤ 3)) => ?_)
  ·
    refine ⟨fun c => absurd c (show (¬ ((1 : Int) = 0)) from by decide), fun _ => ?_⟩
    refine s_X12_within (fun (w2 : ((0 : Int) ≤ v1 ∧ (v1 : Int) ≤ 999)) => ?_) (fun (w2 : ¬ ((0 : Int) ≤ v1 ∧ (v1 : Int) ≤ 999)) => ?_)
    ·
      refine ⟨fun c => absurd c (show (¬ ((1 : Int) = 0)) from by decide), fun _ => ?_⟩
      refine s_X12_within (fun (w3 : ((0 : Int) ≤ v2 ∧ (v2 : Int) ≤ 3)) => ?_) (fun (w3 : ¬ ((0 : Int) ≤ v2 ∧ (v2 : Int) ≤ 3)) => ?_)
      ·
        refine ⟨fun _ => ?_, fun c => absurd c (show (¬ (1 : Int) = 0) from by decide)⟩
        refine ⟨_, rfl, (by decide), ?_⟩
        have p4 : (0 : Int) ≤ 0 ∧ (0 : Int) ≤ 14 := by decide
        refine r_curve_l hF hR  (fun r I' g1 g2 hv hA' => hQ _ _ g1 hA' (hv _ rfl) g2) _ 0 (uI I 235 27 0) (Rg.u hR (Pr_x27 p4)) (fun ka ja hk => (uI_o (show ¬ (ka = 235 ∧ ja = 27) from by first | (intro e; obtain ⟨rfl, rfl⟩ := e; exact hk (by decide)) | omega))) (show (0 : Int) ≤ (0 : Int) from Int.le_refl _) (show ((0 : Int) : Int) ≤ 14 from by first | with_reducible assumption | omega | (simp only [wr, wl] at *; omega)) (show (0 : Int) ≤ (0 : Int) from Int.le_refl _) (Nat.lt_succ_self _)
      ·
        refine ⟨fun c => absurd (show ((0 : Int) = 0) from by decide) c, fun _ => ?_⟩
        refine ⟨⟨_, rfl, (by decide)⟩, ?_⟩
        refine s_X12_finding hF (v := (-1000001)) (by decide) ?_
        exact ⟨rfl, fun hv hA' => hQ _ _ (Rg.u hR (Pr_f rfl)) hA' (hv _ rfl) (fun ka ja hk => (uI_o (show ¬ (ka = 238 ∧ ja = 1) from by first | (intro e; obtain ⟨rfl, rfl⟩ := e; exact hk (by decide)) | omega)))⟩
    ·
      refine ⟨fun _ => ?_, fun c => absurd (show ((0 : Int) = 0) from by decide) c⟩
      refine ⟨⟨_, rfl, (by decide)⟩, ?_⟩
      refine s_X12_finding hF (v := (-1000001)) (by decide) ?_
      exact ⟨rfl, fun hv hA' => hQ _ _ (Rg.u hR (Pr_f rfl)) hA' (hv _ rfl) (fun ka ja hk => (uI_o (show ¬ (ka = 238 ∧ ja = 1) from by first | (intro e; obtain ⟨rfl, rfl⟩ := e; exact hk (by decide)) | omega)))⟩
  ·
    refine ⟨fun _ => ?_, fun c => absurd (show ((0 : Int) = 0) from by decide) c⟩
    refine ⟨⟨_, rfl, (by decide)⟩, ?_⟩
    refine s_X12_finding hF (v := (-1000001)) (by decide) ?_
    exact ⟨rfl, fun hv hA' => hQ _ _ (Rg.u hR (Pr_f rfl)) hA' (hv _ rfl) (fun ka ja hk => (uI_o (show ¬ (ka = 238 ∧ ja = 1) from by first | (intro e; obtain ⟨rfl, rfl⟩ := e; exact hk (by decide)) | omega)))⟩
theorem r_odd (hF : FS F) (hR : Rg I) {v0 v1 v2 : Int}  (hQ : ∀ (r : Int) (I' : pI), Rg I' → AR I' → iR r → (∀ k j, ¬ (k = 238 ∨ (k = 235 ∧ (j = 22 ∨ j = 23 ∨ j = 24 ∨ j = 27)) ∨ k = 245 ∨ k = 246) → I' k j = I k j) → Q (some (vi r)) F I') : CallN G (d + 8) kX12_odd [vr 235, vi v0, vi v1, vi v2] NP F I Q := by
  refine CallN_in (fun hok hA => CallN_out ?_)
  have iv0 : -2147483648 ≤ v0 ∧ v0 < 2147483648 := hok (vi v0) (by simp)
  have iv1 : -2147483648 ≤ v1 ∧ v1 < 2147483648 := hok (vi v1) (by simp)
  have iv2 : -2147483648 ≤ v2 ∧ v2 < 2147483648 := hok (vi v2) (by simp)
  refine Call_wp (lv := [some (vr 235), some (vi v0), some (vi v1), some (vi v2), none, none, none]) (by decide) ckX12_odd [] rfl rfl ?_
  refine s_X12_isLot (fun (w1 : ((0 : Int) ≤ v0 ∧ (v0 : Int) ≤ 3)) => ?_) (fun (w1 : ¬ ((0 : Int) ≤ v0 ∧ (v0 : Int) ≤ 3)) => ?_)
  ·
    refine ⟨fun c => absurd c (show (¬ ((1 : Int) = 0)) from by decide), fun _ => ?_⟩
    refine s_X12_isLaw (fun (w2 : ((0 : Int) ≤ v1 ∧ (v1 : Int) ≤ 3)) => ?_) (fun (w2 : ¬ ((0 : Int) ≤ v1 ∧ (v1 : Int) ≤ 3)) => ?_)
    ·
      refine ⟨fun c => absurd c (show (¬ ((1 : Int) = 0)) from by decide), fun _ => ?_⟩
      refine s_X12_within (fun (w3 : ((0 : Int) ≤ v2 ∧ (v2 : Int) ≤ 100)) => ?_) (fun (w3 : ¬ ((0 : Int) ≤ v2 ∧ (v2 : Int) ≤ 100)) => ?_)
      ·
        refine ⟨fun _ => ?_, fun c => absurd c (show (¬ (1 : Int) = 0) from by decide)⟩
        refine ⟨⟨_, rfl, (by decide)⟩, ?_⟩
        refine r_fn  hF hR (fun I4 hR5 hA6 hW7 => ?_)
        refine ⟨_, rfl, (by decide), ?_⟩
        have r8 : 0 ≤ (I4 235 27) ∧ (I4 235 27) ≤ 14 := Rg.f27 hR5
        refine ⟨fun (c10 : ((3 : Int) ≤ (I4 235 27))) => ?_, fun (c10 : (¬ ((3 : Int) ≤ (I4 235 27)))) => ?_⟩
        ·
          refine ⟨_, rfl, (by decide), ?_⟩
          refine fun w0 hw0 => ?_; obtain rfl : w0 = some 245 := hw0.symm.trans (FS.g hF rfl)
          have n11 : (wr ((I4 235 27) - 1)) = (I4 235 27) - 1 := wr_id (show -2147483648 ≤ ((I4 235 27) - 1 : Int) ∧ ((I4 235 27) - 1 : Int) < 2147483648 from by omega)
          refine ⟨_, rfl, (by decide), (show (0 : Int) ≤ (wr ((I4 235 27) - 1)) from by first | with_reducible assumption | omega | (simp only [wr, wl] at *; omega)), (show (wr ((I4 235 27) - 1)) < (14 : Int) from by first | with_reducible assumption | omega | (simp only [wr, wl] at *; omega)), ?_⟩
          refine ⟨_, rfl, (by decide), ?_⟩
          refine fun w0 hw0 => ?_; obtain rfl : w0 = some 245 := hw0.symm.trans (FS.g hF rfl)
          refine ⟨_, rfl, (by decide), (by decide), (by decide), ?_⟩
          refine ⟨_, rfl, (by decide), ?_⟩
          refine fun w0 hw0 => ?_; obtain rfl : w0 = some 245 := hw0.symm.trans (FS.g hF rfl)
          refine ⟨_, rfl, (by decide), (by decide), (by decide), ?_⟩
          refine ⟨_, rfl, (by decide), ?_⟩
          refine fun w0 hw0 => ?_; obtain rfl : w0 = some 245 := hw0.symm.trans (FS.g hF rfl)
          refine ⟨_, rfl, (by decide), (by decide), (by decide), ?_⟩
          have a12 : -2147483648 ≤ (I4 245 1) ∧ (I4 245 1) < 2147483648 := hA6.1 _ _
          have a13 : -2147483648 ≤ (I4 245 0) ∧ (I4 245 0) < 2147483648 := hA6.1 _ _
          have n14 : -2147483648 ≤ (wr ((I4 245 1) - (I4 245 0))) ∧ (wr ((I4 245 1) - (I4 245 0))) < 2147483648 := wr_R _
          have n15 : (wl (100 * (wr ((I4 245 1) - (I4 245 0))))) = 100 * (wr ((I4 245 1) - (I4 245 0))) := wl_id (show -9223372036854775808 ≤ (100 * (wr ((I4 245 1) - (I4 245 0))) : Int) ∧ (100 * (wr ((I4 245 1) - (I4 245 0))) : Int) < 9223372036854775808 from by omega)
          have a16 : -2147483648 ≤ (I4 245 (Int.toNat (wr ((I4 235 27) - 1)))) ∧ (I4 245 (Int.toNat (wr ((I4 235 27) - 1)))) < 2147483648 := hA6.1 _ _
          have n17 : -2147483648 ≤ (wr ((I4 245 (Int.toNat (wr ((I4 235 27) - 1)))) - (I4 245 0))) ∧ (wr ((I4 245 (Int.toNat (wr ((I4 235 27) - 1)))) - (I4 245 0))) < 2147483648 := wr_R _
          refine ⟨fun c18 => ?_, fun c18 => ?_⟩
          ·
            have c18 : (((wl (100 * (wr ((I4 245 1) - (I4 245 0))))) : Int) ≤ (wl (v2 * (wr ((I4 245 (Int.toNat (wr ((I4 235 27) - 1)))) - (I4 245 0)))))) := lcm_le.1 c18
            refine ⟨_, rfl, (by decide), ?_⟩
            refine fun w0 hw0 => ?_; obtain rfl : w0 = some 245 := hw0.symm.trans (FS.g hF rfl)
            refine ⟨_, rfl, (by decide), (show (0 : Int) ≤ (wr ((I4 235 27) - 1)) from by first | with_reducible assumption | omega | (simp only [wr, wl] at *; omega)), (show (wr ((I4 235 27) - 1)) < (14 : Int) from by first | with_reducible assumption | omega | (simp only [wr, wl] at *; omega)), ?_⟩
            refine ⟨_, rfl, (by decide), ?_⟩
            refine fun w0 hw0 => ?_; obtain rfl : w0 = some 245 := hw0.symm.trans (FS.g hF rfl)
            have n19 : (wr ((I4 235 27) - 2)) = (I4 235 27) - 2 := wr_id (show -2147483648 ≤ ((I4 235 27) - 2 : Int) ∧ ((I4 235 27) - 2 : Int) < 2147483648 from by omega)
            refine ⟨_, rfl, (by decide), (show (0 : Int) ≤ (wr ((I4 235 27) - 2)) from by first | with_reducible assumption | omega | (simp only [wr, wl] at *; omega)), (show (wr ((I4 235 27) - 2)) < (14 : Int) from by first | with_reducible assumption | omega | (simp only [wr, wl] at *; omega)), ?_⟩
            have a20 : -2147483648 ≤ (I4 245 (Int.toNat (wr ((I4 235 27) - 2)))) ∧ (I4 245 (Int.toNat (wr ((I4 235 27) - 2)))) < 2147483648 := hA6.1 _ _
            have n21 : -2147483648 ≤ (wr ((I4 245 (Int.toNat (wr ((I4 235 27) - 1)))) - (I4 245 (Int.toNat (wr ((I4 235 27) - 2)))))) ∧ (wr ((I4 245 (Int.toNat (wr ((I4 235 27) - 1)))) - (I4 245 (Int.toNat (wr ((I4 235 27) - 2)))))) < 2147483648 := wr_R _
            have n22 : (wl (100 * (wr ((I4 245 (Int.toNat (wr ((I4 235 27) - 1)))) - (I4 245 (Int.toNat (wr ((I4 235 27) - 2)))))))) = 100 * (wr ((I4 245 (Int.toNat (wr ((I4 235 27) - 1)))) - (I4 245 (Int.toNat (wr ((I4 235 27) - 2)))))) := wl_id (show -9223372036854775808 ≤ (100 * (wr ((I4 245 (Int.toNat (wr ((I4 235 27) - 1)))) - (I4 245 (Int.toNat (wr ((I4 235 27) - 2)))))) : Int) ∧ (100 * (wr ((I4 245 (Int.toNat (wr ((I4 235 27) - 1)))) - (I4 245 (Int.toNat (wr ((I4 235 27) - 2)))))) : Int) < 9223372036854775808 from by omega)
            refine ⟨fun c23 => ?_, fun c23 => ?_⟩
            ·
              have c23 : (((wl (100 * (wr ((I4 245 (Int.toNat (wr ((I4 235 27) - 1)))) - (I4 245 (Int.toNat (wr ((I4 235 27) - 2)))))))) : Int) ≤ (wl (v2 * (wr ((I4 245 (Int.toNat (wr ((I4 235 27) - 1)))) - (I4 245 0)))))) := lcm_le.1 c23
              refine ⟨⟨_, rfl, (by decide)⟩, ?_⟩
              refine s_X12_finding hF (v := (-1000002)) (by decide) ?_
              have u24 : (I4 238 2) = (I 238 2) := hW7 _ _ (by first | decide | omega)
              have a25 : -2147483648 ≤ (I 238 2) ∧ (I 238 2) < 2147483648 := hA.1 _ _
              have a26 : -2147483648 ≤ (I4 238 2) ∧ (I4 238 2) < 2147483648 := hA6.1 _ _
              exact ⟨rfl, fun hv hA' => hQ _ _ (Rg.u hR5 (Pr_f rfl)) hA' (hv _ rfl) (fun ka ja hk => ((uI_o (show ¬ (ka = 238 ∧ ja = 2) from by first | (intro e; obtain ⟨rfl, rfl⟩ := e; exact hk (by decide)) | omega))).trans ((hW7 ka ja (by omega))))⟩
            ·
              have c23 : (¬ (((wl (100 * (wr ((I4 245 (Int.toNat (wr ((I4 235 27) - 1)))) - (I4 245 (Int.toNat (wr ((I4 235 27) - 2)))))))) : Int) ≤ (wl (v2 * (wr ((I4 245 (Int.toNat (wr ((I4 235 27) - 1)))) - (I4 245 0))))))) := fun e => c23 (lcm_le.2 e)
              refine ⟨_, rfl, (by decide), ?_⟩
              refine fun w0 hw0 => ?_; obtain rfl : w0 = some 246 := hw0.symm.trans (FS.g hF rfl)
              refine ⟨_, rfl, (by decide), (show (0 : Int) ≤ (wr ((I4 235 27) - 1)) from by first | with_reducible assumption | omega | (simp only [wr, wl] at *; omega)), (show (wr ((I4 235 27) - 1)) < (14 : Int) from by first | with_reducible assumption | omega | (simp only [wr, wl] at *; omega)), ?_⟩
              exact ⟨rfl, fun hv hA' => hQ _ _ hR5 hA' (hv _ rfl) (fun ka ja hk => (hW7 ka ja (by omega)))⟩
          ·
            have c18 : (¬ (((wl (100 * (wr ((I4 245 1) - (I4 245 0))))) : Int) ≤ (wl (v2 * (wr ((I4 245 (Int.toNat (wr ((I4 235 27) - 1)))) - (I4 245 0))))))) := fun e => c18 (lcm_le.2 e)
            refine ⟨_, rfl, (by decide), ?_⟩
            refine fun w0 hw0 => ?_; obtain rfl : w0 = some 246 := hw0.symm.trans (FS.g hF rfl)
            refine ⟨_, rfl, (by decide), (by decide), (by decide), ?_⟩
            exact ⟨rfl, fun hv hA' => hQ _ _ hR5 hA' (hv _ rfl) (fun ka ja hk => (hW7 ka ja (by omega)))⟩
        ·
          refine ⟨⟨_, rfl, (by decide)⟩, ?_⟩
          refine s_X12_finding hF (v := (-1000002)) (by decide) ?_
          have u27 : (I4 238 2) = (I 238 2) := hW7 _ _ (by first | decide | omega)
          have a28 : -2147483648 ≤ (I 238 2) ∧ (I 238 2) < 2147483648 := hA.1 _ _
          have a29 : -2147483648 ≤ (I4 238 2) ∧ (I4 238 2) < 2147483648 := hA6.1 _ _
          exact ⟨rfl, fun hv hA' => hQ _ _ (Rg.u hR5 (Pr_f rfl)) hA' (hv _ rfl) (fun ka ja hk => ((uI_o (show ¬ (ka = 238 ∧ ja = 2) from by first | (intro e; obtain ⟨rfl, rfl⟩ := e; exact hk (by decide)) | omega))).trans ((hW7 ka ja (by omega))))⟩
      ·
        refine ⟨fun c => absurd (show ((0 : Int) = 0) from by decide) c, fun _ => ?_⟩
        refine ⟨⟨_, rfl, (by decide)⟩, ?_⟩
        refine s_X12_finding hF (v := (-1000001)) (by decide) ?_
        exact ⟨rfl, fun hv hA' => hQ _ _ (Rg.u hR (Pr_f rfl)) hA' (hv _ rfl) (fun ka ja hk => (uI_o (show ¬ (ka = 238 ∧ ja = 1) from by first | (intro e; obtain ⟨rfl, rfl⟩ := e; exact hk (by decide)) | omega)))⟩
    ·
      refine ⟨fun _ => ?_, fun c => absurd (show ((0 : Int) = 0) from by decide) c⟩
      refine ⟨⟨_, rfl, (by decide)⟩, ?_⟩
      refine s_X12_finding hF (v := (-1000001)) (by decide) ?_
      exact ⟨rfl, fun hv hA' => hQ _ _ (Rg.u hR (Pr_f rfl)) hA' (hv _ rfl) (fun ka ja hk => (uI_o (show ¬ (ka = 238 ∧ ja = 1) from by first | (intro e; obtain ⟨rfl, rfl⟩ := e; exact hk (by decide)) | omega)))⟩
  ·
    refine ⟨fun _ => ?_, fun c => absurd (show ((0 : Int) = 0) from by decide) c⟩
    refine ⟨⟨_, rfl, (by decide)⟩, ?_⟩
    refine s_X12_finding hF (v := (-1000001)) (by decide) ?_
    exact ⟨rfl, fun hv hA' => hQ _ _ (Rg.u hR (Pr_f rfl)) hA' (hv _ rfl) (fun ka ja hk => (uI_o (show ¬ (ka = 238 ∧ ja = 1) from by first | (intro e; obtain ⟨rfl, rfl⟩ := e; exact hk (by decide)) | omega)))⟩
theorem r_rank_c (hF : FS F) (hR : Rg I) {al j r su v0 v1 v2 : Int}  (hK : ∀ (wy : Int) , GoN G d kX12_rankOf NP NP 73 [some (vi v0), some (vi v1), some (vi v2), some (vl al), none, some (vl su), none, some (vi r), some (vi j), some (vl wy), none, none] [] F I Q) : ∀ (mz : Nat) (wy k : Int) , ((0 : Int) ≤ k) → (j - k).toNat < mz → GoN G d kX12_rankOf NP NP 44 [some (vi v0), some (vi v1), some (vi v2), some (vl al), none, some (vl su), none, some (vi r), some (vi j), some (vl wy), none, some (vi k)] [] F I Q := by
  intro mz
  induction mz with
  | zero => intro wy k _ h; exact absurd h (Nat.not_lt_zero _)
  | succ mz ih =>
    intro wy k c100 hm
    refine GoN_in (fun hok hA => ?_)
    have iiv0 : -2147483648 ≤ v0 ∧ v0 < 2147483648 := hok 0 _ rfl
    have iiv1 : -2147483648 ≤ v1 ∧ v1 < 2147483648 := hok 1 _ rfl
    have iiv2 : -2147483648 ≤ v2 ∧ v2 < 2147483648 := hok 2 _ rfl
    have iial : -9223372036854775808 ≤ al ∧ al < 9223372036854775808 := hok 3 _ rfl
    have iisu : -9223372036854775808 ≤ su ∧ su < 9223372036854775808 := hok 5 _ rfl
    have iir : -2147483648 ≤ r ∧ r < 2147483648 := hok 7 _ rfl
    have iij : -2147483648 ≤ j ∧ j < 2147483648 := hok 8 _ rfl
    have iiwy : -9223372036854775808 ≤ wy ∧ wy < 9223372036854775808 := hok 9 _ rfl
    have iik : -2147483648 ≤ k ∧ k < 2147483648 := hok 11 _ rfl
    refine Go_wp (by decide) ckX12_rankOf [44, 73] ?_
    refine ⟨fun (c1 : ((j : Int) ≤ k)) => ?_, fun (c1 : (¬ ((j : Int) ≤ k))) => ?_⟩
    ·
      refine GoN_lv (lv' := [some (vi v0), some (vi v1), some (vi v2), some (vl al), none, some (vl su), none, some (vi r), some (vi j), some (vl wy), none, none]) (LvLe.k (LvLe.k (LvLe.k (LvLe.k (LvLe.k (LvLe.k (LvLe.k (LvLe.k (LvLe.k (LvLe.k (LvLe.k (LvLe.d LvLe.n)))))))))))) ?_
      exact hK wy  
    ·
      have n2 : (wr (k + 1)) = k + 1 := wr_id (show -2147483648 ≤ (k + 1 : Int) ∧ (k + 1 : Int) < 2147483648 from by omega)
      refine ⟨(show ¬ ((wr (k + 1)) : Int) = 0 from by first | omega | (simp only [wr, wl] at *; omega)), ?_⟩
      exact ih (wl (Int.tdiv (wl (wy * (wr (v0 - k)))) (wr (k + 1)))) (wr (k + 1))  (show (0 : Int) ≤ (wr (k + 1)) from by first | with_reducible assumption | omega | (simp only [wr, wl] at *; omega)) (show (j - (wr (k + 1))).toNat < mz from by omega)
theorem r_rank_d (hF : FS F) (hR : Rg I) {al j r su v0 v1 v2 : Int}  (hK : ∀ (wy : Int) , GoN G d kX12_rankOf NP NP 110 [some (vi v0), some (vi v1), some (vi v2), some (vl al), none, some (vl su), none, some (vi r), some (vi j), some (vl wy), none, none] [] F I Q) : ∀ (mz : Nat) (wy k : Int) , ((0 : Int) ≤ k) → (v0 - k).toNat < mz → GoN G d kX12_rankOf NP NP 76 [some (vi v0), some (vi v1), some (vi v2), some (vl al), none, some (vl su), none, some (vi r), some (vi j), some (vl wy), none, some (vi k)] [] F I Q := by
  intro mz
  induction mz with
  | zero => intro wy k _ h; exact absurd h (Nat.not_lt_zero _)
  | succ mz ih =>
    intro wy k c100 hm
    refine GoN_in (fun hok hA => ?_)
    have iiv0 : -2147483648 ≤ v0 ∧ v0 < 2147483648 := hok 0 _ rfl
    have iiv1 : -2147483648 ≤ v1 ∧ v1 < 2147483648 := hok 1 _ rfl
    have iiv2 : -2147483648 ≤ v2 ∧ v2 < 2147483648 := hok 2 _ rfl
    have iial : -9223372036854775808 ≤ al ∧ al < 9223372036854775808 := hok 3 _ rfl
    have iisu : -9223372036854775808 ≤ su ∧ su < 9223372036854775808 := hok 5 _ rfl
    have iir : -2147483648 ≤ r ∧ r < 2147483648 := hok 7 _ rfl
    have iij : -2147483648 ≤ j ∧ j < 2147483648 := hok 8 _ rfl
    have iiwy : -9223372036854775808 ≤ wy ∧ wy < 9223372036854775808 := hok 9 _ rfl
    have iik : -2147483648 ≤ k ∧ k < 2147483648 := hok 11 _ rfl
    refine Go_wp (by decide) ckX12_rankOf [76, 110] ?_
    refine ⟨fun (c1 : ((v0 : Int) ≤ k)) => ?_, fun (c1 : (¬ ((v0 : Int) ≤ k))) => ?_⟩
    ·
      refine GoN_lv (lv' := [some (vi v0), some (vi v1), some (vi v2), some (vl al), none, some (vl su), none, some (vi r), some (vi j), some (vl wy), none, none]) (LvLe.k (LvLe.k (LvLe.k (LvLe.k (LvLe.k (LvLe.k (LvLe.k (LvLe.k (LvLe.k (LvLe.k (LvLe.k (LvLe.d LvLe.n)))))))))))) ?_
      exact hK wy  
    ·
      refine ⟨fun (c2 : ((j : Int) ≤ k)) => ?_, fun (c2 : (¬ ((j : Int) ≤ k))) => ?_⟩
      ·
        have n3 : (wr (k + 1)) = k + 1 := wr_id (show -2147483648 ≤ (k + 1 : Int) ∧ (k + 1 : Int) < 2147483648 from by omega)
        exact ih (wl (wy * v1)) (wr (k + 1))  (show (0 : Int) ≤ (wr (k + 1)) from by first | with_reducible assumption | omega | (simp only [wr, wl] at *; omega)) (show (v0 - (wr (k + 1))).toNat < mz from by omega)
      ·
        have n4 : -2147483648 ≤ (wr (10 - v1)) ∧ (wr (10 - v1)) < 2147483648 := wr_R _
        have n5 : (wr (k + 1)) = k + 1 := wr_id (show -2147483648 ≤ (k + 1 : Int) ∧ (k + 1 : Int) < 2147483648 from by omega)
        exact ih (wl (wy * (wr (10 - v1)))) (wr (k + 1))  (show (0 : Int) ≤ (wr (k + 1)) from by first | with_reducible assumption | omega | (simp only [wr, wl] at *; omega)) (show (v0 - (wr (k + 1))).toNat < mz from by omega)
theorem r_rank_b (hF : FS F) (hR : Rg I) {v0 v1 v2 : Int}  (hQ : ∀ (r : Int) , (0 ≤ r ∧ (r ≤ v0 ∨ r = 0)) → Q (some (vi r)) F I) : ∀ (mz : Nat) (al su r j : Int) , ((0 : Int) ≤ r) → ((0 : Int) ≤ j) → (r ≤ v0 ∨ r = 0) → (v0 - j).toNat < mz → GoN G d kX12_rankOf NP NP 32 [some (vi v0), some (vi v1), some (vi v2), some (vl al), none, some (vl su), none, some (vi r), some (vi j), none, none, none] [] F I Q := by
  intro mz
  induction mz with
  | zero => intro al su r j _ _ _ h; exact absurd h (Nat.not_lt_zero _)
  | succ mz ih =>
    intro al su r j c100 c101 c102 hm
    refine GoN_in (fun hok hA => ?_)
    have iiv0 : -2147483648 ≤ v0 ∧ v0 < 2147483648 := hok 0 _ rfl
    have iiv1 : -2147483648 ≤ v1 ∧ v1 < 2147483648 := hok 1 _ rfl
    have iiv2 : -2147483648 ≤ v2 ∧ v2 < 2147483648 := hok 2 _ rfl
    have iial : -9223372036854775808 ≤ al ∧ al < 9223372036854775808 := hok 3 _ rfl
    have iisu : -9223372036854775808 ≤ su ∧ su < 9223372036854775808 := hok 5 _ rfl
    have iir : -2147483648 ≤ r ∧ r < 2147483648 := hok 7 _ rfl
    have iij : -2147483648 ≤ j ∧ j < 2147483648 := hok 8 _ rfl
    refine Go_wp (by decide) ckX12_rankOf [32, 44, 76] ?_
    refine ⟨fun (c1 : ((v0 : Int) ≤ j)) => ?_, fun (c1 : (¬ ((v0 : Int) ≤ j))) => ?_⟩
    ·
      exact ⟨rfl, hQ _ (show 0 ≤ r ∧ (r ≤ v0 ∨ r = 0) from by first | omega | (simp only [wr, wl] at *; omega))⟩
    ·
      refine r_rank_c hF hR  (fun y2 => ?_) _ 1 0  (show (0 : Int) ≤ (0 : Int) from Int.le_refl _) (Nat.lt_succ_self _)
      refine GoN_in (fun hok3 hA4 => ?_)
      have i5 : -9223372036854775808 ≤ y2 ∧ y2 < 9223372036854775808 := hok3 9 _ rfl
      refine Go_wp (by decide) ckX12_rankOf [32, 44, 76] ?_
      refine r_rank_d hF hR  (fun y6 => ?_) _ y2 0  (show (0 : Int) ≤ (0 : Int) from Int.le_refl _) (Nat.lt_succ_self _)
      refine GoN_in (fun hok7 hA8 => ?_)
      have i9 : -9223372036854775808 ≤ y6 ∧ y6 < 9223372036854775808 := hok7 9 _ rfl
      refine Go_wp (by decide) ckX12_rankOf [32, 44, 76] ?_
      have n10 : -2147483648 ≤ (wr (10 - v2)) ∧ (wr (10 - v2)) < 2147483648 := wr_R _
      refine ⟨fun c11 => ?_, fun c11 => ?_⟩
      ·
        have c11 : (((wl ((wr (10 - v2)) * al)) : Int) < (wl (10 * (wl (su + y6))))) := lcm_gt.1 c11
        refine GoN_lv (lv' := [some (vi v0), some (vi v1), some (vi v2), some (vl al), none, some (vl (wl (su + y6))), none, some (vi r), some (vi (wr (j + 1))), none, none, none]) (LvLe.k (LvLe.k (LvLe.k (LvLe.k (LvLe.k (LvLe.k (LvLe.k (LvLe.k (LvLe.k (LvLe.d (LvLe.k (LvLe.k LvLe.n)))))))))))) ?_
        have n12 : (wr (j + 1)) = j + 1 := wr_id (show -2147483648 ≤ (j + 1 : Int) ∧ (j + 1 : Int) < 2147483648 from by omega)
        exact ih al (wl (su + y6)) r (wr (j + 1))  (show (0 : Int) ≤ r from by first | with_reducible assumption | omega | (simp only [wr, wl] at *; omega)) (show (0 : Int) ≤ (wr (j + 1)) from by first | with_reducible assumption | omega | (simp only [wr, wl] at *; omega)) (show r ≤ v0 ∨ r = 0 from by first | omega | (simp only [wr, wl] at *; omega)) (show (v0 - (wr (j + 1))).toNat < mz from by omega)
      ·
        have c11 : (¬ (((wl ((wr (10 - v2)) * al)) : Int) < (wl (10 * (wl (su + y6)))))) := fun e => c11 (lcm_gt.2 e)
        refine GoN_lv (lv' := [some (vi v0), some (vi v1), some (vi v2), some (vl al), none, some (vl (wl (su + y6))), none, some (vi (wr (j + 1))), some (vi (wr (j + 1))), none, none, none]) (LvLe.k (LvLe.k (LvLe.k (LvLe.k (LvLe.k (LvLe.k (LvLe.k (LvLe.k (LvLe.k (LvLe.d (LvLe.k (LvLe.k LvLe.n)))))))))))) ?_
        have n13 : (wr (j + 1)) = j + 1 := wr_id (show -2147483648 ≤ (j + 1 : Int) ∧ (j + 1 : Int) < 2147483648 from by omega)
        exact ih al (wl (su + y6)) (wr (j + 1)) (wr (j + 1))  (show (0 : Int) ≤ (wr (j + 1)) from by first | with_reducible assumption | omega | (simp only [wr, wl] at *; omega)) (show (0 : Int) ≤ (wr (j + 1)) from by first | with_reducible assumption | omega | (simp only [wr, wl] at *; omega)) (show (wr (j + 1)) ≤ v0 ∨ (wr (j + 1)) = 0 from by first | omega | (simp only [wr, wl] at *; omega)) (show (v0 - (wr (j + 1))).toNat < mz from by omega)
theorem r_rank_a (hF : FS F) (hR : Rg I) {v0 v1 v2 : Int}  (hQ : ∀ (r : Int) , (0 ≤ r ∧ (r ≤ v0 ∨ r = 0)) → Q (some (vi r)) F I) : ∀ (mz : Nat) (al k : Int) , ((0 : Int) ≤ k) → (v0 - k).toNat < mz → GoN G d kX12_rankOf NP NP 5 [some (vi v0), some (vi v1), some (vi v2), some (vl al), none, some (vi k), none, none, none, none, none, none] [] F I Q := by
  intro mz
  induction mz with
  | zero => intro al k _ h; exact absurd h (Nat.not_lt_zero _)
  | succ mz ih =>
    intro al k c100 hm
    refine GoN_in (fun hok hA => ?_)
    have iiv0 : -2147483648 ≤ v0 ∧ v0 < 2147483648 := hok 0 _ rfl
    have iiv1 : -2147483648 ≤ v1 ∧ v1 < 2147483648 := hok 1 _ rfl
    have iiv2 : -2147483648 ≤ v2 ∧ v2 < 2147483648 := hok 2 _ rfl
    have iial : -9223372036854775808 ≤ al ∧ al < 9223372036854775808 := hok 3 _ rfl
    have iik : -2147483648 ≤ k ∧ k < 2147483648 := hok 5 _ rfl
    refine Go_wp (by decide) ckX12_rankOf [5, 32] ?_
    refine ⟨fun (c1 : ((v0 : Int) ≤ k)) => ?_, fun (c1 : (¬ ((v0 : Int) ≤ k))) => ?_⟩
    ·
      refine r_rank_b hF hR  hQ _ al 0 0 0  (show (0 : Int) ≤ (0 : Int) from Int.le_refl _) (show (0 : Int) ≤ (0 : Int) from Int.le_refl _) (show (0 : Int) ≤ v0 ∨ (0 : Int) = 0 from by first | omega | (simp only [wr, wl] at *; omega)) (Nat.lt_succ_self _)
    ·
      have n2 : (wr (k + 1)) = k + 1 := wr_id (show -2147483648 ≤ (k + 1 : Int) ∧ (k + 1 : Int) < 2147483648 from by omega)
      exact ih (wl (al * 10)) (wr (k + 1))  (show (0 : Int) ≤ (wr (k + 1)) from by first | with_reducible assumption | omega | (simp only [wr, wl] at *; omega)) (show (v0 - (wr (k + 1))).toNat < mz from by omega)
theorem r_rankOf (hF : FS F) (hR : Rg I) {v0 v1 v2 : Int}  (hQ : ∀ r : Int, iR r → (0 ≤ r ∧ (r ≤ v0 ∨ r = 0)) → Q (some (vi r)) F I) : CallN G d kX12_rankOf [vi v0, vi v1, vi v2] NP F I Q := by
  refine CallN_in (fun hok hA => CallN_out ?_)
  have iv0 : -2147483648 ≤ v0 ∧ v0 < 2147483648 := hok (vi v0) (by simp)
  have iv1 : -2147483648 ≤ v1 ∧ v1 < 2147483648 := hok (vi v1) (by simp)
  have iv2 : -2147483648 ≤ v2 ∧ v2 < 2147483648 := hok (vi v2) (by simp)
  refine Call_wp (lv := [some (vi v0), some (vi v1), some (vi v2), none, none, none, none, none, none, none, none, none]) (by decide) ckX12_rankOf [5] rfl rfl ?_
  refine r_rank_a hF hR  (fun r g3 hv hA' => hQ _ (hv _ rfl) g3) _ 1 0  (show (0 : Int) ≤ (0 : Int) from Int.le_refl _) (Nat.lt_succ_self _)
theorem r_sure (hF : FS F) (hR : Rg I) {v0 v1 v2 v3 : Int}  (hQ : ∀ (r : Int) (I' : pI), Rg I' → AR I' → iR r → (∀ k j, ¬ (k = 238 ∨ (k = 235 ∧ (j = 22 ∨ j = 23 ∨ j = 24 ∨ j = 27)) ∨ k = 245 ∨ k = 246) → I' k j = I k j) → Q (some (vi r)) F I') : CallN G (d + 8) kX12_sure [vr 235, vi v0, vi v1, vi v2, vi v3] NP F I Q := by
  refine CallN_in (fun hok hA => CallN_out ?_)
  have iv0 : -2147483648 ≤ v0 ∧ v0 < 2147483648 := hok (vi v0) (by simp)
  have iv1 : -2147483648 ≤ v1 ∧ v1 < 2147483648 := hok (vi v1) (by simp)
  have iv2 : -2147483648 ≤ v2 ∧ v2 < 2147483648 := hok (vi v2) (by simp)
  have iv3 : -2147483648 ≤ v3 ∧ v3 < 2147483648 := hok (vi v3) (by simp)
  refine Call_wp (lv := [some (vr 235), some (vi v0), some (vi v1), some (vi v2), some (vi v3), none]) (by decide) ckX12_sure [] rfl rfl ?_
  refine s_X12_isLot (fun (w1 : ((0 : Int) ≤ v0 ∧ (v0 : Int) ≤ 3)) => ?_) (fun (w1 : ¬ ((0 : Int) ≤ v0 ∧ (v0 : Int) ≤ 3)) => ?_)
  ·
    refine ⟨fun c => absurd c (show (¬ ((1 : Int) = 0)) from by decide), fun _ => ?_⟩
    refine s_X12_isLaw (fun (w2 : ((0 : Int) ≤ v1 ∧ (v1 : Int) ≤ 3)) => ?_) (fun (w2 : ¬ ((0 : Int) ≤ v1 ∧ (v1 : Int) ≤ 3)) => ?_)
    ·
      refine ⟨fun c => absurd c (show (¬ ((1 : Int) = 0)) from by decide), fun _ => ?_⟩
      refine s_X12_areTenths (fun (w3 : ((1 ≤ v2 ∧ v2 ≤ 9) ∧ (1 ≤ v3 ∧ v3 ≤ 9))) => ?_) (fun (w3 : ¬ ((1 ≤ v2 ∧ v2 ≤ 9) ∧ (1 ≤ v3 ∧ v3 ≤ 9))) => ?_)
      ·
        refine ⟨fun _ => ?_, fun c => absurd c (show (¬ (1 : Int) = 0) from by decide)⟩
        refine ⟨⟨_, rfl, (by decide)⟩, ?_⟩
        refine r_fn  hF hR (fun I4 hR5 hA6 hW7 => ?_)
        refine ⟨_, rfl, (by decide), ?_⟩
        have r8 : 0 ≤ (I4 235 27) ∧ (I4 235 27) ≤ 14 := Rg.f27 hR5
        refine ⟨fun (c10 : (((I4 235 27) : Int) ≤ 12)) => ?_, fun (c10 : (¬ (((I4 235 27) : Int) ≤ 12))) => ?_⟩
        ·
          refine ⟨_, rfl, (by decide), ?_⟩
          refine r_rankOf  hF hR5 (fun vr11 hr12 q13 => ?_)
          have hr12 : -2147483648 ≤ vr11 ∧ vr11 < 2147483648 := hr12
          have q13 : 0 ≤ vr11 ∧ (vr11 ≤ ((I4 235 27) : Int) ∨ vr11 = 0) := q13
          refine ⟨fun (c14 : (¬ (vr11 : Int) = 0)) => ?_, fun (c14 : ((vr11 : Int) = 0)) => ?_⟩
          ·
            refine ⟨_, rfl, (by decide), ?_⟩
            refine fun w0 hw0 => ?_; obtain rfl : w0 = some 245 := hw0.symm.trans (FS.g hF rfl)
            have n15 : -2147483648 ≤ (wr (vr11 - 1)) ∧ (wr (vr11 - 1)) < 2147483648 := wr_R _
            refine ⟨_, rfl, (by decide), (show (0 : Int) ≤ (wr (vr11 - 1)) from by first | with_reducible assumption | omega | (simp only [wr, wl] at *; omega)), (show (wr (vr11 - 1)) < (14 : Int) from by first | with_reducible assumption | omega | (simp only [wr, wl] at *; omega)), ?_⟩
            exact ⟨rfl, fun hv hA' => hQ _ _ hR5 hA' (hv _ rfl) (fun ka ja hk => (hW7 ka ja (by omega)))⟩
          ·
            refine ⟨⟨_, rfl, (by decide)⟩, ?_⟩
            refine s_X12_finding hF (v := (-1000002)) (by decide) ?_
            have u16 : (I4 238 2) = (I 238 2) := hW7 _ _ (by first | decide | omega)
            have a17 : -2147483648 ≤ (I 238 2) ∧ (I 238 2) < 2147483648 := hA.1 _ _
            have a18 : -2147483648 ≤ (I4 238 2) ∧ (I4 238 2) < 2147483648 := hA6.1 _ _
            exact ⟨rfl, fun hv hA' => hQ _ _ (Rg.u hR5 (Pr_f rfl)) hA' (hv _ rfl) (fun ka ja hk => ((uI_o (show ¬ (ka = 238 ∧ ja = 2) from by first | (intro e; obtain ⟨rfl, rfl⟩ := e; exact hk (by decide)) | omega))).trans ((hW7 ka ja (by omega))))⟩
        ·
          refine ⟨fun c => absurd (show ((0 : Int) = 0) from by decide) c, fun _ => ?_⟩
          refine ⟨⟨_, rfl, (by decide)⟩, ?_⟩
          refine s_X12_finding hF (v := (-1000002)) (by decide) ?_
          have u19 : (I4 238 2) = (I 238 2) := hW7 _ _ (by first | decide | omega)
          have a20 : -2147483648 ≤ (I 238 2) ∧ (I 238 2) < 2147483648 := hA.1 _ _
          have a21 : -2147483648 ≤ (I4 238 2) ∧ (I4 238 2) < 2147483648 := hA6.1 _ _
          exact ⟨rfl, fun hv hA' => hQ _ _ (Rg.u hR5 (Pr_f rfl)) hA' (hv _ rfl) (fun ka ja hk => ((uI_o (show ¬ (ka = 238 ∧ ja = 2) from by first | (intro e; obtain ⟨rfl, rfl⟩ := e; exact hk (by decide)) | omega))).trans ((hW7 ka ja (by omega))))⟩
      ·
        refine ⟨fun c => absurd (show ((0 : Int) = 0) from by decide) c, fun _ => ?_⟩
        refine ⟨⟨_, rfl, (by decide)⟩, ?_⟩
        refine s_X12_finding hF (v := (-1000001)) (by decide) ?_
        exact ⟨rfl, fun hv hA' => hQ _ _ (Rg.u hR (Pr_f rfl)) hA' (hv _ rfl) (fun ka ja hk => (uI_o (show ¬ (ka = 238 ∧ ja = 1) from by first | (intro e; obtain ⟨rfl, rfl⟩ := e; exact hk (by decide)) | omega)))⟩
    ·
      refine ⟨fun _ => ?_, fun c => absurd (show ((0 : Int) = 0) from by decide) c⟩
      refine ⟨⟨_, rfl, (by decide)⟩, ?_⟩
      refine s_X12_finding hF (v := (-1000001)) (by decide) ?_
      exact ⟨rfl, fun hv hA' => hQ _ _ (Rg.u hR (Pr_f rfl)) hA' (hv _ rfl) (fun ka ja hk => (uI_o (show ¬ (ka = 238 ∧ ja = 1) from by first | (intro e; obtain ⟨rfl, rfl⟩ := e; exact hk (by decide)) | omega)))⟩
  ·
    refine ⟨fun _ => ?_, fun c => absurd (show ((0 : Int) = 0) from by decide) c⟩
    refine ⟨⟨_, rfl, (by decide)⟩, ?_⟩
    refine s_X12_finding hF (v := (-1000001)) (by decide) ?_
    exact ⟨rfl, fun hv hA' => hQ _ _ (Rg.u hR (Pr_f rfl)) hA' (hv _ rfl) (fun ka ja hk => (uI_o (show ¬ (ka = 238 ∧ ja = 1) from by first | (intro e; obtain ⟨rfl, rfl⟩ := e; exact hk (by decide)) | omega)))⟩
theorem r_few_l (hF : FS F) (hR : Rg I) {v0 v1 : Int}  (hQ : ∀ (r : Int) (I' : pI), Rg I' → (∀ k j, ¬ (k = 238) → I' k j = I k j) → Q (some (vi r)) F I') : ∀ (mz : Nat) (n : Int) (J : pI), Rg J → (∀ k j, ¬ (k = 238) → J k j = I k j) → ((1 : Int) ≤ n) → ((n : Int) ≤ 13) → (13 - n).toNat < mz → GoN G (d + 1) kX12_few NP NP 17 [some (vr 235), some (vi v0), some (vi v1), some (vi n)] [] F J Q := by
  intro mz
  induction mz with
  | zero => intro n J hJ hV _ _ h; exact absurd h (Nat.not_lt_zero _)
  | succ mz ih =>
    intro n J hJ hV c100 c101 hm
    refine GoN_in (fun hok hA => ?_)
    have iiv0 : -2147483648 ≤ v0 ∧ v0 < 2147483648 := hok 1 _ rfl
    have iiv1 : -2147483648 ≤ v1 ∧ v1 < 2147483648 := hok 2 _ rfl
    have iin : -2147483648 ≤ n ∧ n < 2147483648 := hok 3 _ rfl
    refine Go_wp (by decide) ckX12_few [17] ?_
    refine ⟨fun (c1 : ((12 : Int) < n)) => ?_, fun (c1 : (¬ ((12 : Int) < n))) => ?_⟩
    ·
      refine ⟨⟨_, rfl, (by decide)⟩, ?_⟩
      refine s_X12_finding hF (v := (-1000002)) (by decide) ?_
      exact ⟨rfl, hQ _ _ (Rg.u hJ (Pr_f rfl)) (fun ka ja hk => ((uI_o (show ¬ (ka = 238 ∧ ja = 2) from by first | (intro e; obtain ⟨rfl, rfl⟩ := e; exact hk (by decide)) | omega))).trans ((hV ka ja (by omega))))⟩
    ·
      refine r_rankOf  hF hJ (fun vr2 hr3 q4 => ?_)
      have hr3 : -2147483648 ≤ vr2 ∧ vr2 < 2147483648 := hr3
      have q4 : 0 ≤ vr2 ∧ (vr2 ≤ (n : Int) ∨ vr2 = 0) := q4
      refine ⟨fun (c5 : ((vr2 : Int) ≤ 0)) => ?_, fun (c5 : (¬ ((vr2 : Int) ≤ 0))) => ?_⟩
      ·
        have n6 : (wr (n + 1)) = n + 1 := wr_id (show -2147483648 ≤ (n + 1 : Int) ∧ (n + 1 : Int) < 2147483648 from by omega)
        exact ih (wr (n + 1)) J hJ (fun ka ja hk => (hV ka ja (by omega))) (show (1 : Int) ≤ (wr (n + 1)) from by first | with_reducible assumption | omega | (simp only [wr, wl] at *; omega)) (show ((wr (n + 1)) : Int) ≤ 13 from by first | with_reducible assumption | omega | (simp only [wr, wl] at *; omega)) (show (13 - (wr (n + 1))).toNat < mz from by omega)
      ·
        exact ⟨rfl, hQ _ _ hJ (fun ka ja hk => (hV ka ja (by omega)))⟩
theorem r_few (hF : FS F) (hR : Rg I) {v0 v1 : Int}  (hQ : ∀ (r : Int) (I' : pI), Rg I' → AR I' → iR r → (∀ k j, ¬ (k = 238) → I' k j = I k j) → Q (some (vi r)) F I') : CallN G (d + 2) kX12_few [vr 235, vi v0, vi v1] NP F I Q := by
  refine CallN_in (fun hok hA => CallN_out ?_)
  have iv0 : -2147483648 ≤ v0 ∧ v0 < 2147483648 := hok (vi v0) (by simp)
  have iv1 : -2147483648 ≤ v1 ∧ v1 < 2147483648 := hok (vi v1) (by simp)
  refine Call_wp (lv := [some (vr 235), some (vi v0), some (vi v1), none]) (by decide) ckX12_few [17] rfl rfl ?_
  refine s_X12_areTenths (fun (w1 : ((1 ≤ v0 ∧ v0 ≤ 9) ∧ (1 ≤ v1 ∧ v1 ≤ 9))) => ?_) (fun (w1 : ¬ ((1 ≤ v0 ∧ v0 ≤ 9) ∧ (1 ≤ v1 ∧ v1 ≤ 9))) => ?_)
  ·
    refine ⟨fun _ => ?_, fun c => absurd c (show (¬ (1 : Int) = 0) from by decide)⟩
    refine r_few_l hF hR  (fun r I' g1 g2 hv hA' => hQ _ _ g1 hA' (hv _ rfl) g2) _ 1 I hR (fun _ _ _ => rfl) (show (1 : Int) ≤ (1 : Int) from Int.le_refl _) (show ((1 : Int) : Int) ≤ 13 from by first | with_reducible assumption | omega | (simp only [wr, wl] at *; omega)) (Nat.lt_succ_self _)
  ·
    refine ⟨fun c => absurd (show ((0 : Int) = 0) from by decide) c, fun _ => ?_⟩
    refine ⟨⟨_, rfl, (by decide)⟩, ?_⟩
    refine s_X12_finding hF (v := (-1000001)) (by decide) ?_
    exact ⟨rfl, fun hv hA' => hQ _ _ (Rg.u hR (Pr_f rfl)) hA' (hv _ rfl) (fun ka ja hk => (uI_o (show ¬ (ka = 238 ∧ ja = 1) from by first | (intro e; obtain ⟨rfl, rfl⟩ := e; exact hk (by decide)) | omega)))⟩
theorem r_ledOf_l (hF : FS F) (hR : Rg I) {v0 v1 : Int}  (hQ : ∀ (r : Int) , Q (some (vi r)) F I) : ∀ (mz : Nat) (le m : Int) , ((0 : Int) ≤ m) → ((m : Int) ≤ 5) → (m).toNat < mz → GoN G (d + 1) kX12_ledOf NP NP 6 [some (vr 235), some (vi v0), some (vi v1), some (vl le), none, some (vi m)] [] F I Q := by
  intro mz
  induction mz with
  | zero => intro le m _ _ h; exact absurd h (Nat.not_lt_zero _)
  | succ mz ih =>
    intro le m c100 c101 hm
    refine GoN_in (fun hok hA => ?_)
    have iiv0 : -2147483648 ≤ v0 ∧ v0 < 2147483648 := hok 1 _ rfl
    have iiv1 : -2147483648 ≤ v1 ∧ v1 < 2147483648 := hok 2 _ rfl
    have iile : -9223372036854775808 ≤ le ∧ le < 9223372036854775808 := hok 3 _ rfl
    have iim : -2147483648 ≤ m ∧ m < 2147483648 := hok 5 _ rfl
    refine Go_wp (by decide) ckX12_ledOf [6] ?_
    refine ⟨fun (c1 : ((m : Int) ≤ 0)) => ?_, fun (c1 : (¬ ((m : Int) ≤ 0))) => ?_⟩
    ·
      exact ⟨rfl, hQ _⟩
    ·
      refine ⟨⟨_, rfl, (by decide)⟩, ?_⟩
      refine r_meter (p := m) (f := 1) hF (j := (Int.toNat (17 + 4 * m))) (by omega) (by omega) (by omega) (fun w2 hw3 => ?_)
      have hw3 : w2 = (I 236 (Int.toNat (17 + 4 * m))) := hw3
      refine ⟨⟨_, rfl, (by decide)⟩, ?_⟩
      refine r_meter (p := m) (f := 2) hF (j := (Int.toNat (18 + 4 * m))) (by omega) (by omega) (by omega) (fun w4 hw5 => ?_)
      have r6 : 1 ≤ (I 236 (Int.toNat (18 + 4 * m))) ∧ (I 236 (Int.toNat (18 + 4 * m))) ≤ 99 := Pn_m2 (p := (Int.toNat m)) (by omega) (by omega) (hR.n (Int.toNat (18 + 4 * m)) (by omega))
      have hw5 : w4 = (I 236 (Int.toNat (18 + 4 * m))) := hw5
      refine ⟨(show ¬ (w4 : Int) = 0 from by first | omega | (simp only [wr, wl] at *; omega)), ?_⟩
      have a8 : -2147483648 ≤ (I 236 (Int.toNat (17 + 4 * m))) ∧ (I 236 (Int.toNat (17 + 4 * m))) < 2147483648 := hA.1 _ _
      refine j_minL (fun w9 h10 h11 h12 => ?_)
      refine ⟨⟨_, rfl, (by decide)⟩, ?_⟩
      refine r_meter (p := m) (f := 0) hF (j := (Int.toNat (16 + 4 * m))) (by omega) (by omega) (by omega) (fun w13 hw14 => ?_)
      have r15 : (I 236 (Int.toNat (16 + 4 * m))) = 0 ∨ (I 236 (Int.toNat (16 + 4 * m))) < (Int.toNat m : Int) := Pn_mc (p := (Int.toNat m)) (by omega) (by omega) (hR.n (Int.toNat (16 + 4 * m)) (by omega))
      have r16 : 0 ≤ (I 236 (Int.toNat (16 + 4 * m))) ∧ (I 236 (Int.toNat (16 + 4 * m))) ≤ 5 := Pn_m0 (p := (Int.toNat m)) (by omega) (by omega) (hR.n (Int.toNat (16 + 4 * m)) (by omega))
      have hw14 : w13 = (I 236 (Int.toNat (16 + 4 * m))) := hw14
      exact ih w9 w13  (show (0 : Int) ≤ w13 from by first | with_reducible assumption | omega | (simp only [wr, wl] at *; omega)) (show (w13 : Int) ≤ 5 from by first | with_reducible assumption | omega | (simp only [wr, wl] at *; omega)) (show (w13).toNat < mz from by omega)
theorem r_ledOf (hF : FS F) (hR : Rg I) {v0 v1 : Int} (hp : 0 ≤ v0 ∧ v0 ≤ 5) (hQ : ∀ r : Int, iR r → Q (some (vi r)) F I) : CallN G (d + 1) kX12_ledOf [vr 235, vi v0, vi v1] NP F I Q := by
  refine CallN_in (fun hok hA => CallN_out ?_)
  have iv0 : -2147483648 ≤ v0 ∧ v0 < 2147483648 := hok (vi v0) (by simp)
  have iv1 : -2147483648 ≤ v1 ∧ v1 < 2147483648 := hok (vi v1) (by simp)
  refine Call_wp (lv := [some (vr 235), some (vi v0), some (vi v1), none, none, none]) (by decide) ckX12_ledOf [6] rfl rfl ?_
  refine r_ledOf_l hF hR  (fun r hv hA' => hQ _ (hv _ rfl)) _ v1 v0  (show (0 : Int) ≤ v0 from by first | with_reducible assumption | omega | (simp only [wr, wl] at *; omega)) (show (v0 : Int) ≤ 5 from by first | with_reducible assumption | omega | (simp only [wr, wl] at *; omega)) (Nat.lt_succ_self _)
theorem r_led_l (hF : FS F) (hR : Rg I) {v0 v1 v2 : Int} (hp : 0 ≤ v0 ∧ v0 ≤ 5) (hQ : ∀ (r : Int) , Q (some (vi r)) F I) : ∀ (mz : Nat) (db m : Int) , ((0 : Int) ≤ m) → ((m : Int) ≤ 5) → (m).toNat < mz → GoN G (d + 2) kX12_led NP NP 39 [some (vr 235), some (vi v0), some (vi v1), some (vi v2), some (vl db), none, some (vi m)] [] F I Q := by
  intro mz
  induction mz with
  | zero => intro db m _ _ h; exact absurd h (Nat.not_lt_zero _)
  | succ mz ih =>
    intro db m c100 c101 hm
    refine GoN_in (fun hok hA => ?_)
    have iiv0 : -2147483648 ≤ v0 ∧ v0 < 2147483648 := hok 1 _ rfl
    have iiv1 : -2147483648 ≤ v1 ∧ v1 < 2147483648 := hok 2 _ rfl
    have iiv2 : -2147483648 ≤ v2 ∧ v2 < 2147483648 := hok 3 _ rfl
    have iidb : -9223372036854775808 ≤ db ∧ db < 9223372036854775808 := hok 4 _ rfl
    have iim : -2147483648 ≤ m ∧ m < 2147483648 := hok 6 _ rfl
    refine Go_wp (by decide) ckX12_led [39] ?_
    refine ⟨fun (c1 : ((m : Int) ≤ 0)) => ?_, fun (c1 : (¬ ((m : Int) ≤ 0))) => ?_⟩
    ·
      refine ⟨fun (c2 : (¬ (v2 : Int) = 0)) => ?_, fun (c2 : ((v2 : Int) = 0)) => ?_⟩
      ·
        refine j_minL (fun w3 h4 h5 h6 => ?_)
        exact ⟨rfl, hQ _⟩
      ·
        refine ⟨⟨_, rfl, (by decide)⟩, ?_⟩
        refine r_ledOf (v0 := v0) (v1 := v1) hF hR (by omega) (fun vr7 hr8 => ?_)
        have hr8 : -2147483648 ≤ vr7 ∧ vr7 < 2147483648 := hr8
        exact ⟨rfl, hQ _⟩
    ·
      refine ⟨⟨_, rfl, (by decide)⟩, ?_⟩
      refine r_meter (p := m) (f := 3) hF (j := (Int.toNat (19 + 4 * m))) (by omega) (by omega) (by omega) (fun w9 hw10 => ?_)
      have hw10 : w9 = (I 236 (Int.toNat (19 + 4 * m))) := hw10
      refine ⟨⟨_, rfl, (by decide)⟩, ?_⟩
      have a11 : -2147483648 ≤ (I 236 (Int.toNat (19 + 4 * m))) ∧ (I 236 (Int.toNat (19 + 4 * m))) < 2147483648 := hA.1 _ _
      refine r_ledOf (v0 := m) (v1 := w9) hF hR (by omega) (fun vr12 hr13 => ?_)
      have hr13 : -2147483648 ≤ vr12 ∧ vr12 < 2147483648 := hr13
      refine ⟨⟨_, rfl, (by decide)⟩, ?_⟩
      refine r_meter (p := m) (f := 0) hF (j := (Int.toNat (16 + 4 * m))) (by omega) (by omega) (by omega) (fun w14 hw15 => ?_)
      have r16 : (I 236 (Int.toNat (16 + 4 * m))) = 0 ∨ (I 236 (Int.toNat (16 + 4 * m))) < (Int.toNat m : Int) := Pn_mc (p := (Int.toNat m)) (by omega) (by omega) (hR.n (Int.toNat (16 + 4 * m)) (by omega))
      have r17 : 0 ≤ (I 236 (Int.toNat (16 + 4 * m))) ∧ (I 236 (Int.toNat (16 + 4 * m))) ≤ 5 := Pn_m0 (p := (Int.toNat m)) (by omega) (by omega) (hR.n (Int.toNat (16 + 4 * m)) (by omega))
      have hw15 : w14 = (I 236 (Int.toNat (16 + 4 * m))) := hw15
      exact ih (wl (db + vr12)) w14  (show (0 : Int) ≤ w14 from by first | with_reducible assumption | omega | (simp only [wr, wl] at *; omega)) (show (w14 : Int) ≤ 5 from by first | with_reducible assumption | omega | (simp only [wr, wl] at *; omega)) (show (w14).toNat < mz from by omega)
theorem r_led (hF : FS F) (hR : Rg I) {v0 v1 v2 : Int}  (hQ : ∀ (r : Int) (I' : pI), Rg I' → AR I' → iR r → (∀ k j, ¬ (k = 238) → I' k j = I k j) → Q (some (vi r)) F I') : CallN G (d + 2) kX12_led [vr 235, vi v0, vi v1, vi v2] NP F I Q := by
  refine CallN_in (fun hok hA => CallN_out ?_)
  have iv0 : -2147483648 ≤ v0 ∧ v0 < 2147483648 := hok (vi v0) (by simp)
  have iv1 : -2147483648 ≤ v1 ∧ v1 < 2147483648 := hok (vi v1) (by simp)
  have iv2 : -2147483648 ≤ v2 ∧ v2 < 2147483648 := hok (vi v2) (by simp)
  refine Call_wp (lv := [some (vr 235), some (vi v0), some (vi v1), some (vi v2), none, none, none]) (by decide) ckX12_led [39] rfl rfl ?_
  refine s_X12_isMeter (fun (w1 : ((0 : Int) ≤ v0 ∧ (v0 : Int) ≤ 5)) => ?_) (fun (w1 : ¬ ((0 : Int) ≤ v0 ∧ (v0 : Int) ≤ 5)) => ?_)
  ·
    refine ⟨fun c => absurd c (show (¬ ((1 : Int) = 0)) from by decide), fun _ => ?_⟩
    refine s_X12_within (fun (w2 : ((0 : Int) ≤ v1 ∧ (v1 : Int) ≤ 99999)) => ?_) (fun (w2 : ¬ ((0 : Int) ≤ v1 ∧ (v1 : Int) ≤ 99999)) => ?_)
    ·
      refine ⟨fun c => absurd c (show (¬ ((1 : Int) = 0)) from by decide), fun _ => ?_⟩
      refine s_X12_within (fun (w3 : ((0 : Int) ≤ v2 ∧ (v2 : Int) ≤ 1)) => ?_) (fun (w3 : ¬ ((0 : Int) ≤ v2 ∧ (v2 : Int) ≤ 1)) => ?_)
      ·
        refine ⟨fun _ => ?_, fun c => absurd c (show (¬ (1 : Int) = 0) from by decide)⟩
        refine r_led_l hF hR (by omega) (fun r hv hA' => hQ _ _ hR hA' (hv _ rfl) (fun _ _ _ => rfl)) _ 0 v0  (show (0 : Int) ≤ v0 from by first | with_reducible assumption | omega | (simp only [wr, wl] at *; omega)) (show (v0 : Int) ≤ 5 from by first | with_reducible assumption | omega | (simp only [wr, wl] at *; omega)) (Nat.lt_succ_self _)
      ·
        refine ⟨fun c => absurd (show ((0 : Int) = 0) from by decide) c, fun _ => ?_⟩
        refine ⟨⟨_, rfl, (by decide)⟩, ?_⟩
        refine s_X12_finding hF (v := (-1000001)) (by decide) ?_
        exact ⟨rfl, fun hv hA' => hQ _ _ (Rg.u hR (Pr_f rfl)) hA' (hv _ rfl) (fun ka ja hk => (uI_o (show ¬ (ka = 238 ∧ ja = 1) from by first | (intro e; obtain ⟨rfl, rfl⟩ := e; exact hk (by decide)) | omega)))⟩
    ·
      refine ⟨fun _ => ?_, fun c => absurd (show ((0 : Int) = 0) from by decide) c⟩
      refine ⟨⟨_, rfl, (by decide)⟩, ?_⟩
      refine s_X12_finding hF (v := (-1000001)) (by decide) ?_
      exact ⟨rfl, fun hv hA' => hQ _ _ (Rg.u hR (Pr_f rfl)) hA' (hv _ rfl) (fun ka ja hk => (uI_o (show ¬ (ka = 238 ∧ ja = 1) from by first | (intro e; obtain ⟨rfl, rfl⟩ := e; exact hk (by decide)) | omega)))⟩
  ·
    refine ⟨fun _ => ?_, fun c => absurd (show ((0 : Int) = 0) from by decide) c⟩
    refine ⟨⟨_, rfl, (by decide)⟩, ?_⟩
    refine s_X12_finding hF (v := (-1000001)) (by decide) ?_
    exact ⟨rfl, fun hv hA' => hQ _ _ (Rg.u hR (Pr_f rfl)) hA' (hv _ rfl) (fun ka ja hk => (uI_o (show ¬ (ka = 238 ∧ ja = 1) from by first | (intro e; obtain ⟨rfl, rfl⟩ := e; exact hk (by decide)) | omega)))⟩
theorem r_entryIs (hF : FS F) (hR : Rg I) {v0 v1 : Int}  (hQ : ∀ (r : Int) (I' : pI), Rg I' → AR I' → iR r → (∀ k j, ¬ (k = 238) → I' k j = I k j) → Q (some (vi r)) F I') : CallN G (d + 2) kX12_entryIs [vr 235, vi v0, vi v1] NP F I Q := by
  refine CallN_in (fun hok hA => CallN_out ?_)
  have iv0 : -2147483648 ≤ v0 ∧ v0 < 2147483648 := hok (vi v0) (by simp)
  have iv1 : -2147483648 ≤ v1 ∧ v1 < 2147483648 := hok (vi v1) (by simp)
  refine Call_wp (lv := [some (vr 235), some (vi v0), some (vi v1), none]) (by decide) ckX12_entryIs [] rfl rfl ?_
  refine ⟨⟨_, rfl, (by decide)⟩, ?_⟩
  have r1 : 0 ≤ (I 236 1) ∧ (I 236 1) ≤ 20 := Rg.n1 hR
  refine s_X12_is hF (w := 1) (by decide) (show 0 ≤ (I 236 1) ∧ (I 236 1) < 1000000 from by omega) (fun (w2 : (0 ≤ v0 ∧ v0 < (I 236 1))) => ?_) (fun (w2 : ¬ (0 ≤ v0 ∧ v0 < (I 236 1))) => ?_)
  ·
    refine ⟨fun c => absurd c (show (¬ ((1 : Int) = 0)) from by decide), fun _ => ?_⟩
    refine s_X12_within (fun (w3 : ((0 : Int) ≤ v1 ∧ (v1 : Int) ≤ 3)) => ?_) (fun (w3 : ¬ ((0 : Int) ≤ v1 ∧ (v1 : Int) ≤ 3)) => ?_)
    ·
      refine ⟨fun _ => ?_, fun c => absurd c (show (¬ (1 : Int) = 0) from by decide)⟩
      refine ⟨⟨_, rfl, (by decide)⟩, ?_⟩
      have n4 : (wr (2 + v1)) = 2 + v1 := wr_id (show -2147483648 ≤ (2 + v1 : Int) ∧ (2 + v1 : Int) < 2147483648 from by omega)
      refine r_entry (p := v0) (f := (wr (2 + v1))) hF (j := (Int.toNat (186 + 6 * v0 + v1))) (by omega) (by omega) (by omega) (fun w5 hw6 => ?_)
      have hw6 : w5 = (I 236 (Int.toNat (186 + 6 * v0 + v1))) := hw6
      refine ⟨fun (c7 : (¬ (v1 : Int) = 3)) => ?_, fun (c7 : ((v1 : Int) = 3)) => ?_⟩
      ·
        exact ⟨rfl, fun hv hA' => hQ _ _ hR hA' (hv _ rfl) (fun _ _ _ => rfl)⟩
      ·
        have a8 : -2147483648 ≤ (I 236 (Int.toNat (186 + 6 * v0 + v1))) ∧ (I 236 (Int.toNat (186 + 6 * v0 + v1))) < 2147483648 := hA.1 _ _
        refine ⟨fun (c9 : ((0 : Int) ≤ w5)) => ?_, fun (c9 : (¬ ((0 : Int) ≤ w5))) => ?_⟩
        ·
          exact ⟨rfl, fun hv hA' => hQ _ _ hR hA' (hv _ rfl) (fun _ _ _ => rfl)⟩
        ·
          refine ⟨⟨_, rfl, (by decide)⟩, ?_⟩
          refine s_X12_finding hF (v := (-1000002)) (by decide) ?_
          exact ⟨rfl, fun hv hA' => hQ _ _ (Rg.u hR (Pr_f rfl)) hA' (hv _ rfl) (fun ka ja hk => (uI_o (show ¬ (ka = 238 ∧ ja = 2) from by first | (intro e; obtain ⟨rfl, rfl⟩ := e; exact hk (by decide)) | omega)))⟩
    ·
      refine ⟨fun c => absurd (show ((0 : Int) = 0) from by decide) c, fun _ => ?_⟩
      refine ⟨⟨_, rfl, (by decide)⟩, ?_⟩
      refine s_X12_finding hF (v := (-1000001)) (by decide) ?_
      exact ⟨rfl, fun hv hA' => hQ _ _ (Rg.u hR (Pr_f rfl)) hA' (hv _ rfl) (fun ka ja hk => (uI_o (show ¬ (ka = 238 ∧ ja = 1) from by first | (intro e; obtain ⟨rfl, rfl⟩ := e; exact hk (by decide)) | omega)))⟩
  ·
    refine ⟨fun _ => ?_, fun c => absurd (show ((0 : Int) = 0) from by decide) c⟩
    refine ⟨⟨_, rfl, (by decide)⟩, ?_⟩
    refine s_X12_finding hF (v := (-1000001)) (by decide) ?_
    exact ⟨rfl, fun hv hA' => hQ _ _ (Rg.u hR (Pr_f rfl)) hA' (hv _ rfl) (fun ka ja hk => (uI_o (show ¬ (ka = 238 ∧ ja = 1) from by first | (intro e; obtain ⟨rfl, rfl⟩ := e; exact hk (by decide)) | omega)))⟩
theorem r_book_l (hF : FS F) (hR : Rg I) {v0 v1 : Int}  (hQ : ∀ (r : Int) (I' : pI), Rg I' → (∀ k j, ¬ (k = 238) → I' k j = I k j) → Q (some (vi r)) F I') : ∀ (mz : Nat) (la e : Int) (J : pI), Rg J → (∀ k j, ¬ (k = 238) → J k j = I k j) → ((0 : Int) ≤ e) → ((e : Int) ≤ 20) → (20 - e).toNat < mz → GoN G (d + 1) kX12_book NP NP 26 [some (vr 235), some (vi v0), some (vi v1), some (vi la), some (vi e)] [] F J Q := by
  intro mz
  induction mz with
  | zero => intro la e J hJ hV _ _ h; exact absurd h (Nat.not_lt_zero _)
  | succ mz ih =>
    intro la e J hJ hV c100 c101 hm
    refine GoN_in (fun hok hA => ?_)
    have iiv0 : -2147483648 ≤ v0 ∧ v0 < 2147483648 := hok 1 _ rfl
    have iiv1 : -2147483648 ≤ v1 ∧ v1 < 2147483648 := hok 2 _ rfl
    have iila : -2147483648 ≤ la ∧ la < 2147483648 := hok 3 _ rfl
    have iie : -2147483648 ≤ e ∧ e < 2147483648 := hok 4 _ rfl
    refine Go_wp (by decide) ckX12_book [26] ?_
    refine ⟨_, rfl, (by decide), ?_⟩
    refine fun w0 hw0 => ?_; obtain rfl : w0 = some 236 := hw0.symm.trans (FS.g hF rfl)
    refine ⟨_, rfl, (by decide), (by decide), (by decide), ?_⟩
    have r1 : 0 ≤ (I 236 1) ∧ (I 236 1) ≤ 20 := Rg.n1 hR
    have u2 : (J 236 1) = (I 236 1) := hV _ _ (by first | decide | omega)
    have a3 : -2147483648 ≤ (J 236 1) ∧ (J 236 1) < 2147483648 := hA.1 _ _
    have r4 : 0 ≤ (J 236 1) ∧ (J 236 1) ≤ 20 := Rg.n1 hJ
    refine ⟨fun (c5 : (((J 236 1) : Int) ≤ e)) => ?_, fun (c5 : (¬ (((J 236 1) : Int) ≤ e))) => ?_⟩
    ·
      refine ⟨fun (c6 : ((0 : Int) ≤ la)) => ?_, fun (c6 : (¬ ((0 : Int) ≤ la))) => ?_⟩
      ·
        exact ⟨rfl, hQ _ _ hJ (fun ka ja hk => (hV ka ja (by omega)))⟩
      ·
        refine ⟨⟨_, rfl, (by decide)⟩, ?_⟩
        refine s_X12_finding hF (v := (-1000002)) (by decide) ?_
        exact ⟨rfl, hQ _ _ (Rg.u hJ (Pr_f rfl)) (fun ka ja hk => ((uI_o (show ¬ (ka = 238 ∧ ja = 2) from by first | (intro e; obtain ⟨rfl, rfl⟩ := e; exact hk (by decide)) | omega))).trans ((hV ka ja (by omega))))⟩
    ·
      refine ⟨⟨_, rfl, (by decide)⟩, ?_⟩
      refine r_entry (p := e) (f := 0) hF (j := (Int.toNat (184 + 6 * e))) (by omega) (by omega) (by omega) (fun w7 hw8 => ?_)
      have u9 : (J 236 (Int.toNat (184 + 6 * e))) = (I 236 (Int.toNat (184 + 6 * e))) := hV _ _ (by first | decide | omega)
      have a10 : -2147483648 ≤ (J 236 (Int.toNat (184 + 6 * e))) ∧ (J 236 (Int.toNat (184 + 6 * e))) < 2147483648 := hA.1 _ _
      have hw8 : w7 = (J 236 (Int.toNat (184 + 6 * e))) := hw8
      refine ⟨fun (c12 : (¬ (w7 : Int) = v0)) => ?_, fun (c12 : ((w7 : Int) = v0)) => ?_⟩
      ·
        have n13 : (wr (e + 1)) = e + 1 := wr_id (show -2147483648 ≤ (e + 1 : Int) ∧ (e + 1 : Int) < 2147483648 from by omega)
        exact ih la (wr (e + 1)) J hJ (fun ka ja hk => (hV ka ja (by omega))) (show (0 : Int) ≤ (wr (e + 1)) from by first | with_reducible assumption | omega | (simp only [wr, wl] at *; omega)) (show ((wr (e + 1)) : Int) ≤ 20 from by first | with_reducible assumption | omega | (simp only [wr, wl] at *; omega)) (show (20 - (wr (e + 1))).toNat < mz from by omega)
      ·
        refine ⟨⟨_, rfl, (by decide)⟩, ?_⟩
        refine r_entry (p := e) (f := 1) hF (j := (Int.toNat (185 + 6 * e))) (by omega) (by omega) (by omega) (fun w14 hw15 => ?_)
        have u16 : (J 236 (Int.toNat (185 + 6 * e))) = (I 236 (Int.toNat (185 + 6 * e))) := hV _ _ (by first | decide | omega)
        have a17 : -2147483648 ≤ (J 236 (Int.toNat (185 + 6 * e))) ∧ (J 236 (Int.toNat (185 + 6 * e))) < 2147483648 := hA.1 _ _
        have hw15 : w14 = (J 236 (Int.toNat (185 + 6 * e))) := hw15
        refine ⟨fun (c19 : (¬ (w14 : Int) = v1)) => ?_, fun (c19 : ((w14 : Int) = v1)) => ?_⟩
        ·
          have n20 : (wr (e + 1)) = e + 1 := wr_id (show -2147483648 ≤ (e + 1 : Int) ∧ (e + 1 : Int) < 2147483648 from by omega)
          exact ih la (wr (e + 1)) J hJ (fun ka ja hk => (hV ka ja (by omega))) (show (0 : Int) ≤ (wr (e + 1)) from by first | with_reducible assumption | omega | (simp only [wr, wl] at *; omega)) (show ((wr (e + 1)) : Int) ≤ 20 from by first | with_reducible assumption | omega | (simp only [wr, wl] at *; omega)) (show (20 - (wr (e + 1))).toNat < mz from by omega)
        ·
          refine ⟨⟨_, rfl, (by decide)⟩, ?_⟩
          refine r_entry (p := e) (f := 5) hF (j := (Int.toNat (189 + 6 * e))) (by omega) (by omega) (by omega) (fun w21 hw22 => ?_)
          have u23 : (J 236 (Int.toNat (189 + 6 * e))) = (I 236 (Int.toNat (189 + 6 * e))) := hV _ _ (by first | decide | omega)
          have a24 : -2147483648 ≤ (J 236 (Int.toNat (189 + 6 * e))) ∧ (J 236 (Int.toNat (189 + 6 * e))) < 2147483648 := hA.1 _ _
          have hw22 : w21 = (J 236 (Int.toNat (189 + 6 * e))) := hw22
          refine ⟨fun (c26 : ((0 : Int) ≤ w21)) => ?_, fun (c26 : (¬ ((0 : Int) ≤ w21))) => ?_⟩
          ·
            have n27 : (wr (e + 1)) = e + 1 := wr_id (show -2147483648 ≤ (e + 1 : Int) ∧ (e + 1 : Int) < 2147483648 from by omega)
            exact ih la (wr (e + 1)) J hJ (fun ka ja hk => (hV ka ja (by omega))) (show (0 : Int) ≤ (wr (e + 1)) from by first | with_reducible assumption | omega | (simp only [wr, wl] at *; omega)) (show ((wr (e + 1)) : Int) ≤ 20 from by first | with_reducible assumption | omega | (simp only [wr, wl] at *; omega)) (show (20 - (wr (e + 1))).toNat < mz from by omega)
          ·
            have n28 : (wr (e + 1)) = e + 1 := wr_id (show -2147483648 ≤ (e + 1 : Int) ∧ (e + 1 : Int) < 2147483648 from by omega)
            exact ih e (wr (e + 1)) J hJ (fun ka ja hk => (hV ka ja (by omega))) (show (0 : Int) ≤ (wr (e + 1)) from by first | with_reducible assumption | omega | (simp only [wr, wl] at *; omega)) (show ((wr (e + 1)) : Int) ≤ 20 from by first | with_reducible assumption | omega | (simp only [wr, wl] at *; omega)) (show (20 - (wr (e + 1))).toNat < mz from by omega)
theorem r_book (hF : FS F) (hR : Rg I) {v0 v1 : Int}  (hQ : ∀ (r : Int) (I' : pI), Rg I' → AR I' → iR r → (∀ k j, ¬ (k = 238) → I' k j = I k j) → Q (some (vi r)) F I') : CallN G (d + 2) kX12_book [vr 235, vi v0, vi v1] NP F I Q := by
  refine CallN_in (fun hok hA => CallN_out ?_)
  have iv0 : -2147483648 ≤ v0 ∧ v0 < 2147483648 := hok (vi v0) (by simp)
  have iv1 : -2147483648 ≤ v1 ∧ v1 < 2147483648 := hok (vi v1) (by simp)
  refine Call_wp (lv := [some (vr 235), some (vi v0), some (vi v1), none, none]) (by decide) ckX12_book [26] rfl rfl ?_
  refine s_X12_isLot (fun (w1 : ((0 : Int) ≤ v0 ∧ (v0 : Int) ≤ 3)) => ?_) (fun (w1 : ¬ ((0 : Int) ≤ v0 ∧ (v0 : Int) ≤ 3)) => ?_)
  ·
    refine ⟨fun c => absurd c (show (¬ ((1 : Int) = 0)) from by decide), fun _ => ?_⟩
    refine s_X12_isLaw (fun (w2 : ((0 : Int) ≤ v1 ∧ (v1 : Int) ≤ 3)) => ?_) (fun (w2 : ¬ ((0 : Int) ≤ v1 ∧ (v1 : Int) ≤ 3)) => ?_)
    ·
      refine ⟨fun _ => ?_, fun c => absurd c (show (¬ (1 : Int) = 0) from by decide)⟩
      refine r_book_l hF hR  (fun r I' g1 g2 hv hA' => hQ _ _ g1 hA' (hv _ rfl) g2) _ (-1) 0 I hR (fun _ _ _ => rfl) (show (0 : Int) ≤ (0 : Int) from Int.le_refl _) (show ((0 : Int) : Int) ≤ 20 from by first | with_reducible assumption | omega | (simp only [wr, wl] at *; omega)) (Nat.lt_succ_self _)
    ·
      refine ⟨fun c => absurd (show ((0 : Int) = 0) from by decide) c, fun _ => ?_⟩
      refine ⟨⟨_, rfl, (by decide)⟩, ?_⟩
      refine s_X12_finding hF (v := (-1000001)) (by decide) ?_
      exact ⟨rfl, fun hv hA' => hQ _ _ (Rg.u hR (Pr_f rfl)) hA' (hv _ rfl) (fun ka ja hk => (uI_o (show ¬ (ka = 238 ∧ ja = 1) from by first | (intro e; obtain ⟨rfl, rfl⟩ := e; exact hk (by decide)) | omega)))⟩
  ·
    refine ⟨fun _ => ?_, fun c => absurd (show ((0 : Int) = 0) from by decide) c⟩
    refine ⟨⟨_, rfl, (by decide)⟩, ?_⟩
    refine s_X12_finding hF (v := (-1000001)) (by decide) ?_
    exact ⟨rfl, fun hv hA' => hQ _ _ (Rg.u hR (Pr_f rfl)) hA' (hv _ rfl) (fun ka ja hk => (uI_o (show ¬ (ka = 238 ∧ ja = 1) from by first | (intro e; obtain ⟨rfl, rfl⟩ := e; exact hk (by decide)) | omega)))⟩
end RO
