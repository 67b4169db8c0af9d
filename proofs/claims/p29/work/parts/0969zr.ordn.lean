/-! a lot's numbers by order, both sides'. Own work (scripts laid by wip/pm/gen34.py). -/
section ON11
variable {G : pG} {d : Nat} {F : pF} {I : pI} {Q : Option pV → pF → pI → Prop}
theorem c_ordn11_l (hF : FS F) (hR : Rg I) {v0 v1 : Int} (hc : I 1 1 ≤ 14) {SF LF : Nat → Nat → Int} {NF : Nat → Int} (hq : ∀ p : Nat, (p : Int) < I 1 1 → RDS I ((1 + 19 + 5 * p) + 2) (SF p) (LF p) (NF p)) {FN : Nat → Int} (hf : ∀ i : Nat, (i : Int) < I 1 1 → FN i = if I (1 + 19 + 5 * i) 1 = v0 then nmF (SF i) (LF i) (Int.toNat (NF i)) v1 else -1) (hn : ∀ i : Nat, ¬ (i : Int) < I 1 1 → FN i = -1) (hv : 0 ≤ v1 ∧ v1 ≤ 3) (hQ : ∀ (I' : pI), Rg I' → (∀ k j, ¬ (223 ≤ k ∧ k ≤ 225 ∨ (20 ≤ k ∧ k < 90 ∧ k % 5 = 2 ∧ 3 ≤ j)) → I' k j = I k j) → (ORC I' (OFs FN 14).1 (OFs FN 14).2.1 (OFs FN 14).2.2) → Q none F I') : ∀ (mz : Nat) (i : Int) (J : pI), Rg J → (∀ k j, ¬ (223 ≤ k ∧ k ≤ 225 ∨ (20 ≤ k ∧ k < 90 ∧ k % 5 = 2 ∧ 3 ≤ j)) → J k j = I k j) → ((0 : Int) ≤ i) → ((i : Int) ≤ 14) → (ORC J (OFs FN (Int.toNat i)).1 (OFs FN (Int.toNat i)).2.1 (OFs FN (Int.toNat i)).2.2) → (14 - i).toNat < mz → GoN G (d + 6) kX11_orderNumbers NP NP 9 [some (vr 0), some (vi v0), some (vi v1), some (vi i), none, none] [] F J Q := by
  intro mz
  induction mz with
  | zero => intro i J hJ hV _ _ _ h; exact absurd h (Nat.not_lt_zero _)
  | succ mz ih =>
    intro i J hJ hV cc100 cc101 cc102 hm
    refine GoN_in (fun hok hA => ?_)
    have iiv0 : -2147483648 ≤ v0 ∧ v0 < 2147483648 := hok 1 _ rfl
    have iiv1 : -2147483648 ≤ v1 ∧ v1 < 2147483648 := hok 2 _ rfl
    have iii : -2147483648 ≤ i ∧ i < 2147483648 := hok 3 _ rfl
    refine Go_wp (by decide) ckX11_orderNumbers [9] ?_
    refine ⟨fun (c1 : ((14 : Int) ≤ i)) => ?_, fun (c1 : (¬ ((14 : Int) ≤ i))) => ?_⟩
    ·
      exact ⟨rfl, hQ _ hJ (fun ka ja hk => (hV ka ja (by omega))) ((by
                              have h := cc102
                              rw [show Int.toNat i = 14 from by omega] at h
                              exact h))⟩
    ·
      refine ⟨_, rfl, (by decide), ?_⟩
      refine fun w0 hw0 => ?_; obtain rfl : w0 = some 1 := hw0.symm.trans (FS.g hF rfl)
      refine ⟨⟨_, rfl, (by decide)⟩, ?_⟩
      have u2 : (J 1 1) = (I 1 1) := hV _ _ (by first | decide | omega)
      have a3 : -2147483648 ≤ (J 1 1) ∧ (J 1 1) < 2147483648 := hA.1 _ _
      refine s_X8_pieceAt hF (S := 1) (Or.inl rfl) (fun (w4 : (0 ≤ i ∧ i < (J 1 1) ∧ i < 14)) => ?_) (fun (w4 : ¬ (0 ≤ i ∧ i < (J 1 1) ∧ i < 14)) => ?_)
      ·
        have hp5 : PP F (1 + 19 + 5 * Int.toNat i) := PP_of hF (by omega)
        refine ⟨_, hp5.1.1, (by have := hp5.2; show _ < 254; omega), ?_⟩
        have z6 : (J (1 + 19 + 5 * Int.toNat i) 1) = I (1 + 19 + 5 * Int.toNat i) 1 := hV (1 + 19 + 5 * Int.toNat i) 1 (by omega)
        have a7 : -2147483648 ≤ (J (1 + 19 + 5 * Int.toNat i) 1) ∧ (J (1 + 19 + 5 * Int.toNat i) 1) < 2147483648 := hA.1 _ _
        refine ⟨fun (c8 : (((J (1 + 19 + 5 * Int.toNat i) 1) : Int) = v0)) => ?_, fun (c8 : (¬ (((J (1 + 19 + 5 * Int.toNat i) 1) : Int) = v0))) => ?_⟩
        ·
          refine ⟨_, hp5.1.1, (by have := hp5.2; show _ < 254; omega), ?_⟩
          refine fun w0 hw0 => ?_; obtain rfl : w0 = some ((1 + 19 + 5 * Int.toNat i) + 2) := hw0.symm.trans hp5.1.2.2.2.2.1
          refine ⟨⟨_, hp5.r.1.1, (by have := hp5.r.2; show _ < 254; omega)⟩, ?_⟩
          refine c_nmb11 (v0 := v1) hF hJ hp5.r (RDS_f (hq (Int.toNat i) (by omega)) (fun ka ja hk => (hV ka ja (by omega)))) hv (fun vr9 I10 hR11 hA12 hr14 hW13 qr15 => ?_)
          have hr14 : -2147483648 ≤ vr9 ∧ vr9 < 2147483648 := hr14
          refine ⟨fun (c16 : ((vr9 : Int) < 0)) => ?_, fun (c16 : (¬ ((vr9 : Int) < 0))) => ?_⟩
          ·
            refine GoN_lv (lv' := [some (vr 0), some (vi v0), some (vi v1), some (vi (wr (i + 1))), none, none]) (LvLe.k (LvLe.k (LvLe.k (LvLe.k (LvLe.d (LvLe.d LvLe.n)))))) ?_
            have n17 : (wr (i + 1)) = i + 1 := wr_id (show -2147483648 ≤ (i + 1 : Int) ∧ (i + 1 : Int) < 2147483648 from by omega)
            exact ih (wr (i + 1)) I10 hR11 (fun ka ja hk => ((hW13 ka ja (by omega))).trans ((hV ka ja (by omega)))) (show (0 : Int) ≤ (wr (i + 1)) from by first | with_reducible assumption | omega | (simp only [wr, wl] at *; omega)) (show ((wr (i + 1)) : Int) ≤ 14 from by first | with_reducible assumption | omega | (simp only [wr, wl] at *; omega)) (show ORC I10 (OFs FN (Int.toNat (wr (i + 1)))).1 (OFs FN (Int.toNat (wr (i + 1)))).2.1 (OFs FN (Int.toNat (wr (i + 1)))).2.2 from (by
                              have f : ¬ 0 ≤ FN (Int.toNat i) := by
                                first
                                  | (rw [hn (Int.toNat i) (by omega)]; omega)
                                  | (rw [hf (Int.toNat i) (by omega), if_neg (by omega)]; omega)
                                  | (rw [hf (Int.toNat i) (by omega), if_pos (by omega), ← qr15]; omega)
                              rw [show Int.toNat (wr (i + 1)) = Int.toNat i + 1 from by omega, OFs_n (fn := FN) (i := Int.toNat i) f]
                              exact (ORC_f cc102 (fun ka ja h1 h2 => (hW13 ka ja (by omega)))))) (show (14 - (wr (i + 1))).toNat < mz from by omega)
          ·
            refine ⟨_, rfl, (by decide), ?_⟩
            refine fun w0 hw0 => ?_; obtain rfl : w0 = some 223 := hw0.symm.trans (FS.g hF rfl)
            refine ⟨⟨_, rfl, (by decide)⟩, ?_⟩
            refine c_ins11 (v0 := vr9) (v1 := i) hF hR11 (ORC_f cc102 (fun ka ja h1 h2 => (hW13 ka ja (by omega)))) (by have b := OFs_b (fn := FN) (Int.toNat i); omega) (fun I18 hR19 hA20 hW21 qr22 => ?_)
            refine GoN_lv (lv' := [some (vr 0), some (vi v0), some (vi v1), some (vi (wr (i + 1))), none, none]) (LvLe.k (LvLe.k (LvLe.k (LvLe.k (LvLe.d (LvLe.d LvLe.n)))))) ?_
            have n23 : (wr (i + 1)) = i + 1 := wr_id (show -2147483648 ≤ (i + 1 : Int) ∧ (i + 1 : Int) < 2147483648 from by omega)
            exact ih (wr (i + 1)) I18 hR19 (fun ka ja hk => ((hW21 ka ja (by omega))).trans (((hW13 ka ja (by omega))).trans ((hV ka ja (by omega))))) (show (0 : Int) ≤ (wr (i + 1)) from by first | with_reducible assumption | omega | (simp only [wr, wl] at *; omega)) (show ((wr (i + 1)) : Int) ≤ 14 from by first | with_reducible assumption | omega | (simp only [wr, wl] at *; omega)) (show ORC I18 (OFs FN (Int.toNat (wr (i + 1)))).1 (OFs FN (Int.toNat (wr (i + 1)))).2.1 (OFs FN (Int.toNat (wr (i + 1)))).2.2 from (by
                              have f : FN (Int.toNat i) = vr9 := (hf (Int.toNat i) (by omega)).trans (by rw [if_pos (by omega)]; exact qr15.symm)
                              rw [show Int.toNat (wr (i + 1)) = Int.toNat i + 1 from by omega, OFs_y (fn := FN) (i := Int.toNat i) (by omega), f, show ((Int.toNat i : Nat) : Int) = i from by omega]
                              exact qr22)) (show (14 - (wr (i + 1))).toNat < mz from by omega)
        ·
          refine ⟨fun _ => ?_, fun c => absurd (show (((-1) : Int) < 0) from by decide) c⟩
          refine GoN_lv (lv' := [some (vr 0), some (vi v0), some (vi v1), some (vi (wr (i + 1))), none, none]) (LvLe.k (LvLe.k (LvLe.k (LvLe.k (LvLe.d (LvLe.d LvLe.n)))))) ?_
          have n24 : (wr (i + 1)) = i + 1 := wr_id (show -2147483648 ≤ (i + 1 : Int) ∧ (i + 1 : Int) < 2147483648 from by omega)
          exact ih (wr (i + 1)) J hJ (fun ka ja hk => (hV ka ja (by omega))) (show (0 : Int) ≤ (wr (i + 1)) from by first | with_reducible assumption | omega | (simp only [wr, wl] at *; omega)) (show ((wr (i + 1)) : Int) ≤ 14 from by first | with_reducible assumption | omega | (simp only [wr, wl] at *; omega)) (show ORC J (OFs FN (Int.toNat (wr (i + 1)))).1 (OFs FN (Int.toNat (wr (i + 1)))).2.1 (OFs FN (Int.toNat (wr (i + 1)))).2.2 from (by
                              have f : ¬ 0 ≤ FN (Int.toNat i) := by
                                first
                                  | (rw [hn (Int.toNat i) (by omega)]; omega)
                                  | (rw [hf (Int.toNat i) (by omega), if_neg (by omega)]; omega)
                              rw [show Int.toNat (wr (i + 1)) = Int.toNat i + 1 from by omega, OFs_n (fn := FN) (i := Int.toNat i) f]
                              exact cc102)) (show (14 - (wr (i + 1))).toNat < mz from by omega)
      ·
        refine ⟨fun _ => ?_, fun c => absurd (show (((-1) : Int) < 0) from by decide) c⟩
        refine GoN_lv (lv' := [some (vr 0), some (vi v0), some (vi v1), some (vi (wr (i + 1))), none, none]) (LvLe.k (LvLe.k (LvLe.k (LvLe.k (LvLe.d (LvLe.d LvLe.n)))))) ?_
        have n25 : (wr (i + 1)) = i + 1 := wr_id (show -2147483648 ≤ (i + 1 : Int) ∧ (i + 1 : Int) < 2147483648 from by omega)
        exact ih (wr (i + 1)) J hJ (fun ka ja hk => (hV ka ja (by omega))) (show (0 : Int) ≤ (wr (i + 1)) from by first | with_reducible assumption | omega | (simp only [wr, wl] at *; omega)) (show ((wr (i + 1)) : Int) ≤ 14 from by first | with_reducible assumption | omega | (simp only [wr, wl] at *; omega)) (show ORC J (OFs FN (Int.toNat (wr (i + 1)))).1 (OFs FN (Int.toNat (wr (i + 1)))).2.1 (OFs FN (Int.toNat (wr (i + 1)))).2.2 from (by
                              have f : ¬ 0 ≤ FN (Int.toNat i) := by
                                first
                                  | (rw [hn (Int.toNat i) (by omega)]; omega)
                                  | (rw [hf (Int.toNat i) (by omega), if_neg (by omega)]; omega)
                              rw [show Int.toNat (wr (i + 1)) = Int.toNat i + 1 from by omega, OFs_n (fn := FN) (i := Int.toNat i) f]
                              exact cc102)) (show (14 - (wr (i + 1))).toNat < mz from by omega)
theorem c_ordn11 (hF : FS F) (hR : Rg I) {v0 v1 : Int} (hc : I 1 1 ≤ 14) {SF LF : Nat → Nat → Int} {NF : Nat → Int} (hq : ∀ p : Nat, (p : Int) < I 1 1 → RDS I ((1 + 19 + 5 * p) + 2) (SF p) (LF p) (NF p)) {FN : Nat → Int} (hf : ∀ i : Nat, (i : Int) < I 1 1 → FN i = if I (1 + 19 + 5 * i) 1 = v0 then nmF (SF i) (LF i) (Int.toNat (NF i)) v1 else -1) (hn : ∀ i : Nat, ¬ (i : Int) < I 1 1 → FN i = -1) (hv : 0 ≤ v1 ∧ v1 ≤ 3) (hQ : ∀ (I' : pI), Rg I' → AR I' → (∀ k j, ¬ (223 ≤ k ∧ k ≤ 225 ∨ (20 ≤ k ∧ k < 90 ∧ k % 5 = 2 ∧ 3 ≤ j)) → I' k j = I k j) → (ORC I' (OFs FN 14).1 (OFs FN 14).2.1 (OFs FN 14).2.2) → Q none F I') : CallN G (d + 6) kX11_orderNumbers [vr 0, vi v0, vi v1] NP F I Q := by
  refine CallN_in (fun hok hA => CallN_out ?_)
  have iv0 : -2147483648 ≤ v0 ∧ v0 < 2147483648 := hok (vi v0) (by simp)
  have iv1 : -2147483648 ≤ v1 ∧ v1 < 2147483648 := hok (vi v1) (by simp)
  refine Call_wp (lv := [some (vr 0), some (vi v0), some (vi v1), none, none, none]) (by decide) ckX11_orderNumbers [9] rfl rfl ?_
  refine ⟨_, rfl, (by decide), ?_⟩
  refine fun w0 hw0 => ?_; obtain rfl : w0 = some 223 := hw0.symm.trans (FS.g hF rfl)
  refine ⟨⟨_, rfl, (by decide)⟩, ?_⟩
  refine Call_wp (lv := [some (vr 223)]) (by decide) ckX3_clear [] rfl rfl ?_
  refine ⟨_, rfl, (by decide), ?_⟩
  refine ⟨rfl, ?_⟩
  refine c_ordn11_l hF hR hc hq hf hn hv (fun I' g1 g2 g3 hv hA' => hQ _ g1 hA' g2 g3) _ 0 (uI I 223 2 0) (Rg.u hR (Pr_f rfl)) (fun ka ja hk => (uI_o (show ¬ (ka = 223 ∧ ja = 2) from by first | (intro e; obtain ⟨rfl, rfl⟩ := e; exact hk (by decide)) | omega))) (show (0 : Int) ≤ (0 : Int) from Int.le_refl _) (show ((0 : Int) : Int) ≤ 14 from by first | with_reducible assumption | omega | (simp only [wr, wl] at *; omega)) (show ORC (uI I 223 2 0) (OFs FN (Int.toNat (0 : Int))).1 (OFs FN (Int.toNat (0 : Int))).2.1 (OFs FN (Int.toNat (0 : Int))).2.2 from ORC_0 uJ_eq) (Nat.lt_succ_self _)
theorem r_ordn11_l (hF : FS F) (hR : Rg I) {v0 v1 : Int} {SF LF : Nat → Nat → Int} {NF : Nat → Int} (hq : ∀ p : Nat, (p : Int) < I 236 0 → RDM I p (SF p) (LF p) (NF p)) {FN : Nat → Int} (hf : ∀ i : Nat, (i : Int) < I 236 0 → FN i = if I 236 (304 + 66 * i + 1) = v0 then nmF (SF i) (LF i) (Int.toNat (NF i)) v1 else -1) (hn : ∀ i : Nat, ¬ (i : Int) < I 236 0 → FN i = -1) (hv : 0 ≤ v1 ∧ v1 ≤ 3) (hQ : ∀ (I' : pI), Rg I' → (∀ k j, ¬ ((k = 235 ∧ (j = 22 ∨ j = 23 ∨ j = 24 ∨ j = 27)) ∨ k = 245 ∨ k = 246) → I' k j = I k j) → (ORM I' (OFs FN 14).1 (OFs FN 14).2.1 (OFs FN 14).2.2) → Q none F I') : ∀ (mz : Nat) (i : Int) (J : pI), Rg J → (∀ k j, ¬ ((k = 235 ∧ (j = 22 ∨ j = 23 ∨ j = 24 ∨ j = 27)) ∨ k = 245 ∨ k = 246) → J k j = I k j) → ((0 : Int) ≤ i) → ((i : Int) ≤ 14) → (i ≤ I 236 0) → (ORM J (OFs FN (Int.toNat i)).1 (OFs FN (Int.toNat i)).2.1 (OFs FN (Int.toNat i)).2.2) → (14 - i).toNat < mz → GoN G (d + 7) kX12_findNumbers NP NP 7 [some (vr 235), some (vi v0), some (vi v1), some (vi i), none] [] F J Q := by
  intro mz
  induction mz with
  | zero => intro i J hJ hV _ _ _ _ h; exact absurd h (Nat.not_lt_zero _)
  | succ mz ih =>
    intro i J hJ hV cc100 cc101 cc102 cc103 hm
    refine GoN_in (fun hok hA => ?_)
    have iiv0 : -2147483648 ≤ v0 ∧ v0 < 2147483648 := hok 1 _ rfl
    have iiv1 : -2147483648 ≤ v1 ∧ v1 < 2147483648 := hok 2 _ rfl
    have iii : -2147483648 ≤ i ∧ i < 2147483648 := hok 3 _ rfl
    have r1 : 0 ≤ (I 236 0) ∧ (I 236 0) ≤ 14 := Rg.n0 hR
    have u2 : (J 236 0) = (I 236 0) := hV _ _ (by first | decide | omega)
    have a3 : -2147483648 ≤ (J 236 0) ∧ (J 236 0) < 2147483648 := hA.1 _ _
    have z4 : (J 236 0) = I 236 0 := hV 236 0 (by first | decide | omega)
    have r5 : 0 ≤ (J 236 0) ∧ (J 236 0) ≤ 14 := Rg.n0 hJ
    refine Go_wp (by decide) ckX12_findNumbers [7] ?_
    refine ⟨_, rfl, (by decide), ?_⟩
    refine fun w0 hw0 => ?_; obtain rfl : w0 = some 236 := hw0.symm.trans (FS.g hF rfl)
    refine ⟨_, rfl, (by decide), (by decide), (by decide), ?_⟩
    refine ⟨fun (c6 : (((J 236 0) : Int) ≤ i)) => ?_, fun (c6 : (¬ (((J 236 0) : Int) ≤ i))) => ?_⟩
    ·
      exact ⟨rfl, hQ _ hJ (fun ka ja hk => (hV ka ja (by omega))) ((by
                              have h := cc103
                              rw [← OFs_m (fn := FN) (m := Int.toNat i) (by omega) (fun k hk => by rw [hn k (by omega)]; omega)] at h
                              exact h))⟩
    ·
      refine ⟨⟨_, rfl, (by decide)⟩, ?_⟩
      refine Call_wp (lv := [some (vr 235), some (vi i), some (vi 1)]) (by decide) ckX12_of [] rfl rfl ?_
      refine ⟨_, rfl, (by decide), ?_⟩
      refine fun w0 hw0 => ?_; obtain rfl : w0 = some 236 := hw0.symm.trans (FS.g hF rfl)
      have n7 : (wr (66 * i)) = 66 * i := wr_id (show -2147483648 ≤ (66 * i : Int) ∧ (66 * i : Int) < 2147483648 from by omega)
      have n8 : (wr (304 + (wr (66 * i)))) = 304 + (wr (66 * i)) := wr_id (show -2147483648 ≤ (304 + (wr (66 * i)) : Int) ∧ (304 + (wr (66 * i)) : Int) < 2147483648 from by omega)
      have n9 : (wr ((wr (304 + (wr (66 * i)))) + 1)) = (wr (304 + (wr (66 * i)))) + 1 := wr_id (show -2147483648 ≤ ((wr (304 + (wr (66 * i)))) + 1 : Int) ∧ ((wr (304 + (wr (66 * i)))) + 1 : Int) < 2147483648 from by omega)
      refine ⟨_, rfl, (by decide), (show (0 : Int) ≤ (wr ((wr (304 + (wr (66 * i)))) + 1)) from by first | with_reducible assumption | omega | (simp only [wr, wl] at *; omega)), (show (wr ((wr (304 + (wr (66 * i)))) + 1)) < (1340 : Int) from by first | with_reducible assumption | omega | (simp only [wr, wl] at *; omega)), ?_⟩
      have z10 : (I 236 (Int.toNat (wr ((wr (304 + (wr (66 * i)))) + 1)))) = I 236 (304 + 66 * Int.toNat i + 1) := (rfl).trans (congrArg (I 236) (by omega))
      have u11 : (J 236 (Int.toNat (wr ((wr (304 + (wr (66 * i)))) + 1)))) = (I 236 (Int.toNat (wr ((wr (304 + (wr (66 * i)))) + 1)))) := hV _ _ (by first | decide | omega)
      have a12 : -2147483648 ≤ (J 236 (Int.toNat (wr ((wr (304 + (wr (66 * i)))) + 1)))) ∧ (J 236 (Int.toNat (wr ((wr (304 + (wr (66 * i)))) + 1)))) < 2147483648 := hA.1 _ _
      have z13 : (J 236 (Int.toNat (wr ((wr (304 + (wr (66 * i)))) + 1)))) = I 236 (304 + 66 * Int.toNat i + 1) := (hV 236 (Int.toNat (wr ((wr (304 + (wr (66 * i)))) + 1))) (by omega)).trans (congrArg (I 236) (by omega))
      refine ⟨rfl, ?_⟩
      refine ⟨fun (c14 : (¬ ((J 236 (Int.toNat (wr ((wr (304 + (wr (66 * i)))) + 1)))) : Int) = v0)) => ?_, fun (c14 : (((J 236 (Int.toNat (wr ((wr (304 + (wr (66 * i)))) + 1)))) : Int) = v0)) => ?_⟩
      ·
        refine ⟨fun _ => ?_, fun c => absurd (show (((-1) : Int) < 0) from by decide) c⟩
        refine GoN_lv (lv' := [some (vr 235), some (vi v0), some (vi v1), some (vi (wr (i + 1))), none]) (LvLe.k (LvLe.k (LvLe.k (LvLe.k (LvLe.d LvLe.n))))) ?_
        have n15 : (wr (i + 1)) = i + 1 := wr_id (show -2147483648 ≤ (i + 1 : Int) ∧ (i + 1 : Int) < 2147483648 from by omega)
        exact ih (wr (i + 1)) J hJ (fun ka ja hk => (hV ka ja (by omega))) (show (0 : Int) ≤ (wr (i + 1)) from by first | with_reducible assumption | omega | (simp only [wr, wl] at *; omega)) (show ((wr (i + 1)) : Int) ≤ 14 from by first | with_reducible assumption | omega | (simp only [wr, wl] at *; omega)) (show (wr (i + 1)) ≤ I 236 0 from by first | with_reducible assumption | omega | (simp only [wr, wl] at *; omega)) (show ORM J (OFs FN (Int.toNat (wr (i + 1)))).1 (OFs FN (Int.toNat (wr (i + 1)))).2.1 (OFs FN (Int.toNat (wr (i + 1)))).2.2 from (by
                              have f : ¬ 0 ≤ FN (Int.toNat i) := by
                                first
                                  | (rw [hf (Int.toNat i) (by omega), if_neg (by omega)]; omega)
                              rw [show Int.toNat (wr (i + 1)) = Int.toNat i + 1 from by omega, OFs_n (fn := FN) (i := Int.toNat i) f]
                              exact cc103)) (show (14 - (wr (i + 1))).toNat < mz from by omega)
      ·
        refine ⟨⟨_, rfl, (by decide)⟩, ?_⟩
        refine r_nmb11 (v0 := i) (v1 := v1) hF hJ (by omega) (RDM_f (hq (Int.toNat i) (by omega)) (fun j => hV 236 j (by omega))) hv (fun vr16 I17 hR18 hA19 hr21 hW20 qr22 => ?_)
        have hr21 : -2147483648 ≤ vr16 ∧ vr16 < 2147483648 := hr21
        refine ⟨fun (c23 : ((vr16 : Int) < 0)) => ?_, fun (c23 : (¬ ((vr16 : Int) < 0))) => ?_⟩
        ·
          refine GoN_lv (lv' := [some (vr 235), some (vi v0), some (vi v1), some (vi (wr (i + 1))), none]) (LvLe.k (LvLe.k (LvLe.k (LvLe.k (LvLe.d LvLe.n))))) ?_
          have n24 : (wr (i + 1)) = i + 1 := wr_id (show -2147483648 ≤ (i + 1 : Int) ∧ (i + 1 : Int) < 2147483648 from by omega)
          have u25 : (I17 236 0) = (J 236 0) := hW20 _ _ (by first | decide | omega)
          have a26 : -2147483648 ≤ (I17 236 0) ∧ (I17 236 0) < 2147483648 := hA19.1 _ _
          have z27 : (I17 236 0) = I 236 0 := (hW20 236 0 (by first | decide | omega)).trans (hV 236 0 (by first | decide | omega))
          have r28 : 0 ≤ (I17 236 0) ∧ (I17 236 0) ≤ 14 := Rg.n0 hR18
          exact ih (wr (i + 1)) I17 hR18 (fun ka ja hk => ((hW20 ka ja (by omega))).trans ((hV ka ja (by omega)))) (show (0 : Int) ≤ (wr (i + 1)) from by first | with_reducible assumption | omega | (simp only [wr, wl] at *; omega)) (show ((wr (i + 1)) : Int) ≤ 14 from by first | with_reducible assumption | omega | (simp only [wr, wl] at *; omega)) (show (wr (i + 1)) ≤ I 236 0 from by first | with_reducible assumption | omega | (simp only [wr, wl] at *; omega)) (show ORM I17 (OFs FN (Int.toNat (wr (i + 1)))).1 (OFs FN (Int.toNat (wr (i + 1)))).2.1 (OFs FN (Int.toNat (wr (i + 1)))).2.2 from (by
                              have f : ¬ 0 ≤ FN (Int.toNat i) := by
                                first
                                  | (rw [hf (Int.toNat i) (by omega), if_neg (by omega)]; omega)
                                  | (rw [hf (Int.toNat i) (by omega), if_pos (by omega), ← qr22]; omega)
                              rw [show Int.toNat (wr (i + 1)) = Int.toNat i + 1 from by omega, OFs_n (fn := FN) (i := Int.toNat i) f]
                              exact (ORM_f cc103 (hW20 235 27 (by first | decide | omega)) (fun ka ja h1 h2 => (hW20 ka ja (by omega)))))) (show (14 - (wr (i + 1))).toNat < mz from by omega)
        ·
          refine ⟨⟨_, rfl, (by decide)⟩, ?_⟩
          refine r_ins11 (v0 := vr16) (v1 := i) hF hR18 (ORM_f cc103 (hW20 235 27 (by first | decide | omega)) (fun ka ja h1 h2 => (hW20 ka ja (by omega)))) (by have b := OFs_b (fn := FN) (Int.toNat i); omega) (fun I29 hR30 hA31 hW32 qr33 => ?_)
          refine GoN_lv (lv' := [some (vr 235), some (vi v0), some (vi v1), some (vi (wr (i + 1))), none]) (LvLe.k (LvLe.k (LvLe.k (LvLe.k (LvLe.d LvLe.n))))) ?_
          have n34 : (wr (i + 1)) = i + 1 := wr_id (show -2147483648 ≤ (i + 1 : Int) ∧ (i + 1 : Int) < 2147483648 from by omega)
          have u35 : (I17 236 0) = (J 236 0) := hW20 _ _ (by first | decide | omega)
          have a36 : -2147483648 ≤ (I17 236 0) ∧ (I17 236 0) < 2147483648 := hA19.1 _ _
          have z37 : (I17 236 0) = I 236 0 := (hW20 236 0 (by first | decide | omega)).trans (hV 236 0 (by first | decide | omega))
          have r38 : 0 ≤ (I17 236 0) ∧ (I17 236 0) ≤ 14 := Rg.n0 hR18
          have u39 : (I29 236 0) = (I17 236 0) := hW32 _ _ (by first | decide | omega)
          have a40 : -2147483648 ≤ (I29 236 0) ∧ (I29 236 0) < 2147483648 := hA31.1 _ _
          have z41 : (I29 236 0) = I 236 0 := (hW32 236 0 (by first | decide | omega)).trans ((hW20 236 0 (by first | decide | omega)).trans (hV 236 0 (by first | decide | omega)))
          have r42 : 0 ≤ (I29 236 0) ∧ (I29 236 0) ≤ 14 := Rg.n0 hR30
          exact ih (wr (i + 1)) I29 hR30 (fun ka ja hk => ((hW32 ka ja (by omega))).trans (((hW20 ka ja (by omega))).trans ((hV ka ja (by omega))))) (show (0 : Int) ≤ (wr (i + 1)) from by first | with_reducible assumption | omega | (simp only [wr, wl] at *; omega)) (show ((wr (i + 1)) : Int) ≤ 14 from by first | with_reducible assumption | omega | (simp only [wr, wl] at *; omega)) (show (wr (i + 1)) ≤ I 236 0 from by first | with_reducible assumption | omega | (simp only [wr, wl] at *; omega)) (show ORM I29 (OFs FN (Int.toNat (wr (i + 1)))).1 (OFs FN (Int.toNat (wr (i + 1)))).2.1 (OFs FN (Int.toNat (wr (i + 1)))).2.2 from (by
                              have f : FN (Int.toNat i) = vr16 := (hf (Int.toNat i) (by omega)).trans (by rw [if_pos (by omega)]; exact qr22.symm)
                              rw [show Int.toNat (wr (i + 1)) = Int.toNat i + 1 from by omega, OFs_y (fn := FN) (i := Int.toNat i) (by omega), f, show ((Int.toNat i : Nat) : Int) = i from by omega]
                              exact qr33)) (show (14 - (wr (i + 1))).toNat < mz from by omega)
theorem r_ordn11 (hF : FS F) (hR : Rg I) {v0 v1 : Int} {SF LF : Nat → Nat → Int} {NF : Nat → Int} (hq : ∀ p : Nat, (p : Int) < I 236 0 → RDM I p (SF p) (LF p) (NF p)) {FN : Nat → Int} (hf : ∀ i : Nat, (i : Int) < I 236 0 → FN i = if I 236 (304 + 66 * i + 1) = v0 then nmF (SF i) (LF i) (Int.toNat (NF i)) v1 else -1) (hn : ∀ i : Nat, ¬ (i : Int) < I 236 0 → FN i = -1) (hv : 0 ≤ v1 ∧ v1 ≤ 3) (hQ : ∀ (I' : pI), Rg I' → AR I' → (∀ k j, ¬ ((k = 235 ∧ (j = 22 ∨ j = 23 ∨ j = 24 ∨ j = 27)) ∨ k = 245 ∨ k = 246) → I' k j = I k j) → (ORM I' (OFs FN 14).1 (OFs FN 14).2.1 (OFs FN 14).2.2) → Q none F I') : CallN G (d + 7) kX12_findNumbers [vr 235, vi v0, vi v1] NP F I Q := by
  refine CallN_in (fun hok hA => CallN_out ?_)
  have iv0 : -2147483648 ≤ v0 ∧ v0 < 2147483648 := hok (vi v0) (by simp)
  have iv1 : -2147483648 ≤ v1 ∧ v1 < 2147483648 := hok (vi v1) (by simp)
  refine Call_wp (lv := [some (vr 235), some (vi v0), some (vi v1), none, none]) (by decide) ckX12_findNumbers [7] rfl rfl ?_
  refine ⟨_, rfl, (by decide), ?_⟩
  have p1 : (0 : Int) ≤ 0 ∧ (0 : Int) ≤ 14 := by decide
  have r2 : 0 ≤ (I 236 0) ∧ (I 236 0) ≤ 14 := Rg.n0 hR
  refine r_ordn11_l hF hR hq hf hn hv (fun I' g1 g2 g3 hv hA' => hQ _ g1 hA' g2 g3) _ 0 (uI I 235 27 0) (Rg.u hR (Pr_x27 p1)) (fun ka ja hk => (uI_o (show ¬ (ka = 235 ∧ ja = 27) from by first | (intro e; obtain ⟨rfl, rfl⟩ := e; exact hk (by decide)) | omega))) (show (0 : Int) ≤ (0 : Int) from Int.le_refl _) (show ((0 : Int) : Int) ≤ 14 from by first | with_reducible assumption | omega | (simp only [wr, wl] at *; omega)) (show (0 : Int) ≤ I 236 0 from by first | with_reducible assumption | omega | (simp only [wr, wl] at *; omega)) (show ORM (uI I 235 27 0) (OFs FN (Int.toNat (0 : Int))).1 (OFs FN (Int.toNat (0 : Int))).2.1 (OFs FN (Int.toNat (0 : Int))).2.2 from ORM_0 uJ_eq) (Nat.lt_succ_self _)
end ON11
