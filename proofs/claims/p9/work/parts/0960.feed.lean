/-! feed, program: how long the text is. Own work (scripts laid by wip/pm/gen34.py). -/
section FE
variable {G : pG} {d : Nat} {F : pF} {I : pI} {Q : Option pV → pF → pI → Prop}
theorem c_feed2_l (hF : FS F) (hR : Rg I) {v0 v1 : Int} (hn : 1 ≤ v1 ∧ v1 ≤ 8) (hT : 0 ≤ I 1 5 ∧ I 1 5 + v1 ≤ 64) (hQ : ∀ (r : Int) (I' : pI), Rg I' → (∀ k j, ¬ (k = 203 ∨ k = 5 ∨ (k = 1 ∧ (j = 5))) → I' k j = I k j) → (r = (I 1 5) + v1 ∧ (I' 1 5) = (I 1 5) + v1) → Q (some (vi r)) F I') : ∀ (mz : Nat) (k : Int) (J : pI), Rg J → (∀ k j, ¬ (k = 203 ∨ k = 5 ∨ (k = 1 ∧ (j = 5))) → J k j = I k j) → ((0 : Int) ≤ k) → ((k : Int) ≤ 8) → ((J 1 5) = I 1 5 + k) → (k ≤ v1) → (8 - k).toNat < mz → GoN G (d + 1) kX11_feed NP NP 39 [some (vr 0), some (vl v0), none, some (vi v1), some (vi k)] [] F J Q := by
  intro mz
  induction mz with
  | zero => intro k J hJ hV _ _ _ _ h; exact absurd h (Nat.not_lt_zero _)
  | succ mz ih =>
    intro k J hJ hV c100 c101 c102 c103 hm
    refine GoN_in (fun hok hA => ?_)
    have iiv0 : -9223372036854775808 ≤ v0 ∧ v0 < 9223372036854775808 := hok 1 _ rfl
    have iiv1 : -2147483648 ≤ v1 ∧ v1 < 2147483648 := hok 3 _ rfl
    have iik : -2147483648 ≤ k ∧ k < 2147483648 := hok 4 _ rfl
    have a1 : -2147483648 ≤ (J 1 5) ∧ (J 1 5) < 2147483648 := hA.1 _ _
    refine Go_wp (by decide) ckX11_feed [39] ?_
    refine ⟨fun (c2 : ((v1 : Int) ≤ k)) => ?_, fun (c2 : (¬ ((v1 : Int) ≤ k))) => ?_⟩
    ·
      refine ⟨_, rfl, (by decide), ?_⟩
      refine fun w0 hw0 => ?_; obtain rfl : w0 = some 1 := hw0.symm.trans (FS.g hF rfl)
      refine ⟨_, rfl, (by decide), ?_⟩
      exact ⟨rfl, hQ _ _ hJ (fun ka ja hk => (hV ka ja (by omega))) (show (J 1 5) = (I 1 5) + v1 ∧ (J 1 5) = (I 1 5) + v1 from by first | omega | (simp only [wr, wl] at *; omega))⟩
    ·
      refine ⟨_, rfl, (by decide), ?_⟩
      refine fun w0 hw0 => ?_; obtain rfl : w0 = some 1 := hw0.symm.trans (FS.g hF rfl)
      refine ⟨⟨_, rfl, (by decide)⟩, ?_⟩
      refine Call_wp (lv := [some (vr 1), some (vi (wb (wr (srL v0 (wr (8 * k))))))]) (by decide) ckX8_addByte [] rfl rfl ?_
      refine ⟨_, rfl, (by decide), ?_⟩
      refine ⟨fun (c3 : (((J 1 5) : Int) < 0)) => ?_, fun (c3 : (¬ (((J 1 5) : Int) < 0))) => ?_⟩
      ·
        refine ⟨rfl, ?_⟩
        have n4 : (wr (k + 1)) = k + 1 := wr_id (show -2147483648 ≤ (k + 1 : Int) ∧ (k + 1 : Int) < 2147483648 from by omega)
        exact ih (wr (k + 1)) J hJ (fun ka ja hk => (hV ka ja (by omega))) (show (0 : Int) ≤ (wr (k + 1)) from by first | omega | (simp only [wr, wl] at *; omega)) (show ((wr (k + 1)) : Int) ≤ 8 from by first | omega | (simp only [wr, wl] at *; omega)) (show (J 1 5) = I 1 5 + (wr (k + 1)) from by first | omega | (simp only [wr, wl] at *; omega)) (show (wr (k + 1)) ≤ v1 from by first | omega | (simp only [wr, wl] at *; omega)) (show (8 - (wr (k + 1))).toNat < mz from by omega)
      ·
        refine ⟨_, rfl, (by decide), ?_⟩
        refine ⟨fun (c5 : ((64 : Int) ≤ (J 1 5))) => ?_, fun (c5 : (¬ ((64 : Int) ≤ (J 1 5)))) => ?_⟩
        ·
          refine ⟨rfl, ?_⟩
          have n6 : (wr (k + 1)) = k + 1 := wr_id (show -2147483648 ≤ (k + 1 : Int) ∧ (k + 1 : Int) < 2147483648 from by omega)
          exact ih (wr (k + 1)) J hJ (fun ka ja hk => (hV ka ja (by omega))) (show (0 : Int) ≤ (wr (k + 1)) from by first | omega | (simp only [wr, wl] at *; omega)) (show ((wr (k + 1)) : Int) ≤ 8 from by first | omega | (simp only [wr, wl] at *; omega)) (show (J 1 5) = I 1 5 + (wr (k + 1)) from by first | omega | (simp only [wr, wl] at *; omega)) (show (wr (k + 1)) ≤ v1 from by first | omega | (simp only [wr, wl] at *; omega)) (show (8 - (wr (k + 1))).toNat < mz from by omega)
        ·
          refine ⟨_, rfl, (by decide), ?_⟩
          refine fun w0 hw0 => ?_; obtain rfl : w0 = some 5 := hw0.symm.trans (FS.g hF rfl)
          refine ⟨_, rfl, (by decide), ?_⟩
          refine ⟨_, rfl, (by decide), (show (0 : Int) ≤ (J 1 5) from by first | omega | (simp only [wr, wl] at *; omega)), (show (J 1 5) < (64 : Int) from by first | omega | (simp only [wr, wl] at *; omega)), ?_⟩
          refine ⟨_, rfl, (by decide), ?_⟩
          refine ⟨_, rfl, (by decide), ?_⟩
          refine ⟨rfl, ?_⟩
          have n7 : (wr (k + 1)) = k + 1 := wr_id (show -2147483648 ≤ (k + 1 : Int) ∧ (k + 1 : Int) < 2147483648 from by omega)
          have n8 : (wr ((J 1 5) + 1)) = (J 1 5) + 1 := wr_id (show -2147483648 ≤ ((J 1 5) + 1 : Int) ∧ ((J 1 5) + 1 : Int) < 2147483648 from by omega)
          exact ih (wr (k + 1)) (uI (uI J 5 (Int.toNat (J 1 5)) (wb (wb (wr (srL v0 (wr (8 * k))))))) 1 5 (wr ((J 1 5) + 1))) (Rg.u (Rg.u hJ (Pr_p (k := 5) rfl _ _)) (Pr_f rfl)) (fun ka ja hk => ((uI_o (show ¬ (ka = 1 ∧ ja = 5) from by omega))).trans (((uI_o (show ¬ (ka = 5 ∧ ja = (Int.toNat (J 1 5))) from by omega))).trans ((hV ka ja (by omega))))) (show (0 : Int) ≤ (wr (k + 1)) from by first | omega | (simp only [wr, wl] at *; omega)) (show ((wr (k + 1)) : Int) ≤ 8 from by first | omega | (simp only [wr, wl] at *; omega)) (show (wr ((J 1 5) + 1)) = I 1 5 + (wr (k + 1)) from by first | omega | (simp only [wr, wl] at *; omega)) (show (wr (k + 1)) ≤ v1 from by first | omega | (simp only [wr, wl] at *; omega)) (show (8 - (wr (k + 1))).toNat < mz from by omega)
theorem c_feed2 (hF : FS F) (hR : Rg I) {v0 v1 : Int} (hT : 0 ≤ I 1 5 ∧ I 1 5 ≤ 64) (hQ : ∀ (r : Int) (I' : pI), Rg I' → AR I' → iR r → (∀ k j, ¬ (k = 203 ∨ k = 5 ∨ (k = 1 ∧ (j = 5))) → I' k j = I k j) → ((1 ≤ v1 ∧ v1 ≤ 8) ∧ (I 1 5) + v1 ≤ 64 → r = (I 1 5) + v1 ∧ (I' 1 5) = (I 1 5) + v1) → ((1 ≤ v1 ∧ v1 ≤ 8) ∧ 64 < (I 1 5) + v1 → r = -1000004 ∧ (I' 1 5) = (I 1 5)) → (¬ (1 ≤ v1 ∧ v1 ≤ 8) → r = -1000001 ∧ (I' 1 5) = (I 1 5)) → Q (some (vi r)) F I') : CallN G (d + 2) kX11_feed [vr 0, vl v0, vi v1] NP F I Q := by
  refine CallN_in (fun hok hA => CallN_out ?_)
  have iv0 : -9223372036854775808 ≤ v0 ∧ v0 < 9223372036854775808 := hok (vl v0) (by simp)
  have iv1 : -2147483648 ≤ v1 ∧ v1 < 2147483648 := hok (vi v1) (by simp)
  refine Call_wp (lv := [some (vr 0), some (vl v0), none, some (vi v1), none]) (by decide) ckX11_feed [39] rfl rfl ?_
  refine s_X11_within (fun (w1 : ((1 : Int) ≤ v1 ∧ (v1 : Int) ≤ 8)) => ?_) (fun (w1 : ¬ ((1 : Int) ≤ v1 ∧ (v1 : Int) ≤ 8)) => ?_)
  ·
    refine ⟨fun _ => ?_, fun c => absurd c (show (¬ (1 : Int) = 0) from by decide)⟩
    refine ⟨_, rfl, (by decide), ?_⟩
    refine fun w0 hw0 => ?_; obtain rfl : w0 = some 1 := hw0.symm.trans (FS.g hF rfl)
    refine ⟨_, rfl, (by decide), ?_⟩
    have a2 : -2147483648 ≤ (I 1 5) ∧ (I 1 5) < 2147483648 := hA.1 _ _
    have n3 : (wr (64 - v1)) = 64 - v1 := wr_id (show -2147483648 ≤ (64 - v1 : Int) ∧ (64 - v1 : Int) < 2147483648 from by omega)
    refine ⟨fun (c4 : (((I 1 5) : Int) ≤ (wr (64 - v1)))) => ?_, fun (c4 : (¬ (((I 1 5) : Int) ≤ (wr (64 - v1))))) => ?_⟩
    ·
      refine c_feed2_l hF hR (by omega) (by omega) (fun r I' g1 g2 g3 hv hA' => hQ _ _ g1 hA' (hv _ rfl) g2 (fun _ => g3) (fun h => absurd h.2 (by omega)) (fun h => absurd (by omega) h)) _ 0 I hR (fun _ _ _ => rfl) (show (0 : Int) ≤ (0 : Int) from by first | omega | (simp only [wr, wl] at *; omega)) (show ((0 : Int) : Int) ≤ 8 from by first | omega | (simp only [wr, wl] at *; omega)) (show (I 1 5) = I 1 5 + (0 : Int) from by first | omega | (simp only [wr, wl] at *; omega)) (show (0 : Int) ≤ v1 from by first | omega | (simp only [wr, wl] at *; omega)) (Nat.lt_succ_self _)
    ·
      refine ⟨⟨_, rfl, (by decide)⟩, ?_⟩
      refine s_X11_refuse hF (e := 4) (by decide) ?_
      exact ⟨rfl, fun hv hA' => hQ _ _ (Rg.u hR (Pr_f rfl)) hA' (hv _ rfl) (fun ka ja hk => (uI_o (show ¬ (ka = 203 ∧ ja = 4) from by omega))) (show (1 ≤ v1 ∧ v1 ≤ 8) ∧ (I 1 5) + v1 ≤ 64 → (-1000004) = (I 1 5) + v1 ∧ (I 1 5) = (I 1 5) + v1 from by first | omega | (simp only [wr, wl] at *; omega)) (show (1 ≤ v1 ∧ v1 ≤ 8) ∧ 64 < (I 1 5) + v1 → (-1000004) = -1000004 ∧ (I 1 5) = (I 1 5) from by first | omega | (simp only [wr, wl] at *; omega)) (show ¬ (1 ≤ v1 ∧ v1 ≤ 8) → (-1000004) = -1000001 ∧ (I 1 5) = (I 1 5) from by first | omega | (simp only [wr, wl] at *; omega))⟩
  ·
    refine ⟨fun c => absurd (show ((0 : Int) = 0) from by decide) c, fun _ => ?_⟩
    refine ⟨⟨_, rfl, (by decide)⟩, ?_⟩
    refine s_X11_refuse hF (e := 1) (by decide) ?_
    have a5 : -2147483648 ≤ (I 1 5) ∧ (I 1 5) < 2147483648 := hA.1 _ _
    exact ⟨rfl, fun hv hA' => hQ _ _ (Rg.u hR (Pr_f rfl)) hA' (hv _ rfl) (fun ka ja hk => (uI_o (show ¬ (ka = 203 ∧ ja = 1) from by omega))) (show (1 ≤ v1 ∧ v1 ≤ 8) ∧ (I 1 5) + v1 ≤ 64 → (-1000001) = (I 1 5) + v1 ∧ (I 1 5) = (I 1 5) + v1 from by first | omega | (simp only [wr, wl] at *; omega)) (show (1 ≤ v1 ∧ v1 ≤ 8) ∧ 64 < (I 1 5) + v1 → (-1000001) = -1000004 ∧ (I 1 5) = (I 1 5) from by first | omega | (simp only [wr, wl] at *; omega)) (show ¬ (1 ≤ v1 ∧ v1 ≤ 8) → (-1000001) = -1000001 ∧ (I 1 5) = (I 1 5) from by first | omega | (simp only [wr, wl] at *; omega))⟩
theorem r_feed2_l (hF : FS F) (hR : Rg I) {v0 v1 : Int} (hn : 1 ≤ v1 ∧ v1 ≤ 8) (hT : 0 ≤ I 236 2 ∧ I 236 2 + v1 ≤ 64) (hQ : ∀ (r : Int) (I' : pI), Rg I' → (∀ k j, ¬ (k = 238 ∨ (k = 236 ∧ (j = 2 ∨ (1228 ≤ j ∧ j < 1292)))) → I' k j = I k j) → (r = (I 236 2) + v1 ∧ (I' 236 2) = (I 236 2) + v1) → Q (some (vi r)) F I') : ∀ (mz : Nat) (k : Int) (J : pI), Rg J → (∀ k j, ¬ (k = 238 ∨ (k = 236 ∧ (j = 2 ∨ (1228 ≤ j ∧ j < 1292)))) → J k j = I k j) → ((0 : Int) ≤ k) → ((k : Int) ≤ 8) → ((J 236 2) = I 236 2 + k) → (k ≤ v1) → (8 - k).toNat < mz → GoN G d kX12_feed NP NP 40 [some (vr 235), some (vl v0), none, some (vi v1), some (vi k)] [] F J Q := by
  intro mz
  induction mz with
  | zero => intro k J hJ hV _ _ _ _ h; exact absurd h (Nat.not_lt_zero _)
  | succ mz ih =>
    intro k J hJ hV c100 c101 c102 c103 hm
    refine GoN_in (fun hok hA => ?_)
    have iiv0 : -9223372036854775808 ≤ v0 ∧ v0 < 9223372036854775808 := hok 1 _ rfl
    have iiv1 : -2147483648 ≤ v1 ∧ v1 < 2147483648 := hok 3 _ rfl
    have iik : -2147483648 ≤ k ∧ k < 2147483648 := hok 4 _ rfl
    have r1 : 0 ≤ (J 236 2) ∧ (J 236 2) ≤ 64 := Rg.n2 hJ
    have a2 : -2147483648 ≤ (J 236 2) ∧ (J 236 2) < 2147483648 := hA.1 _ _
    refine Go_wp (by decide) ckX12_feed [40] ?_
    refine ⟨fun (c3 : ((v1 : Int) ≤ k)) => ?_, fun (c3 : (¬ ((v1 : Int) ≤ k))) => ?_⟩
    ·
      refine ⟨_, rfl, (by decide), ?_⟩
      refine fun w0 hw0 => ?_; obtain rfl : w0 = some 236 := hw0.symm.trans (FS.g hF rfl)
      refine ⟨_, rfl, (by decide), (by decide), (by decide), ?_⟩
      have r4 : 0 ≤ (I 236 2) ∧ (I 236 2) ≤ 64 := Rg.n2 hR
      exact ⟨rfl, hQ _ _ hJ (fun ka ja hk => (hV ka ja (by omega))) (show (J 236 2) = (I 236 2) + v1 ∧ (J 236 2) = (I 236 2) + v1 from by first | omega | (simp only [wr, wl] at *; omega))⟩
    ·
      refine ⟨_, rfl, (by decide), ?_⟩
      refine fun w0 hw0 => ?_; obtain rfl : w0 = some 236 := hw0.symm.trans (FS.g hF rfl)
      refine ⟨_, rfl, (by decide), ?_⟩
      refine fun w0 hw0 => ?_; obtain rfl : w0 = some 236 := hw0.symm.trans (FS.g hF rfl)
      refine ⟨_, rfl, (by decide), (by decide), (by decide), ?_⟩
      have n5 : (wr (1228 + (J 236 2))) = 1228 + (J 236 2) := wr_id (show -2147483648 ≤ (1228 + (J 236 2) : Int) ∧ (1228 + (J 236 2) : Int) < 2147483648 from by omega)
      refine ⟨_, rfl, (by decide), (show (0 : Int) ≤ (wr (1228 + (J 236 2))) from by first | omega | (simp only [wr, wl] at *; omega)), (show (wr (1228 + (J 236 2))) < (1340 : Int) from by first | omega | (simp only [wr, wl] at *; omega)), ?_⟩
      have n6 : 0 ≤ (bL (srL v0 (wr (8 * k))) 255) ∧ (bL (srL v0 (wr (8 * k))) 255) ≤ 255 := bL_ri (by decide)
      have n7 : (wr (bL (srL v0 (wr (8 * k))) 255)) = (bL (srL v0 (wr (8 * k))) 255) := wr_id (show -2147483648 ≤ ((bL (srL v0 (wr (8 * k))) 255) : Int) ∧ ((bL (srL v0 (wr (8 * k))) 255) : Int) < 2147483648 from by omega)
      have p8 : Pn (Int.toNat (wr (1228 + (J 236 2)))) (wr (bL (srL v0 (wr (8 * k))) 255)) := by apply Pn_w <;> omega
      refine ⟨_, rfl, (by decide), ?_⟩
      refine fun w0 hw0 => ?_; obtain rfl : w0 = some 236 := hw0.symm.trans (FS.g hF rfl)
      refine ⟨_, rfl, (by decide), (by decide), (by decide), ?_⟩
      have u9 : ((uI J 236 (Int.toNat (wr (1228 + (J 236 2)))) (wr (bL (srL v0 (wr (8 * k))) 255))) 236 2) = (J 236 2) := uJ_ne (by omega)
      refine ⟨_, rfl, (by decide), (by decide), (by decide), ?_⟩
      have n10 : (wr (((uI J 236 (Int.toNat (wr (1228 + (J 236 2)))) (wr (bL (srL v0 (wr (8 * k))) 255))) 236 2) + 1)) = ((uI J 236 (Int.toNat (wr (1228 + (J 236 2)))) (wr (bL (srL v0 (wr (8 * k))) 255))) 236 2) + 1 := wr_id (show -2147483648 ≤ (((uI J 236 (Int.toNat (wr (1228 + (J 236 2)))) (wr (bL (srL v0 (wr (8 * k))) 255))) 236 2) + 1 : Int) ∧ (((uI J 236 (Int.toNat (wr (1228 + (J 236 2)))) (wr (bL (srL v0 (wr (8 * k))) 255))) 236 2) + 1 : Int) < 2147483648 from by omega)
      have p11 : Pn 2 (wr (((uI J 236 (Int.toNat (wr (1228 + (J 236 2)))) (wr (bL (srL v0 (wr (8 * k))) 255))) 236 2) + 1)) := by apply Pn_w <;> omega
      have n12 : (wr (k + 1)) = k + 1 := wr_id (show -2147483648 ≤ (k + 1 : Int) ∧ (k + 1 : Int) < 2147483648 from by omega)
      exact ih (wr (k + 1)) (uI (uI J 236 (Int.toNat (wr (1228 + (J 236 2)))) (wr (bL (srL v0 (wr (8 * k))) 255))) 236 2 (wr (((uI J 236 (Int.toNat (wr (1228 + (J 236 2)))) (wr (bL (srL v0 (wr (8 * k))) 255))) 236 2) + 1))) (Rg.u (Rg.u hJ (Pr_n p8)) (Pr_n p11)) (fun ka ja hk => ((uI_o (show ¬ (ka = 236 ∧ ja = 2) from by omega))).trans (((uI_o (show ¬ (ka = 236 ∧ ja = (Int.toNat (wr (1228 + (J 236 2))))) from by omega))).trans ((hV ka ja (by omega))))) (show (0 : Int) ≤ (wr (k + 1)) from by first | omega | (simp only [wr, wl] at *; omega)) (show ((wr (k + 1)) : Int) ≤ 8 from by first | omega | (simp only [wr, wl] at *; omega)) (show (wr (((uI J 236 (Int.toNat (wr (1228 + (J 236 2)))) (wr (bL (srL v0 (wr (8 * k))) 255))) 236 2) + 1)) = I 236 2 + (wr (k + 1)) from by first | omega | (simp only [wr, wl] at *; omega)) (show (wr (k + 1)) ≤ v1 from by first | omega | (simp only [wr, wl] at *; omega)) (show (8 - (wr (k + 1))).toNat < mz from by omega)
theorem r_feed2 (hF : FS F) (hR : Rg I) {v0 v1 : Int}  (hQ : ∀ (r : Int) (I' : pI), Rg I' → AR I' → iR r → (∀ k j, ¬ (k = 238 ∨ (k = 236 ∧ (j = 2 ∨ (1228 ≤ j ∧ j < 1292)))) → I' k j = I k j) → ((1 ≤ v1 ∧ v1 ≤ 8) ∧ (I 236 2) + v1 ≤ 64 → r = (I 236 2) + v1 ∧ (I' 236 2) = (I 236 2) + v1) → ((1 ≤ v1 ∧ v1 ≤ 8) ∧ 64 < (I 236 2) + v1 → r = -1000004 ∧ (I' 236 2) = (I 236 2)) → (¬ (1 ≤ v1 ∧ v1 ≤ 8) → r = -1000001 ∧ (I' 236 2) = (I 236 2)) → Q (some (vi r)) F I') : CallN G (d + 1) kX12_feed [vr 235, vl v0, vi v1] NP F I Q := by
  refine CallN_in (fun hok hA => CallN_out ?_)
  have iv0 : -9223372036854775808 ≤ v0 ∧ v0 < 9223372036854775808 := hok (vl v0) (by simp)
  have iv1 : -2147483648 ≤ v1 ∧ v1 < 2147483648 := hok (vi v1) (by simp)
  refine Call_wp (lv := [some (vr 235), some (vl v0), none, some (vi v1), none]) (by decide) ckX12_feed [40] rfl rfl ?_
  refine s_X12_within (fun (w1 : ((1 : Int) ≤ v1 ∧ (v1 : Int) ≤ 8)) => ?_) (fun (w1 : ¬ ((1 : Int) ≤ v1 ∧ (v1 : Int) ≤ 8)) => ?_)
  ·
    refine ⟨fun _ => ?_, fun c => absurd c (show (¬ (1 : Int) = 0) from by decide)⟩
    refine ⟨_, rfl, (by decide), ?_⟩
    refine fun w0 hw0 => ?_; obtain rfl : w0 = some 236 := hw0.symm.trans (FS.g hF rfl)
    refine ⟨_, rfl, (by decide), (by decide), (by decide), ?_⟩
    have r2 : 0 ≤ (I 236 2) ∧ (I 236 2) ≤ 64 := Rg.n2 hR
    have a3 : -2147483648 ≤ (I 236 2) ∧ (I 236 2) < 2147483648 := hA.1 _ _
    have n4 : (wr ((I 236 2) + v1)) = (I 236 2) + v1 := wr_id (show -2147483648 ≤ ((I 236 2) + v1 : Int) ∧ ((I 236 2) + v1 : Int) < 2147483648 from by omega)
    refine ⟨fun (c5 : (((wr ((I 236 2) + v1)) : Int) ≤ 64)) => ?_, fun (c5 : (¬ (((wr ((I 236 2) + v1)) : Int) ≤ 64))) => ?_⟩
    ·
      refine r_feed2_l hF hR (by omega) (by omega) (fun r I' g1 g2 g3 hv hA' => hQ _ _ g1 hA' (hv _ rfl) g2 (fun _ => g3) (fun h => absurd h.2 (by omega)) (fun h => absurd (by omega) h)) _ 0 I hR (fun _ _ _ => rfl) (show (0 : Int) ≤ (0 : Int) from by first | omega | (simp only [wr, wl] at *; omega)) (show ((0 : Int) : Int) ≤ 8 from by first | omega | (simp only [wr, wl] at *; omega)) (show (I 236 2) = I 236 2 + (0 : Int) from by first | omega | (simp only [wr, wl] at *; omega)) (show (0 : Int) ≤ v1 from by first | omega | (simp only [wr, wl] at *; omega)) (Nat.lt_succ_self _)
    ·
      refine ⟨⟨_, rfl, (by decide)⟩, ?_⟩
      refine s_X12_finding hF (v := (-1000004)) (by decide) ?_
      exact ⟨rfl, fun hv hA' => hQ _ _ (Rg.u hR (Pr_f rfl)) hA' (hv _ rfl) (fun ka ja hk => (uI_o (show ¬ (ka = 238 ∧ ja = 4) from by omega))) (show (1 ≤ v1 ∧ v1 ≤ 8) ∧ (I 236 2) + v1 ≤ 64 → (-1000004) = (I 236 2) + v1 ∧ (I 236 2) = (I 236 2) + v1 from by first | omega | (simp only [wr, wl] at *; omega)) (show (1 ≤ v1 ∧ v1 ≤ 8) ∧ 64 < (I 236 2) + v1 → (-1000004) = -1000004 ∧ (I 236 2) = (I 236 2) from by first | omega | (simp only [wr, wl] at *; omega)) (show ¬ (1 ≤ v1 ∧ v1 ≤ 8) → (-1000004) = -1000001 ∧ (I 236 2) = (I 236 2) from by first | omega | (simp only [wr, wl] at *; omega))⟩
  ·
    refine ⟨fun c => absurd (show ((0 : Int) = 0) from by decide) c, fun _ => ?_⟩
    refine ⟨⟨_, rfl, (by decide)⟩, ?_⟩
    refine s_X12_finding hF (v := (-1000001)) (by decide) ?_
    have r6 : 0 ≤ (I 236 2) ∧ (I 236 2) ≤ 64 := Rg.n2 hR
    have a7 : -2147483648 ≤ (I 236 2) ∧ (I 236 2) < 2147483648 := hA.1 _ _
    exact ⟨rfl, fun hv hA' => hQ _ _ (Rg.u hR (Pr_f rfl)) hA' (hv _ rfl) (fun ka ja hk => (uI_o (show ¬ (ka = 238 ∧ ja = 1) from by omega))) (show (1 ≤ v1 ∧ v1 ≤ 8) ∧ (I 236 2) + v1 ≤ 64 → (-1000001) = (I 236 2) + v1 ∧ (I 236 2) = (I 236 2) + v1 from by first | omega | (simp only [wr, wl] at *; omega)) (show (1 ≤ v1 ∧ v1 ≤ 8) ∧ 64 < (I 236 2) + v1 → (-1000001) = -1000004 ∧ (I 236 2) = (I 236 2) from by first | omega | (simp only [wr, wl] at *; omega)) (show ¬ (1 ≤ v1 ∧ v1 ≤ 8) → (-1000001) = -1000001 ∧ (I 236 2) = (I 236 2) from by first | omega | (simp only [wr, wl] at *; omega))⟩
theorem c_program2 (hF : FS F) (hR : Rg I) {v0 : Int}  (hQ : ∀ (r : Int) (F' : pF) (I' : pI), FS F' → Rg I' → AR I' → iR r → (∀ k j, ¬ (k = 203 ∨ k = 218 ∨ (220 ≤ k ∧ k < 223) ∨ (90 ≤ k ∧ k < 102) ∨ (k = 1 ∧ (j = 5))) → I' k j = I k j) → (0 ≤ v0 ∧ v0 < 4 → (I' 1 5) = 0) → (¬ (0 ≤ v0 ∧ v0 < 4) → (I' 1 5) = (I 1 5)) → Q (some (vi r)) F' I') : CallN G (d + 8) kX11_program [vr 0, vi v0] NP F I Q := by
  refine CallN_in (fun hok hA => CallN_out ?_)
  have iv0 : -2147483648 ≤ v0 ∧ v0 < 2147483648 := hok (vi v0) (by simp)
  refine Call_wp (lv := [some (vr 0), some (vi v0), none, none]) (by decide) ckX11_program [] rfl rfl ?_
  refine ⟨_, rfl, (by decide), ?_⟩
  refine fun w0 hw0 => ?_; obtain rfl : w0 = some 1 := hw0.symm.trans (FS.g hF rfl)
  refine ⟨⟨_, rfl, (by decide)⟩, ?_⟩
  refine s_X8_programAt hF (S := 1) (Or.inl rfl) (fun (w1 : (0 ≤ v0 ∧ v0 < 4)) => ?_) (fun (w1 : ¬ (0 ≤ v0 ∧ v0 < 4)) => ?_)
  ·
    have hp2 : GP F (1 + 89 + 3 * Int.toNat v0) := GP_of hF (by omega)
    refine ⟨_, rfl, (by decide), ?_⟩
    refine fun w0 hw0 => ?_; obtain rfl : w0 = some 218 := hw0.symm.trans (FS.g hF rfl)
    refine ⟨_, rfl, (by decide), ?_⟩
    refine fun w0 hw0 => ?_; obtain rfl : w0 = some 1 := hw0.symm.trans (FS.g hF rfl)
    refine ⟨_, rfl, (by decide), ?_⟩
    refine fun w0 hw0 => ?_; obtain rfl : w0 = some 5 := hw0.symm.trans (FS.g hF rfl)
    refine ⟨_, rfl, (by decide), ?_⟩
    refine fun w0 hw0 => ?_; obtain rfl : w0 = some 1 := hw0.symm.trans (FS.g hF rfl)
    refine ⟨_, rfl, (by decide), ?_⟩
    refine ⟨_, rfl, (by decide), ?_⟩
    refine fun w0 hw0 => ?_; obtain rfl : w0 = some 220 := hw0.symm.trans (FS.g hF rfl)
    refine ⟨⟨_, rfl, (by decide)⟩, ?_⟩
    have a3 : -2147483648 ≤ (I 1 5) ∧ (I 1 5) < 2147483648 := hA.1 _ _
    refine c_fault  hF hR (fun vr4 I5 hR6 hA7 hr9 hW8 => ?_)
    have hr9 : -2147483648 ≤ vr4 ∧ vr4 < 2147483648 := hr9
    refine ⟨_, rfl, (by decide), ?_⟩
    refine fun w0 hw0 => ?_; obtain rfl : w0 = some 1 := hw0.symm.trans (FS.g (FS.u hF rfl) rfl)
    refine ⟨_, rfl, (by decide), ?_⟩
    refine ⟨fun (c10 : ((vr4 : Int) < 0)) => ?_, fun (c10 : (¬ ((vr4 : Int) < 0))) => ?_⟩
    ·
      refine ⟨_, rfl, (by decide), ?_⟩
      refine fun w0 hw0 => ?_; obtain rfl : w0 = some 220 := hw0.symm.trans (FS.g (FS.u hF rfl) rfl)
      refine ⟨⟨_, hp2.1.1, (by have := hp2.2; show _ < 254; omega)⟩, ?_⟩
      refine Call_wp (lv := [some (vr (1 + 89 + 3 * Int.toNat v0)), some (vr 220)]) (by decide) ckX5_copyFrom [] rfl rfl ?_
      refine ⟨_, rfl, (by decide), ?_⟩
      have r11 : 0 ≤ (I5 220 0) ∧ (I5 220 0) ≤ 1 := hR6.b (c := 5) (m := 5) rfl (by decide) ⟨by decide, by decide⟩
      refine ⟨_, hp2.1.1, (by have := hp2.2; show _ < 254; omega), (show ((I5 220 0) : Int) = 0 ∨ ((I5 220 0) : Int) = 1 from by omega), ?_⟩
      have a12 : -2147483648 ≤ (I5 220 0) ∧ (I5 220 0) < 2147483648 := hA7.1 _ _
      have p13 : ((I5 220 0) : Int) = 0 ∨ ((I5 220 0) : Int) = 1 := by omega
      refine ⟨_, rfl, (by decide), ?_⟩
      refine fun w0 hw0 => ?_; obtain rfl : w0 = some 221 := hw0.symm.trans (FS.g (FS.u hF rfl) rfl)
      refine ⟨_, hp2.1.1, (by have := hp2.2; show _ < 254; omega), ?_⟩
      refine fun w0 hw0 => ?_; obtain rfl : w0 = some ((1 + 89 + 3 * Int.toNat v0) + 1) := hw0.symm.trans hp2.x.1.2.2.2.2.1
      refine ⟨_, _, _, (by decide), rfl, hp2.1.2.1, (by decide), (by have := hp2.2; show _ < 254; omega), (by decide), (by decide), (by decide), (by decide), (by decide), (by decide), (by omega), ?_⟩
      refine ⟨_, rfl, (by decide), ?_⟩
      refine fun w0 hw0 => ?_; obtain rfl : w0 = some 222 := hw0.symm.trans (FS.g (FS.u hF rfl) rfl)
      refine ⟨_, hp2.1.1, (by have := hp2.2; show _ < 254; omega), ?_⟩
      refine fun w0 hw0 => ?_; obtain rfl : w0 = some ((1 + 89 + 3 * Int.toNat v0) + 2) := hw0.symm.trans hp2.x.1.2.2.2.2.2
      refine ⟨_, _, _, (by decide), rfl, hp2.1.2.2.1, (by decide), (by have := hp2.2; show _ < 254; omega), (by decide), (by decide), (by decide), (by decide), (by decide), (by decide), (by omega), ?_⟩
      refine ⟨_, rfl, (by decide), ?_⟩
      have u14 : ((cI (cI (uI (uI I5 1 5 0) (1 + 89 + 3 * Int.toNat v0) 0 (I5 220 0)) 221 0 ((1 + 89 + 3 * Int.toNat v0) + 1) 0 32) 222 0 ((1 + 89 + 3 * Int.toNat v0) + 2) 0 32) 220 3) = ((uI (uI I5 1 5 0) (1 + 89 + 3 * Int.toNat v0) 0 (I5 220 0)) 220 3) := (cI_o (lay_ne (show lay 220 = (5, 5) from rfl) hp2.1.2.2.1 (by decide))).trans (cI_o (lay_ne (show lay 220 = (5, 5) from rfl) hp2.1.2.1 (by decide)))
      refine ⟨_, hp2.1.1, (by have := hp2.2; show _ < 254; omega), ?_⟩
      refine ⟨_, rfl, (by decide), ?_⟩
      refine ⟨_, hp2.1.1, (by have := hp2.2; show _ < 254; omega), ?_⟩
      refine ⟨rfl, ?_⟩
      refine ⟨_, hp2.1.1, (by have := hp2.2; show _ < 254; omega), (by decide), ?_⟩
      have p15 : (1 : Int) = 0 ∨ (1 : Int) = 1 := by decide
      refine ⟨_, hp2.1.1, (by have := hp2.2; show _ < 254; omega), ?_⟩
      have u16 : ((uI (uI (uI (cI (cI (uI (uI I5 1 5 0) (1 + 89 + 3 * Int.toNat v0) 0 (I5 220 0)) 221 0 ((1 + 89 + 3 * Int.toNat v0) + 1) 0 32) 222 0 ((1 + 89 + 3 * Int.toNat v0) + 2) 0 32) (1 + 89 + 3 * Int.toNat v0) 3 ((cI (cI (uI (uI I5 1 5 0) (1 + 89 + 3 * Int.toNat v0) 0 (I5 220 0)) 221 0 ((1 + 89 + 3 * Int.toNat v0) + 1) 0 32) 222 0 ((1 + 89 + 3 * Int.toNat v0) + 2) 0 32) 220 3)) (1 + 89 + 3 * Int.toNat v0) 4 ((uI (cI (cI (uI (uI I5 1 5 0) (1 + 89 + 3 * Int.toNat v0) 0 (I5 220 0)) 221 0 ((1 + 89 + 3 * Int.toNat v0) + 1) 0 32) 222 0 ((1 + 89 + 3 * Int.toNat v0) + 2) 0 32) (1 + 89 + 3 * Int.toNat v0) 3 ((cI (cI (uI (uI I5 1 5 0) (1 + 89 + 3 * Int.toNat v0) 0 (I5 220 0)) 221 0 ((1 + 89 + 3 * Int.toNat v0) + 1) 0 32) 222 0 ((1 + 89 + 3 * Int.toNat v0) + 2) 0 32) 220 3)) 220 4)) (1 + 89 + 3 * Int.toNat v0) 0 1) (1 + 89 + 3 * Int.toNat v0) 4) = ((uI (cI (cI (uI (uI I5 1 5 0) (1 + 89 + 3 * Int.toNat v0) 0 (I5 220 0)) 221 0 ((1 + 89 + 3 * Int.toNat v0) + 1) 0 32) 222 0 ((1 + 89 + 3 * Int.toNat v0) + 2) 0 32) (1 + 89 + 3 * Int.toNat v0) 3 ((cI (cI (uI (uI I5 1 5 0) (1 + 89 + 3 * Int.toNat v0) 0 (I5 220 0)) 221 0 ((1 + 89 + 3 * Int.toNat v0) + 1) 0 32) 222 0 ((1 + 89 + 3 * Int.toNat v0) + 2) 0 32) 220 3)) 220 4) := (uJ_ne (by decide)).trans (uJ_eq)
      have u17 : ((uI (uI (uI (cI (cI (uI (uI I5 1 5 0) (1 + 89 + 3 * Int.toNat v0) 0 (I5 220 0)) 221 0 ((1 + 89 + 3 * Int.toNat v0) + 1) 0 32) 222 0 ((1 + 89 + 3 * Int.toNat v0) + 2) 0 32) (1 + 89 + 3 * Int.toNat v0) 3 ((cI (cI (uI (uI I5 1 5 0) (1 + 89 + 3 * Int.toNat v0) 0 (I5 220 0)) 221 0 ((1 + 89 + 3 * Int.toNat v0) + 1) 0 32) 222 0 ((1 + 89 + 3 * Int.toNat v0) + 2) 0 32) 220 3)) (1 + 89 + 3 * Int.toNat v0) 4 ((uI (cI (cI (uI (uI I5 1 5 0) (1 + 89 + 3 * Int.toNat v0) 0 (I5 220 0)) 221 0 ((1 + 89 + 3 * Int.toNat v0) + 1) 0 32) 222 0 ((1 + 89 + 3 * Int.toNat v0) + 2) 0 32) (1 + 89 + 3 * Int.toNat v0) 3 ((cI (cI (uI (uI I5 1 5 0) (1 + 89 + 3 * Int.toNat v0) 0 (I5 220 0)) 221 0 ((1 + 89 + 3 * Int.toNat v0) + 1) 0 32) 222 0 ((1 + 89 + 3 * Int.toNat v0) + 2) 0 32) 220 3)) 220 4)) (1 + 89 + 3 * Int.toNat v0) 0 1) 1 5) = 0 := (uI_o (fun e => absurd e.1 (lay_ne (show lay 1 = (8, 12) from rfl) hp2.1.1 (by decide)))).trans ((uI_o (fun e => absurd e.1 (lay_ne (show lay 1 = (8, 12) from rfl) hp2.1.1 (by decide)))).trans ((uI_o (fun e => absurd e.1 (lay_ne (show lay 1 = (8, 12) from rfl) hp2.1.1 (by decide)))).trans ((cI_o (lay_ne (show lay 1 = (8, 12) from rfl) hp2.1.2.2.1 (by decide))).trans ((cI_o (lay_ne (show lay 1 = (8, 12) from rfl) hp2.1.2.1 (by decide))).trans ((uI_o (fun e => absurd e.1 (lay_ne (show lay 1 = (8, 12) from rfl) hp2.1.1 (by decide)))).trans (uJ_eq))))))
      have u18 : ((uI (uI (uI (cI (cI (uI (uI I5 1 5 0) (1 + 89 + 3 * Int.toNat v0) 0 (I5 220 0)) 221 0 ((1 + 89 + 3 * Int.toNat v0) + 1) 0 32) 222 0 ((1 + 89 + 3 * Int.toNat v0) + 2) 0 32) (1 + 89 + 3 * Int.toNat v0) 3 ((cI (cI (uI (uI I5 1 5 0) (1 + 89 + 3 * Int.toNat v0) 0 (I5 220 0)) 221 0 ((1 + 89 + 3 * Int.toNat v0) + 1) 0 32) 222 0 ((1 + 89 + 3 * Int.toNat v0) + 2) 0 32) 220 3)) (1 + 89 + 3 * Int.toNat v0) 4 ((uI (cI (cI (uI (uI I5 1 5 0) (1 + 89 + 3 * Int.toNat v0) 0 (I5 220 0)) 221 0 ((1 + 89 + 3 * Int.toNat v0) + 1) 0 32) 222 0 ((1 + 89 + 3 * Int.toNat v0) + 2) 0 32) (1 + 89 + 3 * Int.toNat v0) 3 ((cI (cI (uI (uI I5 1 5 0) (1 + 89 + 3 * Int.toNat v0) 0 (I5 220 0)) 221 0 ((1 + 89 + 3 * Int.toNat v0) + 1) 0 32) 222 0 ((1 + 89 + 3 * Int.toNat v0) + 2) 0 32) 220 3)) 220 4)) (1 + 89 + 3 * Int.toNat v0) 0 1) 1 5) = 0 := (uI_o (fun e => absurd e.1 (lay_ne (show lay 1 = (8, 12) from rfl) hp2.1.1 (by decide)))).trans ((uI_o (fun e => absurd e.1 (lay_ne (show lay 1 = (8, 12) from rfl) hp2.1.1 (by decide)))).trans ((uI_o (fun e => absurd e.1 (lay_ne (show lay 1 = (8, 12) from rfl) hp2.1.1 (by decide)))).trans ((cI_o (lay_ne (show lay 1 = (8, 12) from rfl) hp2.1.2.2.1 (by decide))).trans ((cI_o (lay_ne (show lay 1 = (8, 12) from rfl) hp2.1.2.1 (by decide))).trans ((uI_o (fun e => absurd e.1 (lay_ne (show lay 1 = (8, 12) from rfl) hp2.1.1 (by decide)))).trans (uJ_eq))))))
      exact ⟨rfl, fun hv hA' => hQ _ _ _ (FS.u hF rfl) (Rg.u (Rg.u (Rg.u (Rg.c (Rg.c (Rg.u (Rg.u hR6 (Pr_f rfl)) (Pr_b (by have := hp2.2; omega) p13)) (fun _ _ => Pr_l hp2.1.2.1 (by have := hp2.2; omega) _ _ ⟨Or.inl (by decide), Or.inl (by decide), Or.inl (by decide)⟩)) (fun _ _ => Pr_l hp2.1.2.2.1 (by have := hp2.2; omega) _ _ ⟨Or.inl (by decide), Or.inl (by decide), Or.inl (by decide)⟩)) (Pr_l hp2.1.1 (by have := hp2.2; omega) _ _ (by decide))) (Pr_l hp2.1.1 (by have := hp2.2; omega) _ _ (by decide))) (Pr_b (by have := hp2.2; omega) p15)) hA' (hv _ rfl) (fun ka ja hk => ((uI_o (show ¬ (ka = (1 + 89 + 3 * Int.toNat v0) ∧ ja = 0) from by have := hp2.2; omega))).trans (((uI_o (show ¬ (ka = (1 + 89 + 3 * Int.toNat v0) ∧ ja = 4) from by have := hp2.2; omega))).trans (((uI_o (show ¬ (ka = (1 + 89 + 3 * Int.toNat v0) ∧ ja = 3) from by have := hp2.2; omega))).trans (((cI_o (show ¬ ka = ((1 + 89 + 3 * Int.toNat v0) + 2) from by have := hp2.2; omega))).trans (((cI_o (show ¬ ka = ((1 + 89 + 3 * Int.toNat v0) + 1) from by have := hp2.2; omega))).trans (((uI_o (show ¬ (ka = (1 + 89 + 3 * Int.toNat v0) ∧ ja = 0) from by have := hp2.2; omega))).trans (((uI_o (show ¬ (ka = 1 ∧ ja = 5) from by omega))).trans ((hW8 ka ja (by omega)))))))))) (show 0 ≤ v0 ∧ v0 < 4 → ((uI (uI (uI (cI (cI (uI (uI I5 1 5 0) (1 + 89 + 3 * Int.toNat v0) 0 (I5 220 0)) 221 0 ((1 + 89 + 3 * Int.toNat v0) + 1) 0 32) 222 0 ((1 + 89 + 3 * Int.toNat v0) + 2) 0 32) (1 + 89 + 3 * Int.toNat v0) 3 ((cI (cI (uI (uI I5 1 5 0) (1 + 89 + 3 * Int.toNat v0) 0 (I5 220 0)) 221 0 ((1 + 89 + 3 * Int.toNat v0) + 1) 0 32) 222 0 ((1 + 89 + 3 * Int.toNat v0) + 2) 0 32) 220 3)) (1 + 89 + 3 * Int.toNat v0) 4 ((uI (cI (cI (uI (uI I5 1 5 0) (1 + 89 + 3 * Int.toNat v0) 0 (I5 220 0)) 221 0 ((1 + 89 + 3 * Int.toNat v0) + 1) 0 32) 222 0 ((1 + 89 + 3 * Int.toNat v0) + 2) 0 32) (1 + 89 + 3 * Int.toNat v0) 3 ((cI (cI (uI (uI I5 1 5 0) (1 + 89 + 3 * Int.toNat v0) 0 (I5 220 0)) 221 0 ((1 + 89 + 3 * Int.toNat v0) + 1) 0 32) 222 0 ((1 + 89 + 3 * Int.toNat v0) + 2) 0 32) 220 3)) 220 4)) (1 + 89 + 3 * Int.toNat v0) 0 1) 1 5) = 0 from by first | omega | (simp only [wr, wl] at *; omega)) (show ¬ (0 ≤ v0 ∧ v0 < 4) → ((uI (uI (uI (cI (cI (uI (uI I5 1 5 0) (1 + 89 + 3 * Int.toNat v0) 0 (I5 220 0)) 221 0 ((1 + 89 + 3 * Int.toNat v0) + 1) 0 32) 222 0 ((1 + 89 + 3 * Int.toNat v0) + 2) 0 32) (1 + 89 + 3 * Int.toNat v0) 3 ((cI (cI (uI (uI I5 1 5 0) (1 + 89 + 3 * Int.toNat v0) 0 (I5 220 0)) 221 0 ((1 + 89 + 3 * Int.toNat v0) + 1) 0 32) 222 0 ((1 + 89 + 3 * Int.toNat v0) + 2) 0 32) 220 3)) (1 + 89 + 3 * Int.toNat v0) 4 ((uI (cI (cI (uI (uI I5 1 5 0) (1 + 89 + 3 * Int.toNat v0) 0 (I5 220 0)) 221 0 ((1 + 89 + 3 * Int.toNat v0) + 1) 0 32) 222 0 ((1 + 89 + 3 * Int.toNat v0) + 2) 0 32) (1 + 89 + 3 * Int.toNat v0) 3 ((cI (cI (uI (uI I5 1 5 0) (1 + 89 + 3 * Int.toNat v0) 0 (I5 220 0)) 221 0 ((1 + 89 + 3 * Int.toNat v0) + 1) 0 32) 222 0 ((1 + 89 + 3 * Int.toNat v0) + 2) 0 32) 220 3)) 220 4)) (1 + 89 + 3 * Int.toNat v0) 0 1) 1 5) = (I 1 5) from by first | omega | (simp only [wr, wl] at *; omega))⟩
    ·
      have n19 : -2147483648 ≤ (wr ((-10) - vr4)) ∧ (wr ((-10) - vr4)) < 2147483648 := wr_R _
      exact ⟨rfl, fun hv hA' => hQ _ _ _ (FS.u hF rfl) (Rg.u hR6 (Pr_f rfl)) hA' (hv _ rfl) (fun ka ja hk => ((uI_o (show ¬ (ka = 1 ∧ ja = 5) from by omega))).trans ((hW8 ka ja (by omega)))) (show 0 ≤ v0 ∧ v0 < 4 → 0 = 0 from by first | omega | (simp only [wr, wl] at *; omega)) (show ¬ (0 ≤ v0 ∧ v0 < 4) → 0 = (I 1 5) from by first | omega | (simp only [wr, wl] at *; omega))⟩
  ·
    refine ⟨⟨_, rfl, (by decide)⟩, ?_⟩
    refine s_X11_refuse hF (e := 1) (by decide) ?_
    have a20 : -2147483648 ≤ (I 1 5) ∧ (I 1 5) < 2147483648 := hA.1 _ _
    exact ⟨rfl, fun hv hA' => hQ _ _ _ hF (Rg.u hR (Pr_f rfl)) hA' (hv _ rfl) (fun ka ja hk => (uI_o (show ¬ (ka = 203 ∧ ja = 1) from by omega))) (show 0 ≤ v0 ∧ v0 < 4 → (I 1 5) = 0 from by first | omega | (simp only [wr, wl] at *; omega)) (show ¬ (0 ≤ v0 ∧ v0 < 4) → (I 1 5) = (I 1 5) from by first | omega | (simp only [wr, wl] at *; omega))⟩
theorem r_program2_l2 (hF : FS F) (hR : Rg I) {v0 : Int} (hp : 0 ≤ v0 ∧ v0 ≤ 3) (hQ : ∀ (r : Int) (I' : pI), Rg I' → (∀ k j, ¬ ((k = 235 ∧ (j = 6 ∨ j = 7 ∨ j = 8 ∨ j = 9)) ∨ k = 241 ∨ k = 238 ∨ (k = 236 ∧ (j = 2 ∨ (40 ≤ j ∧ j < 184)))) → I' k j = I k j) → ((I' 236 2) = 0) → Q (some (vi r)) F I') : ∀ (mz : Nat) (fi b k : Int) (J : pI), Rg J → (∀ k j, ¬ ((k = 235 ∧ (j = 6 ∨ j = 7 ∨ j = 8 ∨ j = 9)) ∨ k = 241 ∨ k = 238 ∨ (k = 236 ∧ (j = 2 ∨ (40 ≤ j ∧ j < 184)))) → J k j = I k j) → ((0 : Int) ≤ fi) → ((fi : Int) ≤ 17) → ((0 : Int) ≤ k) → ((k : Int) ≤ 36) → ((J 236 2) = 0) → (36 - k).toNat < mz → GoN G d kX12_program NP NP 169 [some (vr 235), some (vi v0), some (vi fi), some (vi b), some (vi k)] [] F J Q := by
  intro mz
  induction mz with
  | zero => intro fi b k J hJ hV _ _ _ _ _ h; exact absurd h (Nat.not_lt_zero _)
  | succ mz ih =>
    intro fi b k J hJ hV c100 c101 c102 c103 c104 hm
    refine GoN_in (fun hok hA => ?_)
    have iiv0 : -2147483648 ≤ v0 ∧ v0 < 2147483648 := hok 1 _ rfl
    have iifi : -2147483648 ≤ fi ∧ fi < 2147483648 := hok 2 _ rfl
    have iib : -2147483648 ≤ b ∧ b < 2147483648 := hok 3 _ rfl
    have iik : -2147483648 ≤ k ∧ k < 2147483648 := hok 4 _ rfl
    have r1 : 0 ≤ (J 236 2) ∧ (J 236 2) ≤ 64 := Rg.n2 hJ
    have a2 : -2147483648 ≤ (J 236 2) ∧ (J 236 2) < 2147483648 := hA.1 _ _
    refine Go_wp (by decide) ckX12_program [169] ?_
    refine ⟨fun (c3 : ((36 : Int) ≤ k)) => ?_, fun (c3 : (¬ ((36 : Int) ≤ k))) => ?_⟩
    ·
      refine ⟨_, rfl, (by decide), ?_⟩
      have r4 : 0 ≤ (J 235 9) ∧ (J 235 9) ≤ 17 := Rg.f9 hJ
      have a5 : -2147483648 ≤ (J 235 9) ∧ (J 235 9) < 2147483648 := hA.1 _ _
      exact ⟨rfl, hQ _ _ hJ (fun ka ja hk => (hV ka ja (by omega))) (show (J 236 2) = 0 from by first | omega | (simp only [wr, wl] at *; omega))⟩
    ·
      refine ⟨_, rfl, (by decide), ?_⟩
      refine fun w0 hw0 => ?_; obtain rfl : w0 = some 236 := hw0.symm.trans (FS.g hF rfl)
      refine ⟨_, rfl, (by decide), ?_⟩
      refine fun w0 hw0 => ?_; obtain rfl : w0 = some 241 := hw0.symm.trans (FS.g hF rfl)
      refine ⟨_, rfl, (by decide), (show (0 : Int) ≤ k from by first | omega | (simp only [wr, wl] at *; omega)), (show k < (36 : Int) from by first | omega | (simp only [wr, wl] at *; omega)), ?_⟩
      have n6 : (wr (36 * v0)) = 36 * v0 := wr_id (show -2147483648 ≤ (36 * v0 : Int) ∧ (36 * v0 : Int) < 2147483648 from by omega)
      have n7 : (wr (40 + (wr (36 * v0)))) = 40 + (wr (36 * v0)) := wr_id (show -2147483648 ≤ (40 + (wr (36 * v0)) : Int) ∧ (40 + (wr (36 * v0)) : Int) < 2147483648 from by omega)
      have n8 : (wr ((wr (40 + (wr (36 * v0)))) + k)) = (wr (40 + (wr (36 * v0)))) + k := wr_id (show -2147483648 ≤ ((wr (40 + (wr (36 * v0)))) + k : Int) ∧ ((wr (40 + (wr (36 * v0)))) + k : Int) < 2147483648 from by omega)
      refine ⟨_, rfl, (by decide), (show (0 : Int) ≤ (wr ((wr (40 + (wr (36 * v0)))) + k)) from by first | omega | (simp only [wr, wl] at *; omega)), (show (wr ((wr (40 + (wr (36 * v0)))) + k)) < (1340 : Int) from by first | omega | (simp only [wr, wl] at *; omega)), ?_⟩
      have n9 : (wr (k + 1)) = k + 1 := wr_id (show -2147483648 ≤ (k + 1 : Int) ∧ (k + 1 : Int) < 2147483648 from by omega)
      have u10 : ((uI J 236 (Int.toNat (wr ((wr (40 + (wr (36 * v0)))) + k))) (J 241 (Int.toNat k))) 236 2) = (J 236 2) := uJ_ne (by omega)
      exact ih fi b (wr (k + 1)) (uI J 236 (Int.toNat (wr ((wr (40 + (wr (36 * v0)))) + k))) (J 241 (Int.toNat k))) (Rg.u hJ (Pr_n (by have := Pn_sh (p := Int.toNat v0) (k := Int.toNat k) (by omega) (by omega) (hJ.r (Int.toNat k) (by omega)); rwa [show 40 + 36 * Int.toNat v0 + Int.toNat k = (Int.toNat (wr ((wr (40 + (wr (36 * v0)))) + k))) from by omega] at this))) (fun ka ja hk => ((uI_o (show ¬ (ka = 236 ∧ ja = (Int.toNat (wr ((wr (40 + (wr (36 * v0)))) + k)))) from by omega))).trans ((hV ka ja (by omega)))) (show (0 : Int) ≤ fi from by first | omega | (simp only [wr, wl] at *; omega)) (show (fi : Int) ≤ 17 from by first | omega | (simp only [wr, wl] at *; omega)) (show (0 : Int) ≤ (wr (k + 1)) from by first | omega | (simp only [wr, wl] at *; omega)) (show ((wr (k + 1)) : Int) ≤ 36 from by first | omega | (simp only [wr, wl] at *; omega)) (show ((uI J 236 (Int.toNat (wr ((wr (40 + (wr (36 * v0)))) + k))) (J 241 (Int.toNat k))) 236 2) = 0 from by first | omega | (simp only [wr, wl] at *; omega)) (show (36 - (wr (k + 1))).toNat < mz from by omega)
theorem r_program2_l1 (hF : FS F) (hR : Rg I) {v0 : Int} (hp : 0 ≤ v0 ∧ v0 ≤ 3) (hQ : ∀ (r : Int) (I' : pI), Rg I' → (∀ k j, ¬ ((k = 235 ∧ (j = 6 ∨ j = 7 ∨ j = 8 ∨ j = 9)) ∨ k = 241 ∨ k = 238 ∨ (k = 236 ∧ (j = 2 ∨ (40 ≤ j ∧ j < 184)))) → I' k j = I k j) → ((I' 236 2) = 0) → Q (some (vi r)) F I') : ∀ (mz : Nat) (q b : Int) (J : pI), Rg J → (∀ k j, ¬ ((k = 235 ∧ (j = 6 ∨ j = 7 ∨ j = 8 ∨ j = 9)) ∨ k = 241 ∨ k = 238 ∨ (k = 236 ∧ (j = 2 ∨ (40 ≤ j ∧ j < 184)))) → J k j = I k j) → ((0 : Int) ≤ q) → ((q : Int) ≤ 17) → ((J 235 6) ≤ (J 235 7)) → ((J 235 7) ≤ (J 236 2)) → ((J 235 6) < (J 236 2) → (J 235 6) < (J 235 7)) → ((J 235 8) = 0 → 4 * (J 235 9) ≤ (J 235 6) + 1) → (65 - (J 235 6)).toNat < mz → GoN G (d + 6) kX12_program NP NP 42 [some (vr 235), some (vi v0), some (vi q), some (vi b), none] [] F J Q := by
  intro mz
  induction mz with
  | zero => intro q b J hJ hV _ _ _ _ _ _ h; exact absurd h (Nat.not_lt_zero _)
  | succ mz ih =>
    intro q b J hJ hV c100 c101 c102 c103 c104 c105 hm
    refine GoN_in (fun hok hA => ?_)
    have iiv0 : -2147483648 ≤ v0 ∧ v0 < 2147483648 := hok 1 _ rfl
    have iiq : -2147483648 ≤ q ∧ q < 2147483648 := hok 2 _ rfl
    have iib : -2147483648 ≤ b ∧ b < 2147483648 := hok 3 _ rfl
    have r1 : 0 ≤ (J 235 6) ∧ (J 235 6) ≤ 64 := Rg.f6 hJ
    have a2 : -2147483648 ≤ (J 235 6) ∧ (J 235 6) < 2147483648 := hA.1 _ _
    have r3 : 0 ≤ (J 235 7) ∧ (J 235 7) ≤ 64 := Rg.f7 hJ
    have a4 : -2147483648 ≤ (J 235 7) ∧ (J 235 7) < 2147483648 := hA.1 _ _
    have a5 : -2147483648 ≤ (J 235 8) ∧ (J 235 8) < 2147483648 := hA.1 _ _
    have r6 : 0 ≤ (J 235 9) ∧ (J 235 9) ≤ 17 := Rg.f9 hJ
    have a7 : -2147483648 ≤ (J 235 9) ∧ (J 235 9) < 2147483648 := hA.1 _ _
    have r8 : 0 ≤ (J 236 2) ∧ (J 236 2) ≤ 64 := Rg.n2 hJ
    have a9 : -2147483648 ≤ (J 236 2) ∧ (J 236 2) < 2147483648 := hA.1 _ _
    refine Go_wp (by decide) ckX12_program [42, 169] ?_
    refine ⟨fun (c10 : ((b : Int) = 0)) => ?_, fun (c10 : (¬ ((b : Int) = 0))) => ?_⟩
    ·
      refine ⟨⟨_, rfl, (by decide)⟩, ?_⟩
      refine r_takes_16  hF hJ (show (J 235 6) ≤ (J 235 7) from by first | omega | (simp only [wr, wl] at *; omega)) (show (J 235 7) ≤ (J 236 2) from by first | omega | (simp only [wr, wl] at *; omega)) (show (J 235 6) < (J 236 2) → (J 235 6) < (J 235 7) from by first | omega | (simp only [wr, wl] at *; omega)) (fun vr11 I12 hR13 hA14 hr16 hW15 q17 q18 q19 q20 q21 q22 q23 => ?_)
      have hr16 : -2147483648 ≤ vr11 ∧ vr11 < 2147483648 := hr16
      have q17 : vr11 = 1 → (J 235 6) + 1 ≤ (I12 235 6) := q17
      have q18 : (I12 235 6) ≤ (I12 235 7) := q18
      have q19 : (I12 235 7) ≤ (J 236 2) := q19
      have q20 : (I12 235 6) < (J 236 2) → (I12 235 6) < (I12 235 7) := q20
      have q21 : (J 235 6) ≤ (I12 235 6) := q21
      have q22 : vr11 = 1 → (J 235 8) = 0 := q22
      have q23 : 0 ≤ vr11 ∧ vr11 ≤ 1 := q23
      refine ⟨fun (c24 : ((vr11 : Int) = 0)) => ?_, fun (c24 : (¬ ((vr11 : Int) = 0))) => ?_⟩
      ·
        refine ⟨_, rfl, (by decide), ?_⟩
        have u25 : (I12 235 8) = (J 235 8) := hW15 _ _ (by first | omega | decide)
        have a26 : -2147483648 ≤ (I12 235 8) ∧ (I12 235 8) < 2147483648 := hA14.1 _ _
        refine ⟨fun (c27 : (¬ ((I12 235 8) : Int) = 0)) => ?_, fun (c27 : (((I12 235 8) : Int) = 0)) => ?_⟩
        ·
          refine ⟨_, rfl, (by decide), (by decide), ?_⟩
          refine ⟨_, rfl, (by decide), ?_⟩
          refine fun w0 hw0 => ?_; obtain rfl : w0 = some 236 := hw0.symm.trans (FS.g hF rfl)
          refine ⟨_, rfl, (by decide), (by decide), (by decide), ?_⟩
          have p28 : Pn 2 0 := by apply Pn_w <;> omega
          refine ⟨_, rfl, (by decide), ?_⟩
          refine ⟨fun c => absurd c (show (¬ ((1 : Int) = 0)) from by decide), fun _ => ?_⟩
          refine ⟨_, rfl, (by decide), ?_⟩
          have r29 : 0 ≤ (I12 235 6) ∧ (I12 235 6) ≤ 64 := Rg.f6 hR13
          have a30 : -2147483648 ≤ (I12 235 6) ∧ (I12 235 6) < 2147483648 := hA14.1 _ _
          have n31 : (wr ((-10) - (I12 235 6))) = (-10) - (I12 235 6) := wr_id (show -2147483648 ≤ ((-10) - (I12 235 6) : Int) ∧ ((-10) - (I12 235 6) : Int) < 2147483648 from by omega)
          exact ⟨rfl, hQ _ _ (Rg.u (Rg.u hR13 (Pr_f rfl)) (Pr_n p28)) (fun ka ja hk => ((uI_o (show ¬ (ka = 236 ∧ ja = 2) from by omega))).trans (((uI_o (show ¬ (ka = 235 ∧ ja = 8) from by omega))).trans (((hW15 ka ja (by omega))).trans ((hV ka ja (by omega)))))) (show 0 = 0 from by first | omega | (simp only [wr, wl] at *; omega))⟩
        ·
          refine ⟨_, rfl, (by decide), ?_⟩
          have r32 : 0 ≤ (I12 235 6) ∧ (I12 235 6) ≤ 64 := Rg.f6 hR13
          refine ⟨_, rfl, (by decide), ?_⟩
          refine fun w0 hw0 => ?_; obtain rfl : w0 = some 236 := hw0.symm.trans (FS.g hF rfl)
          refine ⟨_, rfl, (by decide), (by decide), (by decide), ?_⟩
          have u33 : (I12 236 2) = (J 236 2) := hW15 _ _ (by first | omega | decide)
          have a34 : -2147483648 ≤ (I12 236 2) ∧ (I12 236 2) < 2147483648 := hA14.1 _ _
          have r35 : 0 ≤ (I12 236 2) ∧ (I12 236 2) ≤ 64 := Rg.n2 hR13
          have a36 : -2147483648 ≤ (I12 235 6) ∧ (I12 235 6) < 2147483648 := hA14.1 _ _
          refine ⟨fun (c37 : (((I12 236 2) : Int) ≤ (I12 235 6))) => ?_, fun (c37 : (¬ (((I12 236 2) : Int) ≤ (I12 235 6)))) => ?_⟩
          ·
            refine ⟨_, rfl, (by decide), (by decide), ?_⟩
            refine ⟨_, rfl, (by decide), ?_⟩
            refine fun w0 hw0 => ?_; obtain rfl : w0 = some 236 := hw0.symm.trans (FS.g hF rfl)
            refine ⟨_, rfl, (by decide), (by decide), (by decide), ?_⟩
            have p38 : Pn 2 0 := by apply Pn_w <;> omega
            refine ⟨_, rfl, (by decide), ?_⟩
            refine ⟨fun _ => ?_, fun c => absurd (show ((0 : Int) = 0) from by decide) c⟩
            refine ⟨_, rfl, (by decide), ?_⟩
            refine fun w0 hw0 => ?_; obtain rfl : w0 = some 241 := hw0.symm.trans (FS.g hF rfl)
            refine ⟨_, rfl, (by decide), ?_⟩
            have u39 : (I12 235 9) = (J 235 9) := hW15 _ _ (by first | omega | decide)
            have a40 : -2147483648 ≤ (I12 235 9) ∧ (I12 235 9) < 2147483648 := hA14.1 _ _
            have r41 : 0 ≤ (I12 235 9) ∧ (I12 235 9) ≤ 17 := Rg.f9 hR13
            refine ⟨_, rfl, (by decide), (by decide), (by decide), ?_⟩
            have p42 : Pn (40 + 0) (I12 235 9) := by apply Pn_w <;> omega
            refine ⟨_, rfl, (by decide), ?_⟩
            refine fun w0 hw0 => ?_; obtain rfl : w0 = some 241 := hw0.symm.trans (FS.g hF rfl)
            refine ⟨fun _ => ?_, fun c => absurd (show ((b : Int) = 0) from by first | omega | (simp only [wr, wl] at *; omega)) c⟩
            refine ⟨_, rfl, (by decide), ?_⟩
            refine ⟨_, rfl, (by decide), (by decide), (by decide), ?_⟩
            have p43 : Pn (40 + 1) (I12 235 9) := by apply Pn_w <;> omega
            refine r_program2_l2 hF hR (by omega) hQ _ q b 0 (uI (uI (uI (uI I12 235 8 0) 236 2 0) 241 0 (I12 235 9)) 241 1 (I12 235 9)) (Rg.u (Rg.u (Rg.u (Rg.u hR13 (Pr_f rfl)) (Pr_n p38)) (Pr_r p42)) (Pr_r p43)) (fun ka ja hk => ((uI_o (show ¬ (ka = 241 ∧ ja = 1) from by omega))).trans (((uI_o (show ¬ (ka = 241 ∧ ja = 0) from by omega))).trans (((uI_o (show ¬ (ka = 236 ∧ ja = 2) from by omega))).trans (((uI_o (show ¬ (ka = 235 ∧ ja = 8) from by omega))).trans (((hW15 ka ja (by omega))).trans ((hV ka ja (by omega)))))))) (show (0 : Int) ≤ q from by first | omega | (simp only [wr, wl] at *; omega)) (show (q : Int) ≤ 17 from by first | omega | (simp only [wr, wl] at *; omega)) (show (0 : Int) ≤ (0 : Int) from by first | omega | (simp only [wr, wl] at *; omega)) (show ((0 : Int) : Int) ≤ 36 from by first | omega | (simp only [wr, wl] at *; omega)) (show (0 : Int) = 0 from by first | omega | (simp only [wr, wl] at *; omega)) (Nat.lt_succ_self _)
          ·
            refine ⟨_, rfl, (by decide), (by decide), ?_⟩
            refine ⟨_, rfl, (by decide), ?_⟩
            refine fun w0 hw0 => ?_; obtain rfl : w0 = some 236 := hw0.symm.trans (FS.g hF rfl)
            refine ⟨_, rfl, (by decide), (by decide), (by decide), ?_⟩
            have p44 : Pn 2 0 := by apply Pn_w <;> omega
            refine ⟨_, rfl, (by decide), ?_⟩
            refine ⟨fun c => absurd c (show (¬ ((1 : Int) = 0)) from by decide), fun _ => ?_⟩
            refine ⟨_, rfl, (by decide), ?_⟩
            have n45 : (wr ((-10) - (I12 235 6))) = (-10) - (I12 235 6) := wr_id (show -2147483648 ≤ ((-10) - (I12 235 6) : Int) ∧ ((-10) - (I12 235 6) : Int) < 2147483648 from by omega)
            exact ⟨rfl, hQ _ _ (Rg.u (Rg.u hR13 (Pr_f rfl)) (Pr_n p44)) (fun ka ja hk => ((uI_o (show ¬ (ka = 236 ∧ ja = 2) from by omega))).trans (((uI_o (show ¬ (ka = 235 ∧ ja = 8) from by omega))).trans (((hW15 ka ja (by omega))).trans ((hV ka ja (by omega)))))) (show 0 = 0 from by first | omega | (simp only [wr, wl] at *; omega))⟩
      ·
        refine ⟨fun c => absurd (show ((b : Int) = 0) from by first | omega | (simp only [wr, wl] at *; omega)) c, fun _ => ?_⟩
        refine ⟨⟨_, rfl, (by decide)⟩, ?_⟩
        have r46 : 0 ≤ (I12 235 6) ∧ (I12 235 6) ≤ 64 := Rg.f6 hR13
        have a47 : -2147483648 ≤ (I12 235 6) ∧ (I12 235 6) < 2147483648 := hA14.1 _ _
        have r48 : 0 ≤ (I12 235 7) ∧ (I12 235 7) ≤ 64 := Rg.f7 hR13
        have a49 : -2147483648 ≤ (I12 235 7) ∧ (I12 235 7) < 2147483648 := hA14.1 _ _
        have u50 : (I12 236 2) = (J 236 2) := hW15 _ _ (by first | omega | decide)
        have a51 : -2147483648 ≤ (I12 236 2) ∧ (I12 236 2) < 2147483648 := hA14.1 _ _
        have r52 : 0 ≤ (I12 236 2) ∧ (I12 236 2) ≤ 64 := Rg.n2 hR13
        refine r_takes_17  hF hR13 (show (I12 235 6) ≤ (I12 235 7) from by first | omega | (simp only [wr, wl] at *; omega)) (show (I12 235 7) ≤ (I12 236 2) from by first | omega | (simp only [wr, wl] at *; omega)) (show (I12 235 6) < (I12 236 2) → (I12 235 6) < (I12 235 7) from by first | omega | (simp only [wr, wl] at *; omega)) (fun vr53 I54 hR55 hA56 hr58 hW57 q59 q60 q61 q62 q63 q64 q65 => ?_)
        have hr58 : -2147483648 ≤ vr53 ∧ vr53 < 2147483648 := hr58
        have q59 : vr53 = 1 → (I12 235 6) + 4 ≤ (I54 235 6) := q59
        have q60 : (I54 235 6) ≤ (I54 235 7) := q60
        have q61 : (I54 235 7) ≤ (I12 236 2) := q61
        have q62 : (I54 235 6) < (I12 236 2) → (I54 235 6) < (I54 235 7) := q62
        have q63 : (I12 235 6) ≤ (I54 235 6) := q63
        have u66 : (I12 235 8) = (J 235 8) := hW15 _ _ (by first | omega | decide)
        have a67 : -2147483648 ≤ (I12 235 8) ∧ (I12 235 8) < 2147483648 := hA14.1 _ _
        have q64 : vr53 = 1 → (I12 235 8) = 0 := q64
        have q65 : 0 ≤ vr53 ∧ vr53 ≤ 1 := q65
        refine ⟨fun (c68 : ((vr53 : Int) = 0)) => ?_, fun (c68 : (¬ ((vr53 : Int) = 0))) => ?_⟩
        ·
          refine ⟨⟨_, rfl, (by decide)⟩, ?_⟩
          have r69 : 0 ≤ (I54 235 6) ∧ (I54 235 6) ≤ 64 := Rg.f6 hR55
          have a70 : -2147483648 ≤ (I54 235 6) ∧ (I54 235 6) < 2147483648 := hA56.1 _ _
          have r71 : 0 ≤ (I54 235 7) ∧ (I54 235 7) ≤ 64 := Rg.f7 hR55
          have a72 : -2147483648 ≤ (I54 235 7) ∧ (I54 235 7) < 2147483648 := hA56.1 _ _
          have u73 : (I54 236 2) = (I12 236 2) := hW57 _ _ (by first | omega | decide)
          have a74 : -2147483648 ≤ (I54 236 2) ∧ (I54 236 2) < 2147483648 := hA56.1 _ _
          have r75 : 0 ≤ (I54 236 2) ∧ (I54 236 2) ≤ 64 := Rg.n2 hR55
          have u76 : (I12 235 9) = (J 235 9) := hW15 _ _ (by first | omega | decide)
          have a77 : -2147483648 ≤ (I12 235 9) ∧ (I12 235 9) < 2147483648 := hA14.1 _ _
          have r78 : 0 ≤ (I12 235 9) ∧ (I12 235 9) ≤ 17 := Rg.f9 hR13
          have u79 : (I54 235 9) = (I12 235 9) := hW57 _ _ (by first | omega | decide)
          have a80 : -2147483648 ≤ (I54 235 9) ∧ (I54 235 9) < 2147483648 := hA56.1 _ _
          have r81 : 0 ≤ (I54 235 9) ∧ (I54 235 9) ≤ 17 := Rg.f9 hR55
          refine r_part  hF hR55 (show (I54 235 6) ≤ (I54 235 7) from by first | omega | (simp only [wr, wl] at *; omega)) (show (I54 235 7) ≤ (I54 236 2) from by first | omega | (simp only [wr, wl] at *; omega)) (show (I54 235 6) < (I54 236 2) → (I54 235 6) < (I54 235 7) from by first | omega | (simp only [wr, wl] at *; omega)) (show (I54 235 9) ≤ 16 from by first | omega | (simp only [wr, wl] at *; omega)) (fun I82 hR83 hA84 hW85 q86 q87 q88 q89 q90 q91 => ?_)
          have q86 : (I82 235 6) ≤ (I82 235 7) := q86
          have q87 : (I82 235 7) ≤ (I54 236 2) := q87
          have q88 : (I82 235 6) < (I54 236 2) → (I82 235 6) < (I82 235 7) := q88
          have q89 : (I54 235 6) ≤ (I82 235 6) := q89
          have q90 : (I82 235 8) = 0 → (I82 235 9) = (I54 235 9) + 1 ∧ (I54 235 6) + 3 ≤ (I82 235 6) := q90
          have q91 : ¬ (I82 235 8) = 0 → (I82 235 9) = (I54 235 9) := q91
          have r92 : 0 ≤ (I82 235 6) ∧ (I82 235 6) ≤ 64 := Rg.f6 hR83
          have a93 : -2147483648 ≤ (I82 235 6) ∧ (I82 235 6) < 2147483648 := hA84.1 _ _
          have r94 : 0 ≤ (I82 235 7) ∧ (I82 235 7) ≤ 64 := Rg.f7 hR83
          have a95 : -2147483648 ≤ (I82 235 7) ∧ (I82 235 7) < 2147483648 := hA84.1 _ _
          have a96 : -2147483648 ≤ (I82 235 8) ∧ (I82 235 8) < 2147483648 := hA84.1 _ _
          have r97 : 0 ≤ (I82 235 9) ∧ (I82 235 9) ≤ 17 := Rg.f9 hR83
          have a98 : -2147483648 ≤ (I82 235 9) ∧ (I82 235 9) < 2147483648 := hA84.1 _ _
          have u99 : (I82 236 2) = (I54 236 2) := hW85 _ _ (by first | omega | decide)
          have a100 : -2147483648 ≤ (I82 236 2) ∧ (I82 236 2) < 2147483648 := hA84.1 _ _
          have r101 : 0 ≤ (I82 236 2) ∧ (I82 236 2) ≤ 64 := Rg.n2 hR83
          exact ih q b I82 hR83 (fun ka ja hk => ((hW85 ka ja (by omega))).trans (((hW57 ka ja (by omega))).trans (((hW15 ka ja (by omega))).trans ((hV ka ja (by omega)))))) (show (0 : Int) ≤ q from by first | omega | (simp only [wr, wl] at *; omega)) (show (q : Int) ≤ 17 from by first | omega | (simp only [wr, wl] at *; omega)) (show (I82 235 6) ≤ (I82 235 7) from by first | omega | (simp only [wr, wl] at *; omega)) (show (I82 235 7) ≤ (I82 236 2) from by first | omega | (simp only [wr, wl] at *; omega)) (show (I82 235 6) < (I82 236 2) → (I82 235 6) < (I82 235 7) from by first | omega | (simp only [wr, wl] at *; omega)) (show (I82 235 8) = 0 → 4 * (I82 235 9) ≤ (I82 235 6) + 1 from by first | omega | (simp only [wr, wl] at *; omega)) (show (65 - (I82 235 6)).toNat < mz from by omega)
        ·
          refine ⟨_, rfl, (by decide), ?_⟩
          have u102 : (I12 235 9) = (J 235 9) := hW15 _ _ (by first | omega | decide)
          have a103 : -2147483648 ≤ (I12 235 9) ∧ (I12 235 9) < 2147483648 := hA14.1 _ _
          have r104 : 0 ≤ (I12 235 9) ∧ (I12 235 9) ≤ 17 := Rg.f9 hR13
          have u105 : (I54 235 9) = (I12 235 9) := hW57 _ _ (by first | omega | decide)
          have a106 : -2147483648 ≤ (I54 235 9) ∧ (I54 235 9) < 2147483648 := hA56.1 _ _
          have r107 : 0 ≤ (I54 235 9) ∧ (I54 235 9) ≤ 17 := Rg.f9 hR55
          refine ⟨⟨_, rfl, (by decide)⟩, ?_⟩
          have r108 : 0 ≤ (I54 235 6) ∧ (I54 235 6) ≤ 64 := Rg.f6 hR55
          have a109 : -2147483648 ≤ (I54 235 6) ∧ (I54 235 6) < 2147483648 := hA56.1 _ _
          have r110 : 0 ≤ (I54 235 7) ∧ (I54 235 7) ≤ 64 := Rg.f7 hR55
          have a111 : -2147483648 ≤ (I54 235 7) ∧ (I54 235 7) < 2147483648 := hA56.1 _ _
          have u112 : (I54 236 2) = (I12 236 2) := hW57 _ _ (by first | omega | decide)
          have a113 : -2147483648 ≤ (I54 236 2) ∧ (I54 236 2) < 2147483648 := hA56.1 _ _
          have r114 : 0 ≤ (I54 236 2) ∧ (I54 236 2) ≤ 64 := Rg.n2 hR55
          refine r_part  hF hR55 (show (I54 235 6) ≤ (I54 235 7) from by first | omega | (simp only [wr, wl] at *; omega)) (show (I54 235 7) ≤ (I54 236 2) from by first | omega | (simp only [wr, wl] at *; omega)) (show (I54 235 6) < (I54 236 2) → (I54 235 6) < (I54 235 7) from by first | omega | (simp only [wr, wl] at *; omega)) (show (I54 235 9) ≤ 16 from by first | omega | (simp only [wr, wl] at *; omega)) (fun I115 hR116 hA117 hW118 q119 q120 q121 q122 q123 q124 => ?_)
          have q119 : (I115 235 6) ≤ (I115 235 7) := q119
          have q120 : (I115 235 7) ≤ (I54 236 2) := q120
          have q121 : (I115 235 6) < (I54 236 2) → (I115 235 6) < (I115 235 7) := q121
          have q122 : (I54 235 6) ≤ (I115 235 6) := q122
          have q123 : (I115 235 8) = 0 → (I115 235 9) = (I54 235 9) + 1 ∧ (I54 235 6) + 3 ≤ (I115 235 6) := q123
          have q124 : ¬ (I115 235 8) = 0 → (I115 235 9) = (I54 235 9) := q124
          have r125 : 0 ≤ (I115 235 6) ∧ (I115 235 6) ≤ 64 := Rg.f6 hR116
          have a126 : -2147483648 ≤ (I115 235 6) ∧ (I115 235 6) < 2147483648 := hA117.1 _ _
          have r127 : 0 ≤ (I115 235 7) ∧ (I115 235 7) ≤ 64 := Rg.f7 hR116
          have a128 : -2147483648 ≤ (I115 235 7) ∧ (I115 235 7) < 2147483648 := hA117.1 _ _
          have a129 : -2147483648 ≤ (I115 235 8) ∧ (I115 235 8) < 2147483648 := hA117.1 _ _
          have r130 : 0 ≤ (I115 235 9) ∧ (I115 235 9) ≤ 17 := Rg.f9 hR116
          have a131 : -2147483648 ≤ (I115 235 9) ∧ (I115 235 9) < 2147483648 := hA117.1 _ _
          have u132 : (I115 236 2) = (I54 236 2) := hW118 _ _ (by first | omega | decide)
          have a133 : -2147483648 ≤ (I115 236 2) ∧ (I115 236 2) < 2147483648 := hA117.1 _ _
          have r134 : 0 ≤ (I115 236 2) ∧ (I115 236 2) ≤ 64 := Rg.n2 hR116
          exact ih (I54 235 9) 1 I115 hR116 (fun ka ja hk => ((hW118 ka ja (by omega))).trans (((hW57 ka ja (by omega))).trans (((hW15 ka ja (by omega))).trans ((hV ka ja (by omega)))))) (show (0 : Int) ≤ (I54 235 9) from by first | omega | (simp only [wr, wl] at *; omega)) (show ((I54 235 9) : Int) ≤ 17 from by first | omega | (simp only [wr, wl] at *; omega)) (show (I115 235 6) ≤ (I115 235 7) from by first | omega | (simp only [wr, wl] at *; omega)) (show (I115 235 7) ≤ (I115 236 2) from by first | omega | (simp only [wr, wl] at *; omega)) (show (I115 235 6) < (I115 236 2) → (I115 235 6) < (I115 235 7) from by first | omega | (simp only [wr, wl] at *; omega)) (show (I115 235 8) = 0 → 4 * (I115 235 9) ≤ (I115 235 6) + 1 from by first | omega | (simp only [wr, wl] at *; omega)) (show (65 - (I115 235 6)).toNat < mz from by omega)
    ·
      refine ⟨⟨_, rfl, (by decide)⟩, ?_⟩
      refine r_takes_15  hF hJ (show (J 235 6) ≤ (J 235 7) from by first | omega | (simp only [wr, wl] at *; omega)) (show (J 235 7) ≤ (J 236 2) from by first | omega | (simp only [wr, wl] at *; omega)) (show (J 235 6) < (J 236 2) → (J 235 6) < (J 235 7) from by first | omega | (simp only [wr, wl] at *; omega)) (fun vr135 I136 hR137 hA138 hr140 hW139 q141 q142 q143 q144 q145 q146 q147 => ?_)
      have hr140 : -2147483648 ≤ vr135 ∧ vr135 < 2147483648 := hr140
      have q141 : vr135 = 1 → (J 235 6) + 1 ≤ (I136 235 6) := q141
      have q142 : (I136 235 6) ≤ (I136 235 7) := q142
      have q143 : (I136 235 7) ≤ (J 236 2) := q143
      have q144 : (I136 235 6) < (J 236 2) → (I136 235 6) < (I136 235 7) := q144
      have q145 : (J 235 6) ≤ (I136 235 6) := q145
      have q146 : vr135 = 1 → (J 235 8) = 0 := q146
      have q147 : 0 ≤ vr135 ∧ vr135 ≤ 1 := q147
      refine ⟨fun (c148 : ((vr135 : Int) = 0)) => ?_, fun (c148 : (¬ ((vr135 : Int) = 0))) => ?_⟩
      ·
        refine ⟨_, rfl, (by decide), ?_⟩
        have u149 : (I136 235 8) = (J 235 8) := hW139 _ _ (by first | omega | decide)
        have a150 : -2147483648 ≤ (I136 235 8) ∧ (I136 235 8) < 2147483648 := hA138.1 _ _
        refine ⟨fun (c151 : (¬ ((I136 235 8) : Int) = 0)) => ?_, fun (c151 : (((I136 235 8) : Int) = 0)) => ?_⟩
        ·
          refine ⟨_, rfl, (by decide), (by decide), ?_⟩
          refine ⟨_, rfl, (by decide), ?_⟩
          refine fun w0 hw0 => ?_; obtain rfl : w0 = some 236 := hw0.symm.trans (FS.g hF rfl)
          refine ⟨_, rfl, (by decide), (by decide), (by decide), ?_⟩
          have p152 : Pn 2 0 := by apply Pn_w <;> omega
          refine ⟨_, rfl, (by decide), ?_⟩
          refine ⟨fun c => absurd c (show (¬ ((1 : Int) = 0)) from by decide), fun _ => ?_⟩
          refine ⟨_, rfl, (by decide), ?_⟩
          have r153 : 0 ≤ (I136 235 6) ∧ (I136 235 6) ≤ 64 := Rg.f6 hR137
          have a154 : -2147483648 ≤ (I136 235 6) ∧ (I136 235 6) < 2147483648 := hA138.1 _ _
          have n155 : (wr ((-10) - (I136 235 6))) = (-10) - (I136 235 6) := wr_id (show -2147483648 ≤ ((-10) - (I136 235 6) : Int) ∧ ((-10) - (I136 235 6) : Int) < 2147483648 from by omega)
          exact ⟨rfl, hQ _ _ (Rg.u (Rg.u hR137 (Pr_f rfl)) (Pr_n p152)) (fun ka ja hk => ((uI_o (show ¬ (ka = 236 ∧ ja = 2) from by omega))).trans (((uI_o (show ¬ (ka = 235 ∧ ja = 8) from by omega))).trans (((hW139 ka ja (by omega))).trans ((hV ka ja (by omega)))))) (show 0 = 0 from by first | omega | (simp only [wr, wl] at *; omega))⟩
        ·
          refine ⟨_, rfl, (by decide), ?_⟩
          have r156 : 0 ≤ (I136 235 6) ∧ (I136 235 6) ≤ 64 := Rg.f6 hR137
          refine ⟨_, rfl, (by decide), ?_⟩
          refine fun w0 hw0 => ?_; obtain rfl : w0 = some 236 := hw0.symm.trans (FS.g hF rfl)
          refine ⟨_, rfl, (by decide), (by decide), (by decide), ?_⟩
          have u157 : (I136 236 2) = (J 236 2) := hW139 _ _ (by first | omega | decide)
          have a158 : -2147483648 ≤ (I136 236 2) ∧ (I136 236 2) < 2147483648 := hA138.1 _ _
          have r159 : 0 ≤ (I136 236 2) ∧ (I136 236 2) ≤ 64 := Rg.n2 hR137
          have a160 : -2147483648 ≤ (I136 235 6) ∧ (I136 235 6) < 2147483648 := hA138.1 _ _
          refine ⟨fun (c161 : (((I136 236 2) : Int) ≤ (I136 235 6))) => ?_, fun (c161 : (¬ (((I136 236 2) : Int) ≤ (I136 235 6)))) => ?_⟩
          ·
            refine ⟨_, rfl, (by decide), (by decide), ?_⟩
            refine ⟨_, rfl, (by decide), ?_⟩
            refine fun w0 hw0 => ?_; obtain rfl : w0 = some 236 := hw0.symm.trans (FS.g hF rfl)
            refine ⟨_, rfl, (by decide), (by decide), (by decide), ?_⟩
            have p162 : Pn 2 0 := by apply Pn_w <;> omega
            refine ⟨_, rfl, (by decide), ?_⟩
            refine ⟨fun _ => ?_, fun c => absurd (show ((0 : Int) = 0) from by decide) c⟩
            refine ⟨_, rfl, (by decide), ?_⟩
            refine fun w0 hw0 => ?_; obtain rfl : w0 = some 241 := hw0.symm.trans (FS.g hF rfl)
            refine ⟨_, rfl, (by decide), ?_⟩
            have u163 : (I136 235 9) = (J 235 9) := hW139 _ _ (by first | omega | decide)
            have a164 : -2147483648 ≤ (I136 235 9) ∧ (I136 235 9) < 2147483648 := hA138.1 _ _
            have r165 : 0 ≤ (I136 235 9) ∧ (I136 235 9) ≤ 17 := Rg.f9 hR137
            refine ⟨_, rfl, (by decide), (by decide), (by decide), ?_⟩
            have p166 : Pn (40 + 0) (I136 235 9) := by apply Pn_w <;> omega
            refine ⟨_, rfl, (by decide), ?_⟩
            refine fun w0 hw0 => ?_; obtain rfl : w0 = some 241 := hw0.symm.trans (FS.g hF rfl)
            refine ⟨fun c => absurd c (show (¬ ((b : Int) = 0)) from by first | omega | (simp only [wr, wl] at *; omega)), fun _ => ?_⟩
            refine ⟨_, rfl, (by decide), (by decide), (by decide), ?_⟩
            have p167 : Pn (40 + 1) q := by apply Pn_w <;> omega
            refine r_program2_l2 hF hR (by omega) hQ _ q b 0 (uI (uI (uI (uI I136 235 8 0) 236 2 0) 241 0 (I136 235 9)) 241 1 q) (Rg.u (Rg.u (Rg.u (Rg.u hR137 (Pr_f rfl)) (Pr_n p162)) (Pr_r p166)) (Pr_r p167)) (fun ka ja hk => ((uI_o (show ¬ (ka = 241 ∧ ja = 1) from by omega))).trans (((uI_o (show ¬ (ka = 241 ∧ ja = 0) from by omega))).trans (((uI_o (show ¬ (ka = 236 ∧ ja = 2) from by omega))).trans (((uI_o (show ¬ (ka = 235 ∧ ja = 8) from by omega))).trans (((hW139 ka ja (by omega))).trans ((hV ka ja (by omega)))))))) (show (0 : Int) ≤ q from by first | omega | (simp only [wr, wl] at *; omega)) (show (q : Int) ≤ 17 from by first | omega | (simp only [wr, wl] at *; omega)) (show (0 : Int) ≤ (0 : Int) from by first | omega | (simp only [wr, wl] at *; omega)) (show ((0 : Int) : Int) ≤ 36 from by first | omega | (simp only [wr, wl] at *; omega)) (show (0 : Int) = 0 from by first | omega | (simp only [wr, wl] at *; omega)) (Nat.lt_succ_self _)
          ·
            refine ⟨_, rfl, (by decide), (by decide), ?_⟩
            refine ⟨_, rfl, (by decide), ?_⟩
            refine fun w0 hw0 => ?_; obtain rfl : w0 = some 236 := hw0.symm.trans (FS.g hF rfl)
            refine ⟨_, rfl, (by decide), (by decide), (by decide), ?_⟩
            have p168 : Pn 2 0 := by apply Pn_w <;> omega
            refine ⟨_, rfl, (by decide), ?_⟩
            refine ⟨fun c => absurd c (show (¬ ((1 : Int) = 0)) from by decide), fun _ => ?_⟩
            refine ⟨_, rfl, (by decide), ?_⟩
            have n169 : (wr ((-10) - (I136 235 6))) = (-10) - (I136 235 6) := wr_id (show -2147483648 ≤ ((-10) - (I136 235 6) : Int) ∧ ((-10) - (I136 235 6) : Int) < 2147483648 from by omega)
            exact ⟨rfl, hQ _ _ (Rg.u (Rg.u hR137 (Pr_f rfl)) (Pr_n p168)) (fun ka ja hk => ((uI_o (show ¬ (ka = 236 ∧ ja = 2) from by omega))).trans (((uI_o (show ¬ (ka = 235 ∧ ja = 8) from by omega))).trans (((hW139 ka ja (by omega))).trans ((hV ka ja (by omega)))))) (show 0 = 0 from by first | omega | (simp only [wr, wl] at *; omega))⟩
      ·
        refine ⟨fun _ => ?_, fun c => absurd c (show (¬ (b : Int) = 0) from by first | omega | (simp only [wr, wl] at *; omega))⟩
        refine ⟨⟨_, rfl, (by decide)⟩, ?_⟩
        have r170 : 0 ≤ (I136 235 6) ∧ (I136 235 6) ≤ 64 := Rg.f6 hR137
        have a171 : -2147483648 ≤ (I136 235 6) ∧ (I136 235 6) < 2147483648 := hA138.1 _ _
        have r172 : 0 ≤ (I136 235 7) ∧ (I136 235 7) ≤ 64 := Rg.f7 hR137
        have a173 : -2147483648 ≤ (I136 235 7) ∧ (I136 235 7) < 2147483648 := hA138.1 _ _
        have u174 : (I136 236 2) = (J 236 2) := hW139 _ _ (by first | omega | decide)
        have a175 : -2147483648 ≤ (I136 236 2) ∧ (I136 236 2) < 2147483648 := hA138.1 _ _
        have r176 : 0 ≤ (I136 236 2) ∧ (I136 236 2) ≤ 64 := Rg.n2 hR137
        have u177 : (I136 235 9) = (J 235 9) := hW139 _ _ (by first | omega | decide)
        have a178 : -2147483648 ≤ (I136 235 9) ∧ (I136 235 9) < 2147483648 := hA138.1 _ _
        have r179 : 0 ≤ (I136 235 9) ∧ (I136 235 9) ≤ 17 := Rg.f9 hR137
        refine r_part  hF hR137 (show (I136 235 6) ≤ (I136 235 7) from by first | omega | (simp only [wr, wl] at *; omega)) (show (I136 235 7) ≤ (I136 236 2) from by first | omega | (simp only [wr, wl] at *; omega)) (show (I136 235 6) < (I136 236 2) → (I136 235 6) < (I136 235 7) from by first | omega | (simp only [wr, wl] at *; omega)) (show (I136 235 9) ≤ 16 from by first | omega | (simp only [wr, wl] at *; omega)) (fun I180 hR181 hA182 hW183 q184 q185 q186 q187 q188 q189 => ?_)
        have q184 : (I180 235 6) ≤ (I180 235 7) := q184
        have q185 : (I180 235 7) ≤ (I136 236 2) := q185
        have q186 : (I180 235 6) < (I136 236 2) → (I180 235 6) < (I180 235 7) := q186
        have q187 : (I136 235 6) ≤ (I180 235 6) := q187
        have q188 : (I180 235 8) = 0 → (I180 235 9) = (I136 235 9) + 1 ∧ (I136 235 6) + 3 ≤ (I180 235 6) := q188
        have q189 : ¬ (I180 235 8) = 0 → (I180 235 9) = (I136 235 9) := q189
        have r190 : 0 ≤ (I180 235 6) ∧ (I180 235 6) ≤ 64 := Rg.f6 hR181
        have a191 : -2147483648 ≤ (I180 235 6) ∧ (I180 235 6) < 2147483648 := hA182.1 _ _
        have r192 : 0 ≤ (I180 235 7) ∧ (I180 235 7) ≤ 64 := Rg.f7 hR181
        have a193 : -2147483648 ≤ (I180 235 7) ∧ (I180 235 7) < 2147483648 := hA182.1 _ _
        have a194 : -2147483648 ≤ (I180 235 8) ∧ (I180 235 8) < 2147483648 := hA182.1 _ _
        have r195 : 0 ≤ (I180 235 9) ∧ (I180 235 9) ≤ 17 := Rg.f9 hR181
        have a196 : -2147483648 ≤ (I180 235 9) ∧ (I180 235 9) < 2147483648 := hA182.1 _ _
        have u197 : (I180 236 2) = (I136 236 2) := hW183 _ _ (by first | omega | decide)
        have a198 : -2147483648 ≤ (I180 236 2) ∧ (I180 236 2) < 2147483648 := hA182.1 _ _
        have r199 : 0 ≤ (I180 236 2) ∧ (I180 236 2) ≤ 64 := Rg.n2 hR181
        exact ih q b I180 hR181 (fun ka ja hk => ((hW183 ka ja (by omega))).trans (((hW139 ka ja (by omega))).trans ((hV ka ja (by omega))))) (show (0 : Int) ≤ q from by first | omega | (simp only [wr, wl] at *; omega)) (show (q : Int) ≤ 17 from by first | omega | (simp only [wr, wl] at *; omega)) (show (I180 235 6) ≤ (I180 235 7) from by first | omega | (simp only [wr, wl] at *; omega)) (show (I180 235 7) ≤ (I180 236 2) from by first | omega | (simp only [wr, wl] at *; omega)) (show (I180 235 6) < (I180 236 2) → (I180 235 6) < (I180 235 7) from by first | omega | (simp only [wr, wl] at *; omega)) (show (I180 235 8) = 0 → 4 * (I180 235 9) ≤ (I180 235 6) + 1 from by first | omega | (simp only [wr, wl] at *; omega)) (show (65 - (I180 235 6)).toNat < mz from by omega)
theorem r_program2 (hF : FS F) (hR : Rg I) {v0 : Int}  (hQ : ∀ (r : Int) (I' : pI), Rg I' → AR I' → iR r → (∀ k j, ¬ ((k = 235 ∧ (j = 6 ∨ j = 7 ∨ j = 8 ∨ j = 9)) ∨ k = 241 ∨ k = 238 ∨ (k = 236 ∧ (j = 2 ∨ (40 ≤ j ∧ j < 184)))) → I' k j = I k j) → (0 ≤ v0 ∧ v0 < 4 → (I' 236 2) = 0) → (¬ (0 ≤ v0 ∧ v0 < 4) → (I' 236 2) = (I 236 2)) → Q (some (vi r)) F I') : CallN G (d + 6) kX12_program [vr 235, vi v0] NP F I Q := by
  refine CallN_in (fun hok hA => CallN_out ?_)
  have iv0 : -2147483648 ≤ v0 ∧ v0 < 2147483648 := hok (vi v0) (by simp)
  refine Call_wp (lv := [some (vr 235), some (vi v0), none, none, none]) (by decide) ckX12_program [42] rfl rfl ?_
  refine ⟨⟨_, rfl, (by decide)⟩, ?_⟩
  refine s_X12_isProgram (fun (w1 : ((0 : Int) ≤ v0 ∧ (v0 : Int) ≤ 3)) => ?_) (fun (w1 : ¬ ((0 : Int) ≤ v0 ∧ (v0 : Int) ≤ 3)) => ?_)
  ·
    refine ⟨fun _ => ?_, fun c => absurd c (show (¬ (1 : Int) = 0) from by decide)⟩
    refine ⟨_, rfl, (by decide), ?_⟩
    have p2 : (0 : Int) ≤ 0 ∧ (0 : Int) ≤ 64 := by decide
    refine ⟨_, rfl, (by decide), (by decide), ?_⟩
    refine ⟨_, rfl, (by decide), ?_⟩
    have p3 : (0 : Int) ≤ 0 ∧ (0 : Int) ≤ 17 := by decide
    refine ⟨⟨_, rfl, (by decide)⟩, ?_⟩
    have r4 : 0 ≤ (I 236 2) ∧ (I 236 2) ≤ 64 := Rg.n2 hR
    have a5 : -2147483648 ≤ (I 236 2) ∧ (I 236 2) < 2147483648 := hA.1 _ _
    refine r_goOn  hF (Rg.u (Rg.u (Rg.u hR (Pr_x7 p2)) (Pr_f rfl)) (Pr_x9 p3)) (show 0 ≤ (I 236 2) from by first | omega | (simp only [wr, wl] at *; omega)) (fun I6 hR7 hA8 hW9 q10 q11 q12 q13 => ?_)
    have q10 : 0 ≤ (I6 235 6) := q10
    have q11 : (I6 235 6) ≤ (I6 235 7) := q11
    have q12 : (I6 235 7) ≤ (I 236 2) := q12
    have q13 : (I6 235 6) < (I 236 2) → (I6 235 6) < (I6 235 7) := q13
    refine ⟨⟨_, rfl, (by decide)⟩, ?_⟩
    have r14 : 0 ≤ (I6 235 6) ∧ (I6 235 6) ≤ 64 := Rg.f6 hR7
    have a15 : -2147483648 ≤ (I6 235 6) ∧ (I6 235 6) < 2147483648 := hA8.1 _ _
    have r16 : 0 ≤ (I6 235 7) ∧ (I6 235 7) ≤ 64 := Rg.f7 hR7
    have a17 : -2147483648 ≤ (I6 235 7) ∧ (I6 235 7) < 2147483648 := hA8.1 _ _
    have u18 : (I6 236 2) = ((uI (uI (uI I 235 7 0) 235 8 0) 235 9 0) 236 2) := hW9 _ _ (by first | omega | decide)
    have u19 : ((uI (uI (uI I 235 7 0) 235 8 0) 235 9 0) 236 2) = (I 236 2) := rfl
    have a20 : -2147483648 ≤ (I6 236 2) ∧ (I6 236 2) < 2147483648 := hA8.1 _ _
    have r21 : 0 ≤ (I6 236 2) ∧ (I6 236 2) ≤ 64 := Rg.n2 hR7
    have u22 : (I6 235 9) = ((uI (uI (uI I 235 7 0) 235 8 0) 235 9 0) 235 9) := hW9 _ _ (by first | omega | decide)
    have u23 : ((uI (uI (uI I 235 7 0) 235 8 0) 235 9 0) 235 9) = 0 := rfl
    have a24 : -2147483648 ≤ (I6 235 9) ∧ (I6 235 9) < 2147483648 := hA8.1 _ _
    have r25 : 0 ≤ (I6 235 9) ∧ (I6 235 9) ≤ 17 := Rg.f9 hR7
    refine r_part  hF hR7 (show (I6 235 6) ≤ (I6 235 7) from by first | omega | (simp only [wr, wl] at *; omega)) (show (I6 235 7) ≤ (I6 236 2) from by first | omega | (simp only [wr, wl] at *; omega)) (show (I6 235 6) < (I6 236 2) → (I6 235 6) < (I6 235 7) from by first | omega | (simp only [wr, wl] at *; omega)) (show (I6 235 9) ≤ 16 from by first | omega | (simp only [wr, wl] at *; omega)) (fun I26 hR27 hA28 hW29 q30 q31 q32 q33 q34 q35 => ?_)
    have q30 : (I26 235 6) ≤ (I26 235 7) := q30
    have q31 : (I26 235 7) ≤ (I6 236 2) := q31
    have q32 : (I26 235 6) < (I6 236 2) → (I26 235 6) < (I26 235 7) := q32
    have q33 : (I6 235 6) ≤ (I26 235 6) := q33
    have q34 : (I26 235 8) = 0 → (I26 235 9) = (I6 235 9) + 1 ∧ (I6 235 6) + 3 ≤ (I26 235 6) := q34
    have q35 : ¬ (I26 235 8) = 0 → (I26 235 9) = (I6 235 9) := q35
    have r36 : 0 ≤ (I26 235 6) ∧ (I26 235 6) ≤ 64 := Rg.f6 hR27
    have a37 : -2147483648 ≤ (I26 235 6) ∧ (I26 235 6) < 2147483648 := hA28.1 _ _
    have r38 : 0 ≤ (I26 235 7) ∧ (I26 235 7) ≤ 64 := Rg.f7 hR27
    have a39 : -2147483648 ≤ (I26 235 7) ∧ (I26 235 7) < 2147483648 := hA28.1 _ _
    have a40 : -2147483648 ≤ (I26 235 8) ∧ (I26 235 8) < 2147483648 := hA28.1 _ _
    have r41 : 0 ≤ (I26 235 9) ∧ (I26 235 9) ≤ 17 := Rg.f9 hR27
    have a42 : -2147483648 ≤ (I26 235 9) ∧ (I26 235 9) < 2147483648 := hA28.1 _ _
    have u43 : (I26 236 2) = (I6 236 2) := hW29 _ _ (by first | omega | decide)
    have a44 : -2147483648 ≤ (I26 236 2) ∧ (I26 236 2) < 2147483648 := hA28.1 _ _
    have r45 : 0 ≤ (I26 236 2) ∧ (I26 236 2) ≤ 64 := Rg.n2 hR27
    refine r_program2_l1 hF hR (by omega) (fun r I' g1 g2 g3 hv hA' => hQ _ _ g1 hA' (hv _ rfl) g2 (fun _ => g3) (fun h => absurd (by omega) h)) _ 0 0 I26 hR27 (fun ka ja hk => ((hW29 ka ja (by omega))).trans (((hW9 ka ja (by omega))).trans (((uI_o (show ¬ (ka = 235 ∧ ja = 9) from by omega))).trans (((uI_o (show ¬ (ka = 235 ∧ ja = 8) from by omega))).trans ((uI_o (show ¬ (ka = 235 ∧ ja = 7) from by omega))))))) (show (0 : Int) ≤ (0 : Int) from by first | omega | (simp only [wr, wl] at *; omega)) (show ((0 : Int) : Int) ≤ 17 from by first | omega | (simp only [wr, wl] at *; omega)) (show (I26 235 6) ≤ (I26 235 7) from by first | omega | (simp only [wr, wl] at *; omega)) (show (I26 235 7) ≤ (I26 236 2) from by first | omega | (simp only [wr, wl] at *; omega)) (show (I26 235 6) < (I26 236 2) → (I26 235 6) < (I26 235 7) from by first | omega | (simp only [wr, wl] at *; omega)) (show (I26 235 8) = 0 → 4 * (I26 235 9) ≤ (I26 235 6) + 1 from by first | omega | (simp only [wr, wl] at *; omega)) (Nat.lt_succ_self _)
  ·
    refine ⟨fun c => absurd (show ((0 : Int) = 0) from by decide) c, fun _ => ?_⟩
    refine ⟨⟨_, rfl, (by decide)⟩, ?_⟩
    refine s_X12_finding hF (v := (-1000001)) (by decide) ?_
    have r46 : 0 ≤ (I 236 2) ∧ (I 236 2) ≤ 64 := Rg.n2 hR
    have a47 : -2147483648 ≤ (I 236 2) ∧ (I 236 2) < 2147483648 := hA.1 _ _
    exact ⟨rfl, fun hv hA' => hQ _ _ (Rg.u hR (Pr_f rfl)) hA' (hv _ rfl) (fun ka ja hk => (uI_o (show ¬ (ka = 238 ∧ ja = 1) from by omega))) (show 0 ≤ v0 ∧ v0 < 4 → (I 236 2) = 0 from by first | omega | (simp only [wr, wl] at *; omega)) (show ¬ (0 ≤ v0 ∧ v0 < 4) → (I 236 2) = (I 236 2) from by first | omega | (simp only [wr, wl] at *; omega))⟩
end FE
