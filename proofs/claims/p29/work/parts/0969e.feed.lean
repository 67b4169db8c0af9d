/-! what feed writes. Own work (scripts laid by wip/pm/gen34.py). -/
section FD
variable {G : pG} {d : Nat} {F : pF} {I : pI} {Q : Option pV → pF → pI → Prop}
theorem bL255 {x : Int} (hx : lR x) : bL x 255 = x % 256 := by
  unfold lR at hx
  unfold bL
  show ((Int64.ofInt x &&& Int64.ofInt 255).toBitVec).toInt = _
  rw [Int64.toBitVec_and]
  show (BitVec.ofInt 64 x &&& BitVec.ofInt 64 255).toInt = _
  have e : (BitVec.ofInt 64 x &&& BitVec.ofInt 64 255).toNat = (x % 18446744073709551616).toNat % 256 := by
    rw [BitVec.toNat_and, BitVec.toNat_ofInt]
    exact Nat.and_two_pow_sub_one_eq_mod _ 8
  rw [BitVec.toInt_eq_toNat_of_lt (by rw [e]; omega), e]
  omega
theorem srL_R (x y : Int) : lR (srL x y) := by
  unfold srL lR
  exact ⟨Int64.le_toInt _, Int64.toInt_lt _⟩
/-- a byte, as the one side and as the other side keep it, tells a text the same -/
theorem clp_b {x y : Int} : clp (wb (wb (wr (srL x y)))) = clp (wr (bL (srL x y) 255)) := by
  rw [bL255 (srL_R x y)]
  unfold clp wb wr
  (repeat' split) <;> omega
theorem c_feed10_l (hF : FS F) (hR : Rg I) {v0 v1 : Int} (hn : 1 ≤ v1 ∧ v1 ≤ 8) (hT : 0 ≤ I 1 5 ∧ I 1 5 + v1 ≤ 64) (hQ : ∀ (r : Int) (I' : pI), Rg I' → (∀ k j, ¬ (k = 203 ∨ k = 5 ∨ (k = 1 ∧ (j = 5))) → I' k j = I k j) → (I' 1 5 = I 1 5 + v1 ∧ (∀ j : Nat, (j : Int) < I 1 5 → I' 5 j = I 5 j) ∧ ∀ j : Nat, (j : Int) < v1 → I' 5 (Int.toNat (I 1 5) + j) = wb (wb (wr (srL v0 (8 * (j : Int)))))) → Q (some (vi r)) F I') : ∀ (mz : Nat) (k : Int) (J : pI), Rg J → (∀ k j, ¬ (k = 203 ∨ k = 5 ∨ (k = 1 ∧ (j = 5))) → J k j = I k j) → ((0 : Int) ≤ k) → ((k : Int) ≤ 8) → ((J 1 5) = I 1 5 + k) → (k ≤ v1) → (∀ j : Nat, (j : Int) < I 1 5 → J 5 j = I 5 j) → (∀ j : Nat, (j : Int) < k → J 5 ((Int.toNat (I 1 5)) + j) = wb (wb (wr (srL v0 (8 * (j : Int)))))) → (8 - k).toNat < mz → GoN G (d + 1) kX11_feed NP NP 39 [some (vr 0), some (vl v0), none, some (vi v1), some (vi k)] [] F J Q := by
  intro mz
  induction mz with
  | zero => intro k J hJ hV _ _ _ _ _ _ h; exact absurd h (Nat.not_lt_zero _)
  | succ mz ih =>
    intro k J hJ hV cc100 cc101 cc102 cc103 cc104 cc105 hm
    refine GoN_in (fun hok hA => ?_)
    have iiv0 : -9223372036854775808 ≤ v0 ∧ v0 < 9223372036854775808 := hok 1 _ rfl
    have iiv1 : -2147483648 ≤ v1 ∧ v1 < 2147483648 := hok 3 _ rfl
    have iik : -2147483648 ≤ k ∧ k < 2147483648 := hok 4 _ rfl
    have a1 : -2147483648 ≤ (J 1 5) ∧ (J 1 5) < 2147483648 := hA.1 _ _
    refine Go_wp (by decide) ckX11_feed [39] ?_
    refine ⟨fun (c2 : ((v1 : Int) ≤ k)) => ?_, fun (c2 : (¬ ((v1 : Int) ≤ k))) => ?_⟩
    ·
      refine ⟨_, rfl, (by decide), ?_⟩
      refine fun w0 hw0 => ?_; obtain rfl : w0 = some 1 := hw0.symm.trans (FS.g hF rfl)
      refine ⟨_, rfl, (by decide), ?_⟩
      exact ⟨rfl, hQ _ _ hJ (fun ka ja hk => (hV ka ja (by omega))) (⟨by omega, cc104, fun j hj => cc105 j (by omega)⟩)⟩
    ·
      refine ⟨_, rfl, (by decide), ?_⟩
      refine fun w0 hw0 => ?_; obtain rfl : w0 = some 1 := hw0.symm.trans (FS.g hF rfl)
      refine ⟨⟨_, rfl, (by decide)⟩, ?_⟩
      refine Call_wp (lv := [some (vr 1), some (vi (wb (wr (srL v0 (wr (8 * k))))))]) (by decide) ckX8_addByte [] rfl rfl ?_
      refine ⟨_, rfl, (by decide), ?_⟩
      refine ⟨fun (c3 : (((J 1 5) : Int) < 0)) => ?_, fun (c3 : (¬ (((J 1 5) : Int) < 0))) => ?_⟩
      ·
        refine ⟨rfl, ?_⟩
        have n4 : (wr (k + 1)) = k + 1 := wr_id (show -2147483648 ≤ (k + 1 : Int) ∧ (k + 1 : Int) < 2147483648 from by omega)
        exact ih (wr (k + 1)) J hJ (fun ka ja hk => (hV ka ja (by omega))) (show (0 : Int) ≤ (wr (k + 1)) from by first | with_reducible assumption | omega | (simp only [wr, wl] at *; omega)) (show ((wr (k + 1)) : Int) ≤ 8 from by first | with_reducible assumption | omega | (simp only [wr, wl] at *; omega)) (show (J 1 5) = I 1 5 + (wr (k + 1)) from by first | omega | (simp only [wr, wl] at *; omega)) (show (wr (k + 1)) ≤ v1 from by first | with_reducible assumption | omega | (simp only [wr, wl] at *; omega)) (by exfalso; omega) (by exfalso; omega) (show (8 - (wr (k + 1))).toNat < mz from by omega)
      ·
        refine ⟨_, rfl, (by decide), ?_⟩
        refine ⟨fun (c5 : ((64 : Int) ≤ (J 1 5))) => ?_, fun (c5 : (¬ ((64 : Int) ≤ (J 1 5)))) => ?_⟩
        ·
          refine ⟨rfl, ?_⟩
          have n6 : (wr (k + 1)) = k + 1 := wr_id (show -2147483648 ≤ (k + 1 : Int) ∧ (k + 1 : Int) < 2147483648 from by omega)
          exact ih (wr (k + 1)) J hJ (fun ka ja hk => (hV ka ja (by omega))) (show (0 : Int) ≤ (wr (k + 1)) from by first | with_reducible assumption | omega | (simp only [wr, wl] at *; omega)) (show ((wr (k + 1)) : Int) ≤ 8 from by first | with_reducible assumption | omega | (simp only [wr, wl] at *; omega)) (show (J 1 5) = I 1 5 + (wr (k + 1)) from by first | omega | (simp only [wr, wl] at *; omega)) (show (wr (k + 1)) ≤ v1 from by first | with_reducible assumption | omega | (simp only [wr, wl] at *; omega)) (by exfalso; omega) (by exfalso; omega) (show (8 - (wr (k + 1))).toNat < mz from by omega)
        ·
          refine ⟨_, rfl, (by decide), ?_⟩
          refine fun w0 hw0 => ?_; obtain rfl : w0 = some 5 := hw0.symm.trans (FS.g hF rfl)
          refine ⟨_, rfl, (by decide), ?_⟩
          refine ⟨_, rfl, (by decide), (show (0 : Int) ≤ (J 1 5) from by first | with_reducible assumption | omega | (simp only [wr, wl] at *; omega)), (show (J 1 5) < (64 : Int) from by first | with_reducible assumption | omega | (simp only [wr, wl] at *; omega)), ?_⟩
          refine ⟨_, rfl, (by decide), ?_⟩
          refine ⟨_, rfl, (by decide), ?_⟩
          refine ⟨rfl, ?_⟩
          have n7 : (wr (k + 1)) = k + 1 := wr_id (show -2147483648 ≤ (k + 1 : Int) ∧ (k + 1 : Int) < 2147483648 from by omega)
          have n8 : (wr ((J 1 5) + 1)) = (J 1 5) + 1 := wr_id (show -2147483648 ≤ ((J 1 5) + 1 : Int) ∧ ((J 1 5) + 1 : Int) < 2147483648 from by omega)
          exact ih (wr (k + 1)) (uI (uI J 5 (Int.toNat (J 1 5)) (wb (wb (wr (srL v0 (wr (8 * k))))))) 1 5 (wr ((J 1 5) + 1))) (Rg.u (Rg.u hJ (Pr_p (k := 5) rfl _ _)) (Pr_f rfl)) (fun ka ja hk => ((uI_o (show ¬ (ka = 1 ∧ ja = 5) from by first | (intro e; obtain ⟨rfl, rfl⟩ := e; exact hk (by decide)) | omega))).trans (((uI_o (show ¬ (ka = 5 ∧ ja = (Int.toNat (J 1 5))) from by first | (intro e; obtain ⟨rfl, _⟩ := e; exact hk (by decide)) | omega))).trans ((hV ka ja (by omega))))) (show (0 : Int) ≤ (wr (k + 1)) from by first | with_reducible assumption | omega | (simp only [wr, wl] at *; omega)) (show ((wr (k + 1)) : Int) ≤ 8 from by first | with_reducible assumption | omega | (simp only [wr, wl] at *; omega)) (show (wr ((J 1 5) + 1)) = I 1 5 + (wr (k + 1)) from by first | omega | (simp only [wr, wl] at *; omega)) (show (wr (k + 1)) ≤ v1 from by first | with_reducible assumption | omega | (simp only [wr, wl] at *; omega)) (fun j hj => ((uI_o (show ¬ (5 = 1 ∧ j = 5) from fun e => absurd e.1 (Nat.ne_of_beq_eq_false rfl))).trans (uJ_ne (show ¬ j = (Int.toNat (J 1 5)) from by omega))).trans (cc104 j hj)) (fun j hj => if e : (j : Int) = k then ((uI_o (show ¬ (5 = 1 ∧ ((Int.toNat (I 1 5)) + j) = 5) from fun e => absurd e.1 (Nat.ne_of_beq_eq_false rfl))).trans (uJ_eqj (show ((Int.toNat (I 1 5)) + j) = (Int.toNat (J 1 5)) from by omega))).trans (by
                              have hz : wr (8 * k) = 8 * k := wr_id (by unfold iR; omega)
                              rw [hz, e]) else ((uI_o (show ¬ (5 = 1 ∧ ((Int.toNat (I 1 5)) + j) = 5) from fun e => absurd e.1 (Nat.ne_of_beq_eq_false rfl))).trans (uJ_ne (show ¬ ((Int.toNat (I 1 5)) + j) = (Int.toNat (J 1 5)) from by omega))).trans (cc105 j (by omega))) (show (8 - (wr (k + 1))).toNat < mz from by omega)
theorem c_feed10 (hF : FS F) (hR : Rg I) {v0 v1 : Int} (hT : 0 ≤ I 1 5 ∧ I 1 5 ≤ 64) (hQ : ∀ (r : Int) (I' : pI), Rg I' → AR I' → iR r → (∀ k j, ¬ (k = 203 ∨ k = 5 ∨ (k = 1 ∧ (j = 5))) → I' k j = I k j) → ((¬ ((1 ≤ v1 ∧ v1 ≤ 8) ∧ I 1 5 ≤ 64 - v1) → I' 1 5 = I 1 5 ∧ ∀ j : Nat, I' 5 j = I 5 j) ∧ (((1 ≤ v1 ∧ v1 ≤ 8) ∧ I 1 5 ≤ 64 - v1) → I' 1 5 = I 1 5 + v1 ∧ (∀ j : Nat, (j : Int) < I 1 5 → I' 5 j = I 5 j) ∧ ∀ j : Nat, (j : Int) < v1 → I' 5 (Int.toNat (I 1 5) + j) = wb (wb (wr (srL v0 (8 * (j : Int))))))) → Q (some (vi r)) F I') : CallN G (d + 2) kX11_feed [vr 0, vl v0, vi v1] NP F I Q := by
  refine CallN_in (fun hok hA => CallN_out ?_)
  have iv0 : -9223372036854775808 ≤ v0 ∧ v0 < 9223372036854775808 := hok (vl v0) (by simp)
  have iv1 : -2147483648 ≤ v1 ∧ v1 < 2147483648 := hok (vi v1) (by simp)
  refine Call_wp (lv := [some (vr 0), some (vl v0), none, some (vi v1), none]) (by decide) ckX11_feed [39] rfl rfl ?_
  refine s_X11_within (fun (w1 : ((1 : Int) ≤ v1 ∧ (v1 : Int) ≤ 8)) => ?_) (fun (w1 : ¬ ((1 : Int) ≤ v1 ∧ (v1 : Int) ≤ 8)) => ?_)
  ·
    refine ⟨fun _ => ?_, fun c => absurd c (show (¬ (1 : Int) = 0) from by decide)⟩
    refine ⟨_, rfl, (by decide), ?_⟩
    refine fun w0 hw0 => ?_; obtain rfl : w0 = some 1 := hw0.symm.trans (FS.g hF rfl)
    refine ⟨_, rfl, (by decide), ?_⟩
    have r2 : 0 ≤ (I 1 5) ∧ (I 1 5) ≤ 64 := hT
    have n4 : (wr (64 - v1)) = 64 - v1 := wr_id (show -2147483648 ≤ (64 - v1 : Int) ∧ (64 - v1 : Int) < 2147483648 from by omega)
    refine ⟨fun (c5 : (((I 1 5) : Int) ≤ (wr (64 - v1)))) => ?_, fun (c5 : (¬ (((I 1 5) : Int) ≤ (wr (64 - v1))))) => ?_⟩
    ·
      refine c_feed10_l hF hR (by omega) (by omega) (fun r I' g1 g2 g3 hv hA' => hQ _ _ g1 hA' (hv _ rfl) g2 ⟨fun z => absurd (by omega) z, fun _ => g3⟩) _ 0 I hR (fun _ _ _ => rfl) (show (0 : Int) ≤ (0 : Int) from Int.le_refl _) (show ((0 : Int) : Int) ≤ 8 from by first | with_reducible assumption | omega | (simp only [wr, wl] at *; omega)) (show (I 1 5) = I 1 5 + (0 : Int) from by first | omega | (simp only [wr, wl] at *; omega)) (show (0 : Int) ≤ v1 from by first | with_reducible assumption | omega | (simp only [wr, wl] at *; omega)) (fun j hj => rfl) (fun j hj => absurd hj (by omega)) (Nat.lt_succ_self _)
    ·
      refine ⟨⟨_, rfl, (by decide)⟩, ?_⟩
      refine s_X11_refuse hF (e := 4) (by decide) ?_
      exact ⟨rfl, fun hv hA' => hQ _ _ (Rg.u hR (Pr_f rfl)) hA' (hv _ rfl) (fun ka ja hk => (uI_o (show ¬ (ka = 203 ∧ ja = 4) from by first | (intro e; obtain ⟨rfl, rfl⟩ := e; exact hk (by decide)) | omega))) (⟨fun _ => ⟨uI_o (show ¬ (1 = 203 ∧ 5 = 4) from fun e => absurd e.1 (Nat.ne_of_beq_eq_false rfl)), fun j => uI_o (show ¬ (5 = 203 ∧ j = 4) from fun e => absurd e.1 (Nat.ne_of_beq_eq_false rfl))⟩, fun z => absurd z (by omega)⟩)⟩
  ·
    refine ⟨fun c => absurd (show ((0 : Int) = 0) from by decide) c, fun _ => ?_⟩
    refine ⟨⟨_, rfl, (by decide)⟩, ?_⟩
    refine s_X11_refuse hF (e := 1) (by decide) ?_
    exact ⟨rfl, fun hv hA' => hQ _ _ (Rg.u hR (Pr_f rfl)) hA' (hv _ rfl) (fun ka ja hk => (uI_o (show ¬ (ka = 203 ∧ ja = 1) from by first | (intro e; obtain ⟨rfl, rfl⟩ := e; exact hk (by decide)) | omega))) (⟨fun _ => ⟨uI_o (show ¬ (1 = 203 ∧ 5 = 1) from fun e => absurd e.1 (Nat.ne_of_beq_eq_false rfl)), fun j => uI_o (show ¬ (5 = 203 ∧ j = 1) from fun e => absurd e.1 (Nat.ne_of_beq_eq_false rfl))⟩, fun z => absurd z (by omega)⟩)⟩
theorem r_feed10_l (hF : FS F) (hR : Rg I) {v0 v1 : Int} (hn : 1 ≤ v1 ∧ v1 ≤ 8) (hT : 0 ≤ I 236 2 ∧ I 236 2 + v1 ≤ 64) (hQ : ∀ (r : Int) (I' : pI), Rg I' → (∀ k j, ¬ (k = 238 ∨ (k = 236 ∧ (j = 2 ∨ (1228 ≤ j ∧ j < 1292)))) → I' k j = I k j) → (I' 236 2 = I 236 2 + v1 ∧ (∀ j : Nat, (j : Int) < I 236 2 → I' 236 (1228 + j) = I 236 (1228 + j)) ∧ ∀ j : Nat, (j : Int) < v1 → I' 236 (1228 + (Int.toNat (I 236 2) + j)) = wr (bL (srL v0 (8 * (j : Int))) 255)) → Q (some (vi r)) F I') : ∀ (mz : Nat) (k : Int) (J : pI), Rg J → (∀ k j, ¬ (k = 238 ∨ (k = 236 ∧ (j = 2 ∨ (1228 ≤ j ∧ j < 1292)))) → J k j = I k j) → ((0 : Int) ≤ k) → ((k : Int) ≤ 8) → ((J 236 2) = I 236 2 + k) → (k ≤ v1) → (∀ j : Nat, (j : Int) < I 236 2 → J 236 (1228 + j) = I 236 (1228 + j)) → (∀ j : Nat, (j : Int) < k → J 236 (1228 + ((Int.toNat (I 236 2)) + j)) = wr (bL (srL v0 (8 * (j : Int))) 255)) → (8 - k).toNat < mz → GoN G d kX12_feed NP NP 40 [some (vr 235), some (vl v0), none, some (vi v1), some (vi k)] [] F J Q := by
  intro mz
  induction mz with
  | zero => intro k J hJ hV _ _ _ _ _ _ h; exact absurd h (Nat.not_lt_zero _)
  | succ mz ih =>
    intro k J hJ hV cc100 cc101 cc102 cc103 cc104 cc105 hm
    refine GoN_in (fun hok hA => ?_)
    have iiv0 : -9223372036854775808 ≤ v0 ∧ v0 < 9223372036854775808 := hok 1 _ rfl
    have iiv1 : -2147483648 ≤ v1 ∧ v1 < 2147483648 := hok 3 _ rfl
    have iik : -2147483648 ≤ k ∧ k < 2147483648 := hok 4 _ rfl
    have r1 : 0 ≤ (J 236 2) ∧ (J 236 2) ≤ 64 := Rg.n2 hJ
    refine Go_wp (by decide) ckX12_feed [40] ?_
    refine ⟨fun (c3 : ((v1 : Int) ≤ k)) => ?_, fun (c3 : (¬ ((v1 : Int) ≤ k))) => ?_⟩
    ·
      refine ⟨_, rfl, (by decide), ?_⟩
      refine fun w0 hw0 => ?_; obtain rfl : w0 = some 236 := hw0.symm.trans (FS.g hF rfl)
      refine ⟨_, rfl, (by decide), (by decide), (by decide), ?_⟩
      exact ⟨rfl, hQ _ _ hJ (fun ka ja hk => (hV ka ja (by omega))) (⟨by omega, cc104, fun j hj => cc105 j (by omega)⟩)⟩
    ·
      refine ⟨_, rfl, (by decide), ?_⟩
      refine fun w0 hw0 => ?_; obtain rfl : w0 = some 236 := hw0.symm.trans (FS.g hF rfl)
      refine ⟨_, rfl, (by decide), ?_⟩
      refine fun w0 hw0 => ?_; obtain rfl : w0 = some 236 := hw0.symm.trans (FS.g hF rfl)
      refine ⟨_, rfl, (by decide), (by decide), (by decide), ?_⟩
      have n4 : (wr (1228 + (J 236 2))) = 1228 + (J 236 2) := wr_id (show -2147483648 ≤ (1228 + (J 236 2) : Int) ∧ (1228 + (J 236 2) : Int) < 2147483648 from by omega)
      refine ⟨_, rfl, (by decide), (show (0 : Int) ≤ (wr (1228 + (J 236 2))) from by first | with_reducible assumption | omega | (simp only [wr, wl] at *; omega)), (show (wr (1228 + (J 236 2))) < (1340 : Int) from by first | with_reducible assumption | omega | (simp only [wr, wl] at *; omega)), ?_⟩
      have n5 : 0 ≤ (bL (srL v0 (wr (8 * k))) 255) ∧ (bL (srL v0 (wr (8 * k))) 255) ≤ 255 := bL_ri (by decide)
      have n6 : (wr (bL (srL v0 (wr (8 * k))) 255)) = (bL (srL v0 (wr (8 * k))) 255) := wr_id (show -2147483648 ≤ ((bL (srL v0 (wr (8 * k))) 255) : Int) ∧ ((bL (srL v0 (wr (8 * k))) 255) : Int) < 2147483648 from by omega)
      have p7 : Pn (Int.toNat (wr (1228 + (J 236 2)))) (wr (bL (srL v0 (wr (8 * k))) 255)) := by apply Pn_w <;> omega
      refine ⟨_, rfl, (by decide), ?_⟩
      refine fun w0 hw0 => ?_; obtain rfl : w0 = some 236 := hw0.symm.trans (FS.g hF rfl)
      refine ⟨_, rfl, (by decide), (by decide), (by decide), ?_⟩
      have u8 : ((uI J 236 (Int.toNat (wr (1228 + (J 236 2)))) (wr (bL (srL v0 (wr (8 * k))) 255))) 236 2) = (J 236 2) := uJ_ne (by omega)
      refine ⟨_, rfl, (by decide), (by decide), (by decide), ?_⟩
      have n9 : (wr (((uI J 236 (Int.toNat (wr (1228 + (J 236 2)))) (wr (bL (srL v0 (wr (8 * k))) 255))) 236 2) + 1)) = ((uI J 236 (Int.toNat (wr (1228 + (J 236 2)))) (wr (bL (srL v0 (wr (8 * k))) 255))) 236 2) + 1 := wr_id (show -2147483648 ≤ (((uI J 236 (Int.toNat (wr (1228 + (J 236 2)))) (wr (bL (srL v0 (wr (8 * k))) 255))) 236 2) + 1 : Int) ∧ (((uI J 236 (Int.toNat (wr (1228 + (J 236 2)))) (wr (bL (srL v0 (wr (8 * k))) 255))) 236 2) + 1 : Int) < 2147483648 from by omega)
      have p10 : Pn 2 (wr (((uI J 236 (Int.toNat (wr (1228 + (J 236 2)))) (wr (bL (srL v0 (wr (8 * k))) 255))) 236 2) + 1)) := by apply Pn_w <;> omega
      have n11 : (wr (k + 1)) = k + 1 := wr_id (show -2147483648 ≤ (k + 1 : Int) ∧ (k + 1 : Int) < 2147483648 from by omega)
      exact ih (wr (k + 1)) (uI (uI J 236 (Int.toNat (wr (1228 + (J 236 2)))) (wr (bL (srL v0 (wr (8 * k))) 255))) 236 2 (wr (((uI J 236 (Int.toNat (wr (1228 + (J 236 2)))) (wr (bL (srL v0 (wr (8 * k))) 255))) 236 2) + 1))) (Rg.u (Rg.u hJ (Pr_n p7)) (Pr_n p10)) (fun ka ja hk => ((uI_o (show ¬ (ka = 236 ∧ ja = 2) from by first | (intro e; obtain ⟨rfl, rfl⟩ := e; exact hk (by decide)) | omega))).trans (((uI_o (show ¬ (ka = 236 ∧ ja = (Int.toNat (wr (1228 + (J 236 2))))) from by omega))).trans ((hV ka ja (by omega))))) (show (0 : Int) ≤ (wr (k + 1)) from by first | with_reducible assumption | omega | (simp only [wr, wl] at *; omega)) (show ((wr (k + 1)) : Int) ≤ 8 from by first | with_reducible assumption | omega | (simp only [wr, wl] at *; omega)) (show (wr (((uI J 236 (Int.toNat (wr (1228 + (J 236 2)))) (wr (bL (srL v0 (wr (8 * k))) 255))) 236 2) + 1)) = I 236 2 + (wr (k + 1)) from by first | omega | (simp only [wr, wl] at *; omega)) (show (wr (k + 1)) ≤ v1 from by first | with_reducible assumption | omega | (simp only [wr, wl] at *; omega)) (fun j hj => ((uJ_ne (show ¬ (1228 + j) = 2 from by omega)).trans (uJ_ne (show ¬ (1228 + j) = (Int.toNat (wr (1228 + (J 236 2)))) from by omega))).trans (cc104 j hj)) (fun j hj => if e : (j : Int) = k then ((uJ_ne (show ¬ (1228 + ((Int.toNat (I 236 2)) + j)) = 2 from by omega)).trans (uJ_eqj (show (1228 + ((Int.toNat (I 236 2)) + j)) = (Int.toNat (wr (1228 + (J 236 2)))) from by omega))).trans (by
                              have hz : wr (8 * k) = 8 * k := wr_id (by unfold iR; omega)
                              rw [hz, e]) else ((uJ_ne (show ¬ (1228 + ((Int.toNat (I 236 2)) + j)) = 2 from by omega)).trans (uJ_ne (show ¬ (1228 + ((Int.toNat (I 236 2)) + j)) = (Int.toNat (wr (1228 + (J 236 2)))) from by omega))).trans (cc105 j (by omega))) (show (8 - (wr (k + 1))).toNat < mz from by omega)
theorem r_feed10 (hF : FS F) (hR : Rg I) {v0 v1 : Int} (hT : 0 ≤ I 236 2 ∧ I 236 2 ≤ 64) (hQ : ∀ (r : Int) (I' : pI), Rg I' → AR I' → iR r → (∀ k j, ¬ (k = 238 ∨ (k = 236 ∧ (j = 2 ∨ (1228 ≤ j ∧ j < 1292)))) → I' k j = I k j) → ((¬ ((1 ≤ v1 ∧ v1 ≤ 8) ∧ I 236 2 ≤ 64 - v1) → I' 236 2 = I 236 2 ∧ ∀ j : Nat, I' 236 (1228 + j) = I 236 (1228 + j)) ∧ (((1 ≤ v1 ∧ v1 ≤ 8) ∧ I 236 2 ≤ 64 - v1) → I' 236 2 = I 236 2 + v1 ∧ (∀ j : Nat, (j : Int) < I 236 2 → I' 236 (1228 + j) = I 236 (1228 + j)) ∧ ∀ j : Nat, (j : Int) < v1 → I' 236 (1228 + (Int.toNat (I 236 2) + j)) = wr (bL (srL v0 (8 * (j : Int))) 255))) → Q (some (vi r)) F I') : CallN G (d + 1) kX12_feed [vr 235, vl v0, vi v1] NP F I Q := by
  refine CallN_in (fun hok hA => CallN_out ?_)
  have iv0 : -9223372036854775808 ≤ v0 ∧ v0 < 9223372036854775808 := hok (vl v0) (by simp)
  have iv1 : -2147483648 ≤ v1 ∧ v1 < 2147483648 := hok (vi v1) (by simp)
  refine Call_wp (lv := [some (vr 235), some (vl v0), none, some (vi v1), none]) (by decide) ckX12_feed [40] rfl rfl ?_
  refine s_X12_within (fun (w1 : ((1 : Int) ≤ v1 ∧ (v1 : Int) ≤ 8)) => ?_) (fun (w1 : ¬ ((1 : Int) ≤ v1 ∧ (v1 : Int) ≤ 8)) => ?_)
  ·
    refine ⟨fun _ => ?_, fun c => absurd c (show (¬ (1 : Int) = 0) from by decide)⟩
    refine ⟨_, rfl, (by decide), ?_⟩
    refine fun w0 hw0 => ?_; obtain rfl : w0 = some 236 := hw0.symm.trans (FS.g hF rfl)
    refine ⟨_, rfl, (by decide), (by decide), (by decide), ?_⟩
    have r2 : 0 ≤ (I 236 2) ∧ (I 236 2) ≤ 64 := hT
    have n4 : (wr ((I 236 2) + v1)) = (I 236 2) + v1 := wr_id (show -2147483648 ≤ ((I 236 2) + v1 : Int) ∧ ((I 236 2) + v1 : Int) < 2147483648 from by omega)
    refine ⟨fun (c5 : (((wr ((I 236 2) + v1)) : Int) ≤ 64)) => ?_, fun (c5 : (¬ (((wr ((I 236 2) + v1)) : Int) ≤ 64))) => ?_⟩
    ·
      refine r_feed10_l hF hR (by omega) (by omega) (fun r I' g1 g2 g3 hv hA' => hQ _ _ g1 hA' (hv _ rfl) g2 ⟨fun z => absurd (by omega) z, fun _ => g3⟩) _ 0 I hR (fun _ _ _ => rfl) (show (0 : Int) ≤ (0 : Int) from Int.le_refl _) (show ((0 : Int) : Int) ≤ 8 from by first | with_reducible assumption | omega | (simp only [wr, wl] at *; omega)) (show (I 236 2) = I 236 2 + (0 : Int) from by first | omega | (simp only [wr, wl] at *; omega)) (show (0 : Int) ≤ v1 from by first | with_reducible assumption | omega | (simp only [wr, wl] at *; omega)) (fun j hj => rfl) (fun j hj => absurd hj (by omega)) (Nat.lt_succ_self _)
    ·
      refine ⟨⟨_, rfl, (by decide)⟩, ?_⟩
      refine s_X12_finding hF (v := (-1000004)) (by decide) ?_
      exact ⟨rfl, fun hv hA' => hQ _ _ (Rg.u hR (Pr_f rfl)) hA' (hv _ rfl) (fun ka ja hk => (uI_o (show ¬ (ka = 238 ∧ ja = 4) from by first | (intro e; obtain ⟨rfl, rfl⟩ := e; exact hk (by decide)) | omega))) (⟨fun _ => ⟨uI_o (show ¬ (236 = 238 ∧ 2 = 4) from fun e => absurd e.1 (Nat.ne_of_beq_eq_false rfl)), fun j => uI_o (show ¬ (236 = 238 ∧ (1228 + j) = 4) from fun e => absurd e.1 (Nat.ne_of_beq_eq_false rfl))⟩, fun z => absurd z (by omega)⟩)⟩
  ·
    refine ⟨fun c => absurd (show ((0 : Int) = 0) from by decide) c, fun _ => ?_⟩
    refine ⟨⟨_, rfl, (by decide)⟩, ?_⟩
    refine s_X12_finding hF (v := (-1000001)) (by decide) ?_
    exact ⟨rfl, fun hv hA' => hQ _ _ (Rg.u hR (Pr_f rfl)) hA' (hv _ rfl) (fun ka ja hk => (uI_o (show ¬ (ka = 238 ∧ ja = 1) from by first | (intro e; obtain ⟨rfl, rfl⟩ := e; exact hk (by decide)) | omega))) (⟨fun _ => ⟨uI_o (show ¬ (236 = 238 ∧ 2 = 1) from fun e => absurd e.1 (Nat.ne_of_beq_eq_false rfl)), fun j => uI_o (show ¬ (236 = 238 ∧ (1228 + j) = 1) from fun e => absurd e.1 (Nat.ne_of_beq_eq_false rfl))⟩, fun z => absurd z (by omega)⟩)⟩
end FD
