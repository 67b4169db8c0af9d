/-! what run answers and writes, the reference's. Own work (scripts laid by wip/pm/gen34.py). -/
section RR10
variable {G : pG} {d : Nat} {F : pF} {I : pI} {Q : Option pV → pF → pI → Prop}
theorem r_run9_l (hF : FS F) (hR : Rg I) {v0 v1 : Int} (hp : 0 ≤ v1 ∧ v1 ≤ 13) {RR : pI} {EE : Int} (hWS : WS RR) (hQ : ∀ (r : Int) (I' : pI), Rg I' → (∀ k j, ¬ (k = 238 ∨ (k = 235 ∧ 11 ≤ j ∧ j ≤ 18) ∨ (242 ≤ k ∧ k ≤ 244) ∨ (k = 236 ∧ 304 ≤ j ∧ j < 1228 ∧ ((j - 304) % 66 = 4 ∨ 17 ≤ (j - 304) % 66)) ∨ (k = 236 ∧ 9 ≤ j ∧ j ≤ 13)) → I' k j = I k j) → (r = RR 0 2 ∧ I' 236 (304 + 66 * (Int.toNat v1) + 4) = RR 0 5 ∧ (∀ i : Nat, (i : Int) < RR 0 5 → I' 236 (304 + 66 * (Int.toNat v1) + 17 + 2 * i) = RR 2 i ∧ I' 236 (304 + 66 * (Int.toNat v1) + 18 + 2 * i) = RR 3 i) ∧ (I' 236 9 = 1 ∧ I' 236 10 = RR 0 2 ∧ I' 236 11 = RR 0 3 ∧ I' 236 12 = RR 0 0 ∧ I' 236 13 = EE) ∧ ∀ j : Nat, ¬ (9 ≤ j ∧ j ≤ 13) → ¬ (j = 304 + 66 * (Int.toNat v1) + 4) → ¬ (304 + 66 * (Int.toNat v1) + 17 ≤ j ∧ j < 304 + 66 * (Int.toNat v1) + 66) → I' 236 j = I 236 j) → Q (some (vi r)) F I') : ∀ (mz : Nat) (e i : Int) (J : pI), Rg J → (∀ k j, ¬ (k = 238 ∨ (k = 235 ∧ 11 ≤ j ∧ j ≤ 18) ∨ (242 ≤ k ∧ k ≤ 244) ∨ (k = 236 ∧ 304 ≤ j ∧ j < 1228 ∧ ((j - 304) % 66 = 4 ∨ 17 ≤ (j - 304) % 66)) ∨ (k = 236 ∧ 9 ≤ j ∧ j ≤ 13)) → J k j = I k j) → ((0 : Int) ≤ i) → ((i : Int) ≤ 24) → (e = EE) → (MR 1 RR J) → (∀ j : Nat, (j : Int) < i → J 236 (304 + 66 * (Int.toNat v1) + 17 + 2 * j) = RR 2 j ∧ J 236 (304 + 66 * (Int.toNat v1) + 18 + 2 * j) = RR 3 j) → (∀ j : Nat, ¬ (9 ≤ j ∧ j ≤ 13) → ¬ (j = 304 + 66 * (Int.toNat v1) + 4) → ¬ (304 + 66 * (Int.toNat v1) + 17 ≤ j ∧ j < 304 + 66 * (Int.toNat v1) + 66) → J 236 j = I 236 j) → (24 - i).toNat < mz → GoN G (d + 1) kX12_run NP NP 49 [some (vr 235), some (vi v0), some (vi v1), some (vi e), some (vi i)] [] F J Q := by
  intro mz
  induction mz with
  | zero => intro e i J hJ hV _ _ _ _ _ _ h; exact absurd h (Nat.not_lt_zero _)
  | succ mz ih =>
    intro e i J hJ hV cc100 cc101 cc102 cc103 cc104 cc105 hm
    refine GoN_in (fun hok hA => ?_)
    have iiv0 : -2147483648 ≤ v0 ∧ v0 < 2147483648 := hok 1 _ rfl
    have iiv1 : -2147483648 ≤ v1 ∧ v1 < 2147483648 := hok 2 _ rfl
    have iie : -2147483648 ≤ e ∧ e < 2147483648 := hok 3 _ rfl
    have iii : -2147483648 ≤ i ∧ i < 2147483648 := hok 4 _ rfl
    have hmr := cc103
    obtain ⟨⟨m12, m13, m14, m15, m16, m17, m18⟩, ma, mr⟩ := hmr
    have hWS2 := hWS
    obtain ⟨wa, wb_, wc, wd⟩ := hWS2
    refine Go_wp (by decide) ckX12_run [49] ?_
    refine ⟨_, rfl, (by decide), ?_⟩
    have r1 : 0 ≤ (J 235 18) ∧ (J 235 18) ≤ 24 := Rg.f18 hJ
    refine ⟨fun (c3 : (((J 235 18) : Int) ≤ i)) => ?_, fun (c3 : (¬ (((J 235 18) : Int) ≤ i))) => ?_⟩
    ·
      refine ⟨_, rfl, (by decide), ?_⟩
      refine fun w0 hw0 => ?_; obtain rfl : w0 = some 236 := hw0.symm.trans (FS.g hF rfl)
      refine ⟨_, rfl, (by decide), ?_⟩
      have n4 : (wr (66 * v1)) = 66 * v1 := wr_id (show -2147483648 ≤ (66 * v1 : Int) ∧ (66 * v1 : Int) < 2147483648 from by omega)
      have n5 : (wr (304 + (wr (66 * v1)))) = 304 + (wr (66 * v1)) := wr_id (show -2147483648 ≤ (304 + (wr (66 * v1)) : Int) ∧ (304 + (wr (66 * v1)) : Int) < 2147483648 from by omega)
      have n6 : (wr ((wr (304 + (wr (66 * v1)))) + 4)) = (wr (304 + (wr (66 * v1)))) + 4 := wr_id (show -2147483648 ≤ ((wr (304 + (wr (66 * v1)))) + 4 : Int) ∧ ((wr (304 + (wr (66 * v1)))) + 4 : Int) < 2147483648 from by omega)
      refine ⟨_, rfl, (by decide), (show (0 : Int) ≤ (wr ((wr (304 + (wr (66 * v1)))) + 4)) from by first | with_reducible assumption | omega | (simp only [wr, wl] at *; omega)), (show (wr ((wr (304 + (wr (66 * v1)))) + 4)) < (1340 : Int) from by first | with_reducible assumption | omega | (simp only [wr, wl] at *; omega)), ?_⟩
      have p7 : Pn (Int.toNat (wr ((wr (304 + (wr (66 * v1)))) + 4))) (J 235 18) := by apply Pn_w <;> omega
      refine ⟨_, rfl, (by decide), ?_⟩
      refine fun w0 hw0 => ?_; obtain rfl : w0 = some 236 := hw0.symm.trans (FS.g hF rfl)
      refine ⟨_, rfl, (by decide), (by decide), (by decide), ?_⟩
      have p8 : Pn 9 1 := by apply Pn_w <;> omega
      refine ⟨_, rfl, (by decide), ?_⟩
      refine fun w0 hw0 => ?_; obtain rfl : w0 = some 236 := hw0.symm.trans (FS.g hF rfl)
      refine ⟨_, rfl, (by decide), ?_⟩
      refine ⟨_, rfl, (by decide), (by decide), (by decide), ?_⟩
      have a9 : -2147483648 ≤ (J 235 15) ∧ (J 235 15) < 2147483648 := hA.1 _ _
      have p10 : Pn 10 (J 235 15) := by apply Pn_w <;> omega
      refine ⟨_, rfl, (by decide), ?_⟩
      refine fun w0 hw0 => ?_; obtain rfl : w0 = some 236 := hw0.symm.trans (FS.g hF rfl)
      refine ⟨_, rfl, (by decide), ?_⟩
      have r11 : 0 ≤ (J 235 16) ∧ (J 235 16) ≤ 20000000 := Rg.f16 hJ
      refine ⟨_, rfl, (by decide), (by decide), (by decide), ?_⟩
      have p13 : Pn 11 (J 235 16) := by apply Pn_w <;> omega
      refine ⟨_, rfl, (by decide), ?_⟩
      refine fun w0 hw0 => ?_; obtain rfl : w0 = some 236 := hw0.symm.trans (FS.g hF rfl)
      refine ⟨_, rfl, (by decide), ?_⟩
      have r14 : 0 ≤ (J 235 12) ∧ (J 235 12) ≤ 20000000 := Rg.f12 hJ
      refine ⟨_, rfl, (by decide), (by decide), (by decide), ?_⟩
      have p16 : Pn 12 (J 235 12) := by apply Pn_w <;> omega
      refine ⟨_, rfl, (by decide), ?_⟩
      refine fun w0 hw0 => ?_; obtain rfl : w0 = some 236 := hw0.symm.trans (FS.g hF rfl)
      refine ⟨_, rfl, (by decide), (by decide), (by decide), ?_⟩
      have p17 : Pn 13 e := by apply Pn_w <;> omega
      refine ⟨_, rfl, (by decide), ?_⟩
      exact ⟨rfl, hQ _ _ (Rg.u (Rg.u (Rg.u (Rg.u (Rg.u (Rg.u hJ (Pr_n p7)) (Pr_n p8)) (Pr_n p10)) (Pr_n p13)) (Pr_n p16)) (Pr_n p17)) (fun ka ja hk => ((uI_o (show ¬ (ka = 236 ∧ ja = 13) from by first | (intro e; obtain ⟨rfl, rfl⟩ := e; exact hk (by decide)) | omega))).trans (((uI_o (show ¬ (ka = 236 ∧ ja = 12) from by first | (intro e; obtain ⟨rfl, rfl⟩ := e; exact hk (by decide)) | omega))).trans (((uI_o (show ¬ (ka = 236 ∧ ja = 11) from by first | (intro e; obtain ⟨rfl, rfl⟩ := e; exact hk (by decide)) | omega))).trans (((uI_o (show ¬ (ka = 236 ∧ ja = 10) from by first | (intro e; obtain ⟨rfl, rfl⟩ := e; exact hk (by decide)) | omega))).trans (((uI_o (show ¬ (ka = 236 ∧ ja = 9) from by first | (intro e; obtain ⟨rfl, rfl⟩ := e; exact hk (by decide)) | omega))).trans (((uI_o (show ¬ (ka = 236 ∧ ja = (Int.toNat (wr ((wr (304 + (wr (66 * v1)))) + 4)))) from by omega))).trans ((hV ka ja (by omega))))))))) ((by
                              refine ⟨(show (J 235 15) = RR 0 2 from by omega), ((uJ_ne (show ¬ (304 + 66 * (Int.toNat v1) + 4) = 13 from by omega)).trans ((uJ_ne (show ¬ (304 + 66 * (Int.toNat v1) + 4) = 12 from by omega)).trans ((uJ_ne (show ¬ (304 + 66 * (Int.toNat v1) + 4) = 11 from by omega)).trans ((uJ_ne (show ¬ (304 + 66 * (Int.toNat v1) + 4) = 10 from by omega)).trans ((uJ_ne (show ¬ (304 + 66 * (Int.toNat v1) + 4) = 9 from by omega)).trans (uJ_eqj (show (304 + 66 * (Int.toNat v1) + 4) = (Int.toNat (wr ((wr (304 + (wr (66 * v1)))) + 4))) from by omega))))))).trans m18, fun j hj => ⟨((uJ_ne (show ¬ (304 + 66 * (Int.toNat v1) + 17 + 2 * j) = 13 from by omega)).trans ((uJ_ne (show ¬ (304 + 66 * (Int.toNat v1) + 17 + 2 * j) = 12 from by omega)).trans ((uJ_ne (show ¬ (304 + 66 * (Int.toNat v1) + 17 + 2 * j) = 11 from by omega)).trans ((uJ_ne (show ¬ (304 + 66 * (Int.toNat v1) + 17 + 2 * j) = 10 from by omega)).trans ((uJ_ne (show ¬ (304 + 66 * (Int.toNat v1) + 17 + 2 * j) = 9 from by omega)).trans (uJ_ne (show ¬ (304 + 66 * (Int.toNat v1) + 17 + 2 * j) = (Int.toNat (wr ((wr (304 + (wr (66 * v1)))) + 4))) from by omega))))))).trans (cc104 j (by omega)).1, ((uJ_ne (show ¬ (304 + 66 * (Int.toNat v1) + 18 + 2 * j) = 13 from by omega)).trans ((uJ_ne (show ¬ (304 + 66 * (Int.toNat v1) + 18 + 2 * j) = 12 from by omega)).trans ((uJ_ne (show ¬ (304 + 66 * (Int.toNat v1) + 18 + 2 * j) = 11 from by omega)).trans ((uJ_ne (show ¬ (304 + 66 * (Int.toNat v1) + 18 + 2 * j) = 10 from by omega)).trans ((uJ_ne (show ¬ (304 + 66 * (Int.toNat v1) + 18 + 2 * j) = 9 from by omega)).trans (uJ_ne (show ¬ (304 + 66 * (Int.toNat v1) + 18 + 2 * j) = (Int.toNat (wr ((wr (304 + (wr (66 * v1)))) + 4))) from by omega))))))).trans (cc104 j (by omega)).2⟩, ⟨(uJ_ne (show ¬ 9 = 13 from by omega)).trans ((uJ_ne (show ¬ 9 = 12 from by omega)).trans ((uJ_ne (show ¬ 9 = 11 from by omega)).trans ((uJ_ne (show ¬ 9 = 10 from by omega)).trans (uJ_eqj (show 9 = 9 from by omega))))), ((uJ_ne (show ¬ 10 = 13 from by omega)).trans ((uJ_ne (show ¬ 10 = 12 from by omega)).trans ((uJ_ne (show ¬ 10 = 11 from by omega)).trans (uJ_eqj (show 10 = 10 from by omega))))).trans m15, ((uJ_ne (show ¬ 11 = 13 from by omega)).trans ((uJ_ne (show ¬ 11 = 12 from by omega)).trans (uJ_eqj (show 11 = 11 from by omega)))).trans m16, ((uJ_ne (show ¬ 12 = 13 from by omega)).trans (uJ_eqj (show 12 = 12 from by omega))).trans m12, (uJ_eqj (show 13 = 13 from by omega)).trans cc102⟩, fun j h1 h2 h3 => ((uJ_ne (show ¬ j = 13 from by omega)).trans ((uJ_ne (show ¬ j = 12 from by omega)).trans ((uJ_ne (show ¬ j = 11 from by omega)).trans ((uJ_ne (show ¬ j = 10 from by omega)).trans ((uJ_ne (show ¬ j = 9 from by omega)).trans (uJ_ne (show ¬ j = (Int.toNat (wr ((wr (304 + (wr (66 * v1)))) + 4))) from by omega))))))).trans (cc105 j h1 h2 h3)⟩))⟩
    ·
      refine ⟨_, rfl, (by decide), ?_⟩
      refine fun w0 hw0 => ?_; obtain rfl : w0 = some 243 := hw0.symm.trans (FS.g hF rfl)
      refine ⟨_, rfl, (by decide), (show (0 : Int) ≤ i from by first | with_reducible assumption | omega | (simp only [wr, wl] at *; omega)), (show i < (24 : Int) from by first | with_reducible assumption | omega | (simp only [wr, wl] at *; omega)), ?_⟩
      refine ⟨_, rfl, (by decide), ?_⟩
      refine fun w0 hw0 => ?_; obtain rfl : w0 = some 244 := hw0.symm.trans (FS.g hF rfl)
      refine ⟨_, rfl, (by decide), (show (0 : Int) ≤ i from by first | with_reducible assumption | omega | (simp only [wr, wl] at *; omega)), (show i < (24 : Int) from by first | with_reducible assumption | omega | (simp only [wr, wl] at *; omega)), ?_⟩
      refine ⟨⟨_, rfl, (by decide)⟩, ?_⟩
      refine Call_wp (lv := [some (vr 235), some (vi v1), some (vi i), some (vi (J 243 (Int.toNat i))), some (vi (J 244 (Int.toNat i)))]) (by decide) ckX12_read [] rfl rfl ?_
      refine ⟨_, rfl, (by decide), ?_⟩
      refine fun w0 hw0 => ?_; obtain rfl : w0 = some 236 := hw0.symm.trans (FS.g hF rfl)
      have n18 : (wr (66 * v1)) = 66 * v1 := wr_id (show -2147483648 ≤ (66 * v1 : Int) ∧ (66 * v1 : Int) < 2147483648 from by omega)
      have n19 : (wr (304 + (wr (66 * v1)))) = 304 + (wr (66 * v1)) := wr_id (show -2147483648 ≤ (304 + (wr (66 * v1)) : Int) ∧ (304 + (wr (66 * v1)) : Int) < 2147483648 from by omega)
      have n20 : (wr ((wr (304 + (wr (66 * v1)))) + 17)) = (wr (304 + (wr (66 * v1)))) + 17 := wr_id (show -2147483648 ≤ ((wr (304 + (wr (66 * v1)))) + 17 : Int) ∧ ((wr (304 + (wr (66 * v1)))) + 17 : Int) < 2147483648 from by omega)
      have n21 : (wr (2 * i)) = 2 * i := wr_id (show -2147483648 ≤ (2 * i : Int) ∧ (2 * i : Int) < 2147483648 from by omega)
      have n22 : (wr ((wr ((wr (304 + (wr (66 * v1)))) + 17)) + (wr (2 * i)))) = (wr ((wr (304 + (wr (66 * v1)))) + 17)) + (wr (2 * i)) := wr_id (show -2147483648 ≤ ((wr ((wr (304 + (wr (66 * v1)))) + 17)) + (wr (2 * i)) : Int) ∧ ((wr ((wr (304 + (wr (66 * v1)))) + 17)) + (wr (2 * i)) : Int) < 2147483648 from by omega)
      refine ⟨_, rfl, (by decide), (show (0 : Int) ≤ (wr ((wr ((wr (304 + (wr (66 * v1)))) + 17)) + (wr (2 * i)))) from by first | with_reducible assumption | omega | (simp only [wr, wl] at *; omega)), (show (wr ((wr ((wr (304 + (wr (66 * v1)))) + 17)) + (wr (2 * i)))) < (1340 : Int) from by first | with_reducible assumption | omega | (simp only [wr, wl] at *; omega)), ?_⟩
      have a23 : -2147483648 ≤ (J 243 (Int.toNat i)) ∧ (J 243 (Int.toNat i)) < 2147483648 := hA.1 _ _
      have p24 : Pn (Int.toNat (wr ((wr ((wr (304 + (wr (66 * v1)))) + 17)) + (wr (2 * i))))) (J 243 (Int.toNat i)) := by apply Pn_w <;> omega
      refine ⟨_, rfl, (by decide), ?_⟩
      refine fun w0 hw0 => ?_; obtain rfl : w0 = some 236 := hw0.symm.trans (FS.g hF rfl)
      have n25 : (wr ((wr ((wr ((wr (304 + (wr (66 * v1)))) + 17)) + (wr (2 * i)))) + 1)) = (wr ((wr ((wr (304 + (wr (66 * v1)))) + 17)) + (wr (2 * i)))) + 1 := wr_id (show -2147483648 ≤ ((wr ((wr ((wr (304 + (wr (66 * v1)))) + 17)) + (wr (2 * i)))) + 1 : Int) ∧ ((wr ((wr ((wr (304 + (wr (66 * v1)))) + 17)) + (wr (2 * i)))) + 1 : Int) < 2147483648 from by omega)
      refine ⟨_, rfl, (by decide), (show (0 : Int) ≤ (wr ((wr ((wr ((wr (304 + (wr (66 * v1)))) + 17)) + (wr (2 * i)))) + 1)) from by first | with_reducible assumption | omega | (simp only [wr, wl] at *; omega)), (show (wr ((wr ((wr ((wr (304 + (wr (66 * v1)))) + 17)) + (wr (2 * i)))) + 1)) < (1340 : Int) from by first | with_reducible assumption | omega | (simp only [wr, wl] at *; omega)), ?_⟩
      have a26 : -2147483648 ≤ (J 244 (Int.toNat i)) ∧ (J 244 (Int.toNat i)) < 2147483648 := hA.1 _ _
      have p27 : Pn (Int.toNat (wr ((wr ((wr ((wr (304 + (wr (66 * v1)))) + 17)) + (wr (2 * i)))) + 1))) (J 244 (Int.toNat i)) := by apply Pn_w <;> omega
      refine ⟨rfl, ?_⟩
      have n28 : (wr (i + 1)) = i + 1 := wr_id (show -2147483648 ≤ (i + 1 : Int) ∧ (i + 1 : Int) < 2147483648 from by omega)
      exact ih e (wr (i + 1)) (uI (uI J 236 (Int.toNat (wr ((wr ((wr (304 + (wr (66 * v1)))) + 17)) + (wr (2 * i))))) (J 243 (Int.toNat i))) 236 (Int.toNat (wr ((wr ((wr ((wr (304 + (wr (66 * v1)))) + 17)) + (wr (2 * i)))) + 1))) (J 244 (Int.toNat i))) (Rg.u (Rg.u hJ (Pr_n p24)) (Pr_n p27)) (fun ka ja hk => ((uI_o (show ¬ (ka = 236 ∧ ja = (Int.toNat (wr ((wr ((wr ((wr (304 + (wr (66 * v1)))) + 17)) + (wr (2 * i)))) + 1)))) from by omega))).trans (((uI_o (show ¬ (ka = 236 ∧ ja = (Int.toNat (wr ((wr ((wr (304 + (wr (66 * v1)))) + 17)) + (wr (2 * i)))))) from by omega))).trans ((hV ka ja (by omega))))) (show (0 : Int) ≤ (wr (i + 1)) from by first | with_reducible assumption | omega | (simp only [wr, wl] at *; omega)) (show ((wr (i + 1)) : Int) ≤ 24 from by first | with_reducible assumption | omega | (simp only [wr, wl] at *; omega)) (show e = EE from by first | omega | (simp only [wr, wl] at *; omega)) (MR_f cc103 (fun j h1 h2 => (uI_o (show ¬ (235 = 236 ∧ j = (Int.toNat (wr ((wr ((wr ((wr (304 + (wr (66 * v1)))) + 17)) + (wr (2 * i)))) + 1)))) from fun e => absurd e.1 (Nat.ne_of_beq_eq_false rfl))).trans (uI_o (show ¬ (235 = 236 ∧ j = (Int.toNat (wr ((wr ((wr (304 + (wr (66 * v1)))) + 17)) + (wr (2 * i)))))) from fun e => absurd e.1 (Nat.ne_of_beq_eq_false rfl)))) (fun j => (uI_o (show ¬ (242 = 236 ∧ j = (Int.toNat (wr ((wr ((wr ((wr (304 + (wr (66 * v1)))) + 17)) + (wr (2 * i)))) + 1)))) from fun e => absurd e.1 (Nat.ne_of_beq_eq_false rfl))).trans (uI_o (show ¬ (242 = 236 ∧ j = (Int.toNat (wr ((wr ((wr (304 + (wr (66 * v1)))) + 17)) + (wr (2 * i)))))) from fun e => absurd e.1 (Nat.ne_of_beq_eq_false rfl)))) (fun j => (uI_o (show ¬ (243 = 236 ∧ j = (Int.toNat (wr ((wr ((wr ((wr (304 + (wr (66 * v1)))) + 17)) + (wr (2 * i)))) + 1)))) from fun e => absurd e.1 (Nat.ne_of_beq_eq_false rfl))).trans (uI_o (show ¬ (243 = 236 ∧ j = (Int.toNat (wr ((wr ((wr (304 + (wr (66 * v1)))) + 17)) + (wr (2 * i)))))) from fun e => absurd e.1 (Nat.ne_of_beq_eq_false rfl)))) (fun j => (uI_o (show ¬ (244 = 236 ∧ j = (Int.toNat (wr ((wr ((wr ((wr (304 + (wr (66 * v1)))) + 17)) + (wr (2 * i)))) + 1)))) from fun e => absurd e.1 (Nat.ne_of_beq_eq_false rfl))).trans (uI_o (show ¬ (244 = 236 ∧ j = (Int.toNat (wr ((wr ((wr (304 + (wr (66 * v1)))) + 17)) + (wr (2 * i)))))) from fun e => absurd e.1 (Nat.ne_of_beq_eq_false rfl))))) (fun j hj => if e : (j : Int) = i then (by
                              have z := ma j (by omega)
                              have ej : Int.toNat i = j := by omega
                              exact ⟨((uJ_ne (show ¬ (304 + 66 * (Int.toNat v1) + 17 + 2 * j) = (Int.toNat (wr ((wr ((wr ((wr (304 + (wr (66 * v1)))) + 17)) + (wr (2 * i)))) + 1))) from by omega)).trans (uJ_eqj (show (304 + 66 * (Int.toNat v1) + 17 + 2 * j) = (Int.toNat (wr ((wr ((wr (304 + (wr (66 * v1)))) + 17)) + (wr (2 * i))))) from by omega))).trans ((congrArg (J 243) ej).trans z.1), (uJ_eqj (show (304 + 66 * (Int.toNat v1) + 18 + 2 * j) = (Int.toNat (wr ((wr ((wr ((wr (304 + (wr (66 * v1)))) + 17)) + (wr (2 * i)))) + 1))) from by omega)).trans ((congrArg (J 244) ej).trans z.2)⟩) else ⟨((uJ_ne (show ¬ (304 + 66 * (Int.toNat v1) + 17 + 2 * j) = (Int.toNat (wr ((wr ((wr ((wr (304 + (wr (66 * v1)))) + 17)) + (wr (2 * i)))) + 1))) from by omega)).trans (uJ_ne (show ¬ (304 + 66 * (Int.toNat v1) + 17 + 2 * j) = (Int.toNat (wr ((wr ((wr (304 + (wr (66 * v1)))) + 17)) + (wr (2 * i))))) from by omega))).trans (cc104 j (by omega)).1, ((uJ_ne (show ¬ (304 + 66 * (Int.toNat v1) + 18 + 2 * j) = (Int.toNat (wr ((wr ((wr ((wr (304 + (wr (66 * v1)))) + 17)) + (wr (2 * i)))) + 1))) from by omega)).trans (uJ_ne (show ¬ (304 + 66 * (Int.toNat v1) + 18 + 2 * j) = (Int.toNat (wr ((wr ((wr (304 + (wr (66 * v1)))) + 17)) + (wr (2 * i))))) from by omega))).trans (cc104 j (by omega)).2⟩) (fun j h1 h2 h3 => ((uJ_ne (show ¬ j = (Int.toNat (wr ((wr ((wr ((wr (304 + (wr (66 * v1)))) + 17)) + (wr (2 * i)))) + 1))) from by omega)).trans (uJ_ne (show ¬ j = (Int.toNat (wr ((wr ((wr (304 + (wr (66 * v1)))) + 17)) + (wr (2 * i))))) from by omega))).trans (cc105 j h1 h2 h3)) (show (24 - (wr (i + 1))).toNat < mz from by omega)
theorem r_run9 (hF : FS F) (hR : Rg I) {v0 v1 : Int} (hq : ∀ p : Nat, (p : Int) < I 236 0 → RRG I p) (hpr : ∀ v : Nat, v < 4 → PR8 v I) (hQ : ∀ (r : Int) (I' : pI), Rg I' → AR I' → iR r → (∀ k j, ¬ (k = 238 ∨ (k = 235 ∧ 11 ≤ j ∧ j ≤ 18) ∨ (242 ≤ k ∧ k ≤ 244) ∨ (k = 236 ∧ 304 ≤ j ∧ j < 1228 ∧ ((j - 304) % 66 = 4 ∨ 17 ≤ (j - 304) % 66)) ∨ (k = 236 ∧ 9 ≤ j ∧ j ≤ 13)) → I' k j = I k j) → ((¬ ((0 ≤ v0 ∧ v0 ≤ 3) ∧ 0 ≤ v1 ∧ v1 < I 236 0) → r = -1000001 ∧ ∀ j, I' 236 j = I 236 j) ∧ (((0 ≤ v0 ∧ v0 ≤ 3) ∧ 0 ≤ v1 ∧ v1 < I 236 0) → (I 236 (40 + 36 * (Int.toNat v0)) ≤ 0 → r = -1000002 ∧ ∀ j, I' 236 j = I 236 j) ∧ (0 < I 236 (40 + 36 * (Int.toNat v0)) → r = (rnF (ldR I (Int.toNat v1)) (pmR I (Int.toNat v1)) (fun k => I 236 (42 + 36 * (Int.toNat v0) + 2 * k)) (fun k => I 236 (43 + 36 * (Int.toNat v0) + 2 * k)) (Int.toNat (I 236 (41 + 36 * (Int.toNat v0)))) (Int.toNat (I 236 (40 + 36 * (Int.toNat v0))))) 0 2 ∧ I' 236 (304 + 66 * (Int.toNat v1) + 4) = (rnF (ldR I (Int.toNat v1)) (pmR I (Int.toNat v1)) (fun k => I 236 (42 + 36 * (Int.toNat v0) + 2 * k)) (fun k => I 236 (43 + 36 * (Int.toNat v0) + 2 * k)) (Int.toNat (I 236 (41 + 36 * (Int.toNat v0)))) (Int.toNat (I 236 (40 + 36 * (Int.toNat v0))))) 0 5 ∧ (∀ i : Nat, (i : Int) < (rnF (ldR I (Int.toNat v1)) (pmR I (Int.toNat v1)) (fun k => I 236 (42 + 36 * (Int.toNat v0) + 2 * k)) (fun k => I 236 (43 + 36 * (Int.toNat v0) + 2 * k)) (Int.toNat (I 236 (41 + 36 * (Int.toNat v0)))) (Int.toNat (I 236 (40 + 36 * (Int.toNat v0))))) 0 5 → I' 236 (304 + 66 * (Int.toNat v1) + 17 + 2 * i) = (rnF (ldR I (Int.toNat v1)) (pmR I (Int.toNat v1)) (fun k => I 236 (42 + 36 * (Int.toNat v0) + 2 * k)) (fun k => I 236 (43 + 36 * (Int.toNat v0) + 2 * k)) (Int.toNat (I 236 (41 + 36 * (Int.toNat v0)))) (Int.toNat (I 236 (40 + 36 * (Int.toNat v0))))) 2 i ∧ I' 236 (304 + 66 * (Int.toNat v1) + 18 + 2 * i) = (rnF (ldR I (Int.toNat v1)) (pmR I (Int.toNat v1)) (fun k => I 236 (42 + 36 * (Int.toNat v0) + 2 * k)) (fun k => I 236 (43 + 36 * (Int.toNat v0) + 2 * k)) (Int.toNat (I 236 (41 + 36 * (Int.toNat v0)))) (Int.toNat (I 236 (40 + 36 * (Int.toNat v0))))) 3 i) ∧ (I' 236 9 = 1 ∧ I' 236 10 = (rnF (ldR I (Int.toNat v1)) (pmR I (Int.toNat v1)) (fun k => I 236 (42 + 36 * (Int.toNat v0) + 2 * k)) (fun k => I 236 (43 + 36 * (Int.toNat v0) + 2 * k)) (Int.toNat (I 236 (41 + 36 * (Int.toNat v0)))) (Int.toNat (I 236 (40 + 36 * (Int.toNat v0))))) 0 2 ∧ I' 236 11 = (rnF (ldR I (Int.toNat v1)) (pmR I (Int.toNat v1)) (fun k => I 236 (42 + 36 * (Int.toNat v0) + 2 * k)) (fun k => I 236 (43 + 36 * (Int.toNat v0) + 2 * k)) (Int.toNat (I 236 (41 + 36 * (Int.toNat v0)))) (Int.toNat (I 236 (40 + 36 * (Int.toNat v0))))) 0 3 ∧ I' 236 12 = (rnF (ldR I (Int.toNat v1)) (pmR I (Int.toNat v1)) (fun k => I 236 (42 + 36 * (Int.toNat v0) + 2 * k)) (fun k => I 236 (43 + 36 * (Int.toNat v0) + 2 * k)) (Int.toNat (I 236 (41 + 36 * (Int.toNat v0)))) (Int.toNat (I 236 (40 + 36 * (Int.toNat v0))))) 0 0 ∧ I' 236 13 = enF (ldR I (Int.toNat v1)) (pmR I (Int.toNat v1)) (fun k => I 236 (42 + 36 * (Int.toNat v0) + 2 * k)) (fun k => I 236 (43 + 36 * (Int.toNat v0) + 2 * k)) (Int.toNat (I 236 (41 + 36 * (Int.toNat v0))))) ∧ ∀ j : Nat, ¬ (9 ≤ j ∧ j ≤ 13) → ¬ (j = 304 + 66 * (Int.toNat v1) + 4) → ¬ (304 + 66 * (Int.toNat v1) + 17 ≤ j ∧ j < 304 + 66 * (Int.toNat v1) + 66) → I' 236 j = I 236 j))) → Q (some (vi r)) F I') : CallN G (d + 7) kX12_run [vr 235, vi v0, vi v1] NP F I Q := by
  refine CallN_in (fun hok hA => CallN_out ?_)
  have iv0 : -2147483648 ≤ v0 ∧ v0 < 2147483648 := hok (vi v0) (by simp)
  have iv1 : -2147483648 ≤ v1 ∧ v1 < 2147483648 := hok (vi v1) (by simp)
  refine Call_wp (lv := [some (vr 235), some (vi v0), some (vi v1), none, none]) (by decide) ckX12_run [49] rfl rfl ?_
  refine ⟨⟨_, rfl, (by decide)⟩, ?_⟩
  refine s_X12_isProgram (fun (w1 : ((0 : Int) ≤ v0 ∧ (v0 : Int) ≤ 3)) => ?_) (fun (w1 : ¬ ((0 : Int) ≤ v0 ∧ (v0 : Int) ≤ 3)) => ?_)
  ·
    refine ⟨fun c => absurd c (show (¬ ((1 : Int) = 0)) from by decide), fun _ => ?_⟩
    refine ⟨⟨_, rfl, (by decide)⟩, ?_⟩
    have r2 : 0 ≤ (I 236 0) ∧ (I 236 0) ≤ 14 := Rg.n0 hR
    refine s_X12_is hF (w := 0) (by decide) (show 0 ≤ (I 236 0) ∧ (I 236 0) < 1000000 from by omega) (fun (w3 : (0 ≤ v1 ∧ v1 < (I 236 0))) => ?_) (fun (w3 : ¬ (0 ≤ v1 ∧ v1 < (I 236 0))) => ?_)
    ·
      refine ⟨fun _ => ?_, fun c => absurd c (show (¬ (1 : Int) = 0) from by decide)⟩
      refine ⟨⟨_, rfl, (by decide)⟩, ?_⟩
      refine Call_wp (lv := [some (vr 235), some (vi v0)]) (by decide) ckX12_hasProgram [] rfl rfl ?_
      refine ⟨_, rfl, (by decide), ?_⟩
      refine fun w0 hw0 => ?_; obtain rfl : w0 = some 236 := hw0.symm.trans (FS.g hF rfl)
      have n4 : (wr (36 * v0)) = 36 * v0 := wr_id (show -2147483648 ≤ (36 * v0 : Int) ∧ (36 * v0 : Int) < 2147483648 from by omega)
      have n5 : (wr (40 + (wr (36 * v0)))) = 40 + (wr (36 * v0)) := wr_id (show -2147483648 ≤ (40 + (wr (36 * v0)) : Int) ∧ (40 + (wr (36 * v0)) : Int) < 2147483648 from by omega)
      have n6 : (wr ((wr (40 + (wr (36 * v0)))) + 0)) = (wr (40 + (wr (36 * v0)))) + 0 := wr_id (show -2147483648 ≤ ((wr (40 + (wr (36 * v0)))) + 0 : Int) ∧ ((wr (40 + (wr (36 * v0)))) + 0 : Int) < 2147483648 from by omega)
      refine ⟨_, rfl, (by decide), (show (0 : Int) ≤ (wr ((wr (40 + (wr (36 * v0)))) + 0)) from by first | with_reducible assumption | omega | (simp only [wr, wl] at *; omega)), (show (wr ((wr (40 + (wr (36 * v0)))) + 0)) < (1340 : Int) from by first | with_reducible assumption | omega | (simp only [wr, wl] at *; omega)), ?_⟩
      have z7 : (I 236 (Int.toNat (wr ((wr (40 + (wr (36 * v0)))) + 0)))) = (I 236 (40 + 36 * Int.toNat v0)) := congrArg (I 236) (by omega)
      have r8 : 0 ≤ (I 236 (Int.toNat (wr ((wr (40 + (wr (36 * v0)))) + 0)))) ∧ (I 236 (Int.toNat (wr ((wr (40 + (wr (36 * v0)))) + 0)))) ≤ 17 := Pn_g0 (p := (Int.toNat v0)) (by omega) (by omega) (hR.n (Int.toNat (wr ((wr (40 + (wr (36 * v0)))) + 0))) (by omega))
      refine ⟨fun (c10 : (((I 236 (Int.toNat (wr ((wr (40 + (wr (36 * v0)))) + 0)))) : Int) ≤ 0)) => ?_, fun (c10 : (¬ (((I 236 (Int.toNat (wr ((wr (40 + (wr (36 * v0)))) + 0)))) : Int) ≤ 0))) => ?_⟩
      ·
        refine ⟨rfl, (by decide), ?_⟩
        refine ⟨fun c => absurd (show ((0 : Int) = 0) from by decide) c, fun _ => ?_⟩
        refine ⟨⟨_, rfl, (by decide)⟩, ?_⟩
        refine s_X12_finding hF (v := (-1000002)) (by decide) ?_
        exact ⟨rfl, fun hv hA' => hQ _ _ (Rg.u hR (Pr_f rfl)) hA' (hv _ rfl) (fun ka ja hk => (uI_o (show ¬ (ka = 238 ∧ ja = 2) from by first | (intro e; obtain ⟨rfl, rfl⟩ := e; exact hk (by decide)) | omega))) (⟨fun z => absurd (by omega) z, fun z => ⟨fun y => ⟨rfl, fun j => uI_o (show ¬ (236 = 238 ∧ j = 2) from fun e => absurd e.1 (Nat.ne_of_beq_eq_false rfl))⟩, fun y => absurd y (by omega)⟩⟩)⟩
      ·
        refine ⟨rfl, (by decide), ?_⟩
        refine ⟨fun _ => ?_, fun c => absurd c (show (¬ (1 : Int) = 0) from by decide)⟩
        refine ⟨⟨_, rfl, (by decide)⟩, ?_⟩
        refine r_go9 (v0 := v0) (v1 := v1) hF hR (pp := Int.toNat v1) (RR8_of (by omega) (hq (Int.toNat v1) (by omega))) (hpr (Int.toNat v0) (by omega)) (by omega) (by omega) (fun vr11 I12 hR13 hA14 hr16 hW15 qr17 => ?_)
        have hr16 : -2147483648 ≤ vr11 ∧ vr11 < 2147483648 := hr16
        refine r_run9_l hF hR (by omega) (RR := rnF (ldR I (Int.toNat v1)) (pmR I (Int.toNat v1)) (fun k => I 236 (42 + 36 * (Int.toNat v0) + 2 * k)) (fun k => I 236 (43 + 36 * (Int.toNat v0) + 2 * k)) (Int.toNat (I 236 (41 + 36 * (Int.toNat v0)))) (Int.toNat (I 236 (40 + 36 * (Int.toNat v0))))) (EE := enF (ldR I (Int.toNat v1)) (pmR I (Int.toNat v1)) (fun k => I 236 (42 + 36 * (Int.toNat v0) + 2 * k)) (fun k => I 236 (43 + 36 * (Int.toNat v0) + 2 * k)) (Int.toNat (I 236 (41 + 36 * (Int.toNat v0))))) WS_r (fun r I' g1 g2 g3 hv hA' => hQ _ _ g1 hA' (hv _ rfl) g2 ⟨fun z => absurd (by omega) z, fun _ => ⟨fun y => absurd y (by omega), fun _ => g3⟩⟩) _ vr11 0 I12 hR13 (fun ka ja hk => (hW15 ka ja (by omega))) (show (0 : Int) ≤ (0 : Int) from Int.le_refl _) (show ((0 : Int) : Int) ≤ 24 from by first | with_reducible assumption | omega | (simp only [wr, wl] at *; omega)) (qr17.2) (MR_f qr17.1 (fun j h1 h2 => rfl) (fun j => rfl) (fun j => rfl) (fun j => rfl)) (fun j hj => absurd hj (by omega)) (fun j h1 h2 h3 => hW15 236 (j) (by omega)) (Nat.lt_succ_self _)
    ·
      refine ⟨fun c => absurd (show ((0 : Int) = 0) from by decide) c, fun _ => ?_⟩
      refine ⟨⟨_, rfl, (by decide)⟩, ?_⟩
      refine s_X12_finding hF (v := (-1000001)) (by decide) ?_
      exact ⟨rfl, fun hv hA' => hQ _ _ (Rg.u hR (Pr_f rfl)) hA' (hv _ rfl) (fun ka ja hk => (uI_o (show ¬ (ka = 238 ∧ ja = 1) from by first | (intro e; obtain ⟨rfl, rfl⟩ := e; exact hk (by decide)) | omega))) (⟨fun z => ⟨rfl, fun j => uI_o (show ¬ (236 = 238 ∧ j = 1) from fun e => absurd e.1 (Nat.ne_of_beq_eq_false rfl))⟩, fun z => absurd z (by omega)⟩)⟩
  ·
    refine ⟨fun _ => ?_, fun c => absurd (show ((0 : Int) = 0) from by decide) c⟩
    refine ⟨⟨_, rfl, (by decide)⟩, ?_⟩
    refine s_X12_finding hF (v := (-1000001)) (by decide) ?_
    exact ⟨rfl, fun hv hA' => hQ _ _ (Rg.u hR (Pr_f rfl)) hA' (hv _ rfl) (fun ka ja hk => (uI_o (show ¬ (ka = 238 ∧ ja = 1) from by first | (intro e; obtain ⟨rfl, rfl⟩ := e; exact hk (by decide)) | omega))) (⟨fun z => ⟨rfl, fun j => uI_o (show ¬ (236 = 238 ∧ j = 1) from fun e => absurd e.1 (Nat.ne_of_beq_eq_false rfl))⟩, fun z => absurd z (by omega)⟩)⟩
end RR10
