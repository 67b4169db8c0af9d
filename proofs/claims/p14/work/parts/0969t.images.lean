/-! images and restore copy pieces and programs. Own work (scripts laid by wip/pm/gen34.py). -/
section IM9
variable {G : pG} {d : Nat} {F : pF} {I : pI} {Q : Option pV → pF → pI → Prop}
theorem GCP_f {a b : Nat} {J I J' I' : pI} (h : GCP a b J I) (h1 : ∀ k j, a ≤ k → k ≤ a + 2 → J' k j = J k j) (h2 : ∀ k j, b ≤ k → k ≤ b + 2 → I' k j = I k j) : GCP a b J' I' := by
  obtain ⟨⟨e0, e3, e4⟩, f1, f2⟩ := h
  refine ⟨⟨?_, ?_, ?_⟩, fun j hj => ?_, fun j hj => ?_⟩
  · rw [h1 _ _ (by first | decide | omega) (by omega), h2 _ _ (by first | decide | omega) (by omega)]; exact e0
  · rw [h1 _ _ (by first | decide | omega) (by omega), h2 _ _ (by first | decide | omega) (by omega)]; exact e3
  · rw [h1 _ _ (by first | decide | omega) (by omega), h2 _ _ (by first | decide | omega) (by omega)]; exact e4
  · rw [h1 _ _ (by first | decide | omega) (by omega), h2 _ _ (by first | decide | omega) (by omega)]; exact f1 j hj
  · rw [h1 _ _ (by first | decide | omega) (by omega), h2 _ _ (by first | decide | omega) (by omega)]; exact f2 j hj
theorem c_scopy9_102_b (hF : FS F) (hR : Rg I)  (hK : ∀ (J : pI), Rg J → (∀ k j, ¬ ((191 ≤ k ∧ k < 203)) → J k j = I k j) → (∀ p : Nat, p < 4 → GCP (102 + 89 + 3 * p) (1 + 89 + 3 * p) J I) → GoN G (d + 2) kX8_copyFrom NP NP 65 [some (vr 102), some (vr 1), none] [] F J Q) : ∀ (mz : Nat) (i : Int) (J : pI), Rg J → (∀ k j, ¬ ((191 ≤ k ∧ k < 203)) → J k j = I k j) → ((0 : Int) ≤ i) → ((i : Int) ≤ 4) → (∀ p : Nat, (p : Int) < i → GCP (102 + 89 + 3 * p) (1 + 89 + 3 * p) J I) → (4 - i).toNat < mz → GoN G (d + 2) kX8_copyFrom NP NP 39 [some (vr 102), some (vr 1), some (vi i)] [] F J Q := by
  intro mz
  induction mz with
  | zero => intro i J hJ hV _ _ _ h; exact absurd h (Nat.not_lt_zero _)
  | succ mz ih =>
    intro i J hJ hV cc100 cc101 cc102 hm
    refine GoN_in (fun hok hA => ?_)
    have iii : -2147483648 ≤ i ∧ i < 2147483648 := hok 2 _ rfl
    refine Go_wp (by decide) ckX8_copyFrom [39, 65] ?_
    refine ⟨fun (c1 : ((4 : Int) ≤ i)) => ?_, fun (c1 : (¬ ((4 : Int) ≤ i))) => ?_⟩
    ·
      refine GoN_lv (lv' := [some (vr 102), some (vr 1), none]) (LvLe.k (LvLe.k (LvLe.d LvLe.n))) ?_
      exact hK J hJ (fun ka ja hk => (hV ka ja (by omega))) (fun p hp => cc102 p (by omega))
    ·
      refine ⟨_, rfl, (by decide), ?_⟩
      refine fun w0 hw0 => ?_; obtain rfl : w0 = some 104 := hw0.symm.trans (FS.g hF rfl)
      refine ⟨_, _, (by decide), rfl, (by decide), (show (0 : Int) ≤ i from by first | with_reducible assumption | omega | (simp only [wr, wl] at *; omega)), (show i < (4 : Int) from by first | with_reducible assumption | omega | (simp only [wr, wl] at *; omega)), ?_⟩
      refine fun w0 hw0 => ?_; obtain rfl : w0 = some (102 + 89 + 3 * Int.toNat i) := hw0.symm.trans (FS_pg hF (S := 102) (i := Int.toNat i) (Or.inr rfl) (by omega))
      refine ⟨_, rfl, (by decide), ?_⟩
      refine fun w0 hw0 => ?_; obtain rfl : w0 = some 3 := hw0.symm.trans (FS.g hF rfl)
      refine ⟨_, _, (by decide), rfl, (by decide), (show (0 : Int) ≤ i from by first | with_reducible assumption | omega | (simp only [wr, wl] at *; omega)), (show i < (4 : Int) from by first | with_reducible assumption | omega | (simp only [wr, wl] at *; omega)), ?_⟩
      refine fun w0 hw0 => ?_; obtain rfl : w0 = some (1 + 89 + 3 * Int.toNat i) := hw0.symm.trans (FS_pg hF (S := 1) (i := Int.toNat i) (Or.inl rfl) (by omega))
      refine ⟨⟨_, (GP_of2 (v := i) hF (by omega)).1.1, (by have := (GP_of2 (v := i) hF (by omega)).2; show _ < 254; omega)⟩, ?_⟩
      refine c_gcopy9  hF hJ (GP_of2 (v := i) hF (by omega)) (GP_of (v := i) hF (by omega)) (by omega) (fun I2 hR3 hA4 hW5 qr6 => ?_)
      have n7 : (wr (i + 1)) = i + 1 := wr_id (show -2147483648 ≤ (i + 1 : Int) ∧ (i + 1 : Int) < 2147483648 from by omega)
      exact ih (wr (i + 1)) I2 hR3 (fun ka ja hk => ((hW5 ka ja (by omega))).trans ((hV ka ja (by omega)))) (show (0 : Int) ≤ (wr (i + 1)) from by first | with_reducible assumption | omega | (simp only [wr, wl] at *; omega)) (show ((wr (i + 1)) : Int) ≤ 4 from by first | with_reducible assumption | omega | (simp only [wr, wl] at *; omega)) (fun p hp => if e : p = Int.toNat i then (by subst e; exact GCP_f (show GCP (102 + 89 + 3 * Int.toNat i) (1 + 89 + 3 * Int.toNat i) I2 J from qr6) (fun _ _ _ _ => rfl) (fun k j _ _ => (hV k j (by omega)).symm)) else GCP_f (cc102 p (by omega)) (fun k j _ _ => hW5 k j (by omega)) (fun _ _ _ _ => rfl)) (show (4 - (wr (i + 1))).toNat < mz from by omega)
theorem c_scopy9_102 (hF : FS F) (hR : Rg I)  (hQ : ∀ (I' : pI), Rg I' → AR I' → (∀ k j, ¬ ((102 ≤ k ∧ k < 203)) → I' k j = I k j) → ((I' 102 1) = (I 1 1)) → ((I' 102 5) = (I 1 5)) → ((I' 102 7) = (I 1 7)) → ((I' 102 11) = (I 1 11)) → ((I' 113 6) = (I 12 6)) → (CP 102 1 I' I) → (∀ p : Nat, p < 14 → PCP (102 + 19 + 5 * p) (1 + 19 + 5 * p) I' I) → (∀ p : Nat, p < 4 → GCP (102 + 89 + 3 * p) (1 + 89 + 3 * p) I' I) → Q none F I') : CallN G (d + 3) kX8_copyFrom [vr 102, vr 1] NP F I Q := by
  refine CallN_in (fun hok hA => CallN_out ?_)
  refine Call_wp (lv := [some (vr 102), some (vr 1), none]) (by decide) ckX8_copyFrom [10, 39] rfl rfl ?_
  refine ⟨_, rfl, (by decide), ?_⟩
  refine ⟨_, rfl, (by decide), ?_⟩
  refine c_scopy6_102_a hF (Rg.u hR (Pr_f rfl))  (fun J1 hR2 hV4 hP5 => ?_) _ 0 (uI I 102 1 (I 1 1)) (Rg.u hR (Pr_f rfl)) (fun _ _ _ => rfl) (show (0 : Int) ≤ (0 : Int) from Int.le_refl _) (show ((0 : Int) : Int) ≤ 14 from by first | with_reducible assumption | omega | (simp only [wr, wl] at *; omega)) (fun p hp => absurd hp (by omega)) (Nat.lt_succ_self _)
  refine GoN_in (fun hok6 hA3 => ?_)
  refine Go_wp (by decide) ckX8_copyFrom [10, 39] ?_
  refine c_scopy9_102_b hF hR2  (fun J7 hR8 hV10 hP11 => ?_) _ 0 J1 hR2 (fun _ _ _ => rfl) (show (0 : Int) ≤ (0 : Int) from Int.le_refl _) (show ((0 : Int) : Int) ≤ 4 from by first | with_reducible assumption | omega | (simp only [wr, wl] at *; omega)) (fun p hp => absurd hp (by omega)) (Nat.lt_succ_self _)
  refine GoN_in (fun hok12 hA9 => ?_)
  refine Go_wp (by decide) ckX8_copyFrom [10, 39] ?_
  refine ⟨_, rfl, (by decide), ?_⟩
  refine fun w0 hw0 => ?_; obtain rfl : w0 = some 4 := hw0.symm.trans (FS.g hF rfl)
  refine ⟨_, rfl, (by decide), ?_⟩
  refine fun w0 hw0 => ?_; obtain rfl : w0 = some 105 := hw0.symm.trans (FS.g hF rfl)
  refine ⟨_, _, _, (by decide), rfl, rfl, (by decide), (by decide), (by decide), (by decide), (by decide), (by decide), (by decide), (by decide), (by omega), ?_⟩
  refine ⟨_, rfl, (by decide), ?_⟩
  refine fun w0 hw0 => ?_; obtain rfl : w0 = some 5 := hw0.symm.trans (FS.g hF rfl)
  refine ⟨_, rfl, (by decide), ?_⟩
  refine fun w0 hw0 => ?_; obtain rfl : w0 = some 106 := hw0.symm.trans (FS.g hF rfl)
  refine ⟨_, _, _, (by decide), rfl, rfl, (by decide), (by decide), (by decide), (by decide), (by decide), (by decide), (by decide), (by decide), (by omega), ?_⟩
  refine ⟨_, rfl, (by decide), ?_⟩
  have u13 : (J1 1 5) = ((uI I 102 1 (I 1 1)) 1 5) := hV4 _ _ (by first | decide | omega)
  have u14 : ((uI I 102 1 (I 1 1)) 1 5) = (I 1 5) := rfl
  have a15 : -2147483648 ≤ (I 1 5) ∧ (I 1 5) < 2147483648 := hA.1 _ _
  have a16 : -2147483648 ≤ (J1 1 5) ∧ (J1 1 5) < 2147483648 := hA3.1 _ _
  have u17 : (J7 1 5) = (J1 1 5) := hV10 _ _ (by first | decide | omega)
  have a18 : -2147483648 ≤ (J7 1 5) ∧ (J7 1 5) < 2147483648 := hA9.1 _ _
  refine ⟨_, rfl, (by decide), ?_⟩
  refine ⟨_, rfl, (by decide), ?_⟩
  refine fun w0 hw0 => ?_; obtain rfl : w0 = some 6 := hw0.symm.trans (FS.g hF rfl)
  refine ⟨_, rfl, (by decide), ?_⟩
  refine fun w0 hw0 => ?_; obtain rfl : w0 = some 107 := hw0.symm.trans (FS.g hF rfl)
  refine ⟨_, _, _, (by decide), rfl, rfl, (by decide), (by decide), (by decide), (by decide), (by decide), (by decide), (by decide), (by decide), (by omega), ?_⟩
  refine ⟨_, rfl, (by decide), ?_⟩
  have r19 : 0 ≤ (I 1 7) ∧ (I 1 7) ≤ 1 := hR.b (c := 8) (m := 12) rfl (by decide) ⟨by decide, by decide⟩
  have u20 : (J1 1 7) = ((uI I 102 1 (I 1 1)) 1 7) := hV4 _ _ (by first | decide | omega)
  have u21 : ((uI I 102 1 (I 1 1)) 1 7) = (I 1 7) := rfl
  have a23 : -2147483648 ≤ (J1 1 7) ∧ (J1 1 7) < 2147483648 := hA3.1 _ _
  have r24 : 0 ≤ (J1 1 7) ∧ (J1 1 7) ≤ 1 := hR2.b (c := 8) (m := 12) rfl (by decide) ⟨by decide, by decide⟩
  have u25 : (J7 1 7) = (J1 1 7) := hV10 _ _ (by first | decide | omega)
  have a26 : -2147483648 ≤ (J7 1 7) ∧ (J7 1 7) < 2147483648 := hA9.1 _ _
  have r27 : 0 ≤ (J7 1 7) ∧ (J7 1 7) ≤ 1 := hR8.b (c := 8) (m := 12) rfl (by decide) ⟨by decide, by decide⟩
  refine ⟨_, rfl, (by decide), (show ((J7 1 7) : Int) = 0 ∨ ((J7 1 7) : Int) = 1 from by omega), ?_⟩
  have p28 : ((J7 1 7) : Int) = 0 ∨ ((J7 1 7) : Int) = 1 := by omega
  refine ⟨_, rfl, (by decide), ?_⟩
  refine fun w0 hw0 => ?_; obtain rfl : w0 = some 108 := hw0.symm.trans (FS.g hF rfl)
  refine ⟨_, rfl, (by decide), ?_⟩
  refine fun w0 hw0 => ?_; obtain rfl : w0 = some 7 := hw0.symm.trans (FS.g hF rfl)
  refine ⟨⟨_, rfl, (by decide)⟩, ?_⟩
  refine Call_wp (lv := [some (vr 108), some (vr 7)]) (by decide) ckX2_copyFrom [] rfl rfl ?_
  refine ⟨_, rfl, (by decide), ?_⟩
  refine fun w0 hw0 => ?_; obtain rfl : w0 = some 8 := hw0.symm.trans (FS.g hF rfl)
  refine ⟨_, rfl, (by decide), ?_⟩
  refine fun w0 hw0 => ?_; obtain rfl : w0 = some 109 := hw0.symm.trans (FS.g hF rfl)
  refine ⟨_, _, _, (by decide), rfl, rfl, (by decide), (by decide), (by decide), (by decide), (by decide), (by decide), (by decide), (by decide), (by omega), ?_⟩
  refine ⟨_, rfl, (by decide), ?_⟩
  refine fun w0 hw0 => ?_; obtain rfl : w0 = some 9 := hw0.symm.trans (FS.g hF rfl)
  refine ⟨_, rfl, (by decide), ?_⟩
  refine fun w0 hw0 => ?_; obtain rfl : w0 = some 110 := hw0.symm.trans (FS.g hF rfl)
  refine ⟨_, _, _, (by decide), rfl, rfl, (by decide), (by decide), (by decide), (by decide), (by decide), (by decide), (by decide), (by decide), (by omega), ?_⟩
  refine ⟨_, rfl, (by decide), ?_⟩
  refine fun w0 hw0 => ?_; obtain rfl : w0 = some 10 := hw0.symm.trans (FS.g hF rfl)
  refine ⟨_, rfl, (by decide), ?_⟩
  refine fun w0 hw0 => ?_; obtain rfl : w0 = some 111 := hw0.symm.trans (FS.g hF rfl)
  refine ⟨_, _, _, (by decide), rfl, rfl, (by decide), (by decide), (by decide), (by decide), (by decide), (by decide), (by decide), (by decide), (by omega), ?_⟩
  refine ⟨_, rfl, (by decide), ?_⟩
  refine fun w0 hw0 => ?_; obtain rfl : w0 = some 11 := hw0.symm.trans (FS.g hF rfl)
  refine ⟨_, rfl, (by decide), ?_⟩
  refine fun w0 hw0 => ?_; obtain rfl : w0 = some 112 := hw0.symm.trans (FS.g hF rfl)
  refine ⟨_, _, _, (by decide), rfl, rfl, (by decide), (by decide), (by decide), (by decide), (by decide), (by decide), (by decide), (by decide), (by omega), ?_⟩
  refine ⟨rfl, ?_⟩
  refine ⟨_, rfl, (by decide), ?_⟩
  refine fun w0 hw0 => ?_; obtain rfl : w0 = some 113 := hw0.symm.trans (FS.g hF rfl)
  refine ⟨_, rfl, (by decide), ?_⟩
  refine fun w0 hw0 => ?_; obtain rfl : w0 = some 12 := hw0.symm.trans (FS.g hF rfl)
  refine ⟨⟨_, rfl, (by decide)⟩, ?_⟩
  refine Call_wp (lv := [some (vr 113), some (vr 12)]) (by decide) ckX0_copyFrom [] rfl rfl ?_
  refine ⟨_, rfl, (by decide), ?_⟩
  refine fun w0 hw0 => ?_; obtain rfl : w0 = some 13 := hw0.symm.trans (FS.g hF rfl)
  refine ⟨_, rfl, (by decide), ?_⟩
  refine fun w0 hw0 => ?_; obtain rfl : w0 = some 114 := hw0.symm.trans (FS.g hF rfl)
  refine ⟨_, _, _, (by decide), rfl, rfl, (by decide), (by decide), (by decide), (by decide), (by decide), (by decide), (by decide), (by decide), (by omega), ?_⟩
  refine ⟨_, rfl, (by decide), ?_⟩
  refine fun w0 hw0 => ?_; obtain rfl : w0 = some 14 := hw0.symm.trans (FS.g hF rfl)
  refine ⟨_, rfl, (by decide), ?_⟩
  refine fun w0 hw0 => ?_; obtain rfl : w0 = some 115 := hw0.symm.trans (FS.g hF rfl)
  refine ⟨_, _, _, (by decide), rfl, rfl, (by decide), (by decide), (by decide), (by decide), (by decide), (by decide), (by decide), (by decide), (by omega), ?_⟩
  refine ⟨_, rfl, (by decide), ?_⟩
  refine fun w0 hw0 => ?_; obtain rfl : w0 = some 15 := hw0.symm.trans (FS.g hF rfl)
  refine ⟨_, rfl, (by decide), ?_⟩
  refine fun w0 hw0 => ?_; obtain rfl : w0 = some 116 := hw0.symm.trans (FS.g hF rfl)
  refine ⟨_, _, _, (by decide), rfl, rfl, (by decide), (by decide), (by decide), (by decide), (by decide), (by decide), (by decide), (by decide), (by omega), ?_⟩
  refine ⟨_, rfl, (by decide), ?_⟩
  refine fun w0 hw0 => ?_; obtain rfl : w0 = some 16 := hw0.symm.trans (FS.g hF rfl)
  refine ⟨_, rfl, (by decide), ?_⟩
  refine fun w0 hw0 => ?_; obtain rfl : w0 = some 117 := hw0.symm.trans (FS.g hF rfl)
  refine ⟨_, _, _, (by decide), rfl, rfl, (by decide), (by decide), (by decide), (by decide), (by decide), (by decide), (by decide), (by decide), (by omega), ?_⟩
  refine ⟨_, rfl, (by decide), ?_⟩
  refine fun w0 hw0 => ?_; obtain rfl : w0 = some 17 := hw0.symm.trans (FS.g hF rfl)
  refine ⟨_, rfl, (by decide), ?_⟩
  refine fun w0 hw0 => ?_; obtain rfl : w0 = some 118 := hw0.symm.trans (FS.g hF rfl)
  refine ⟨_, _, _, (by decide), rfl, rfl, (by decide), (by decide), (by decide), (by decide), (by decide), (by decide), (by decide), (by decide), (by omega), ?_⟩
  refine ⟨_, rfl, (by decide), ?_⟩
  refine fun w0 hw0 => ?_; obtain rfl : w0 = some 18 := hw0.symm.trans (FS.g hF rfl)
  refine ⟨_, rfl, (by decide), ?_⟩
  refine fun w0 hw0 => ?_; obtain rfl : w0 = some 119 := hw0.symm.trans (FS.g hF rfl)
  refine ⟨_, _, _, (by decide), rfl, rfl, (by decide), (by decide), (by decide), (by decide), (by decide), (by decide), (by decide), (by decide), (by omega), ?_⟩
  refine ⟨_, rfl, (by decide), ?_⟩
  have u29 : (J1 12 6) = ((uI I 102 1 (I 1 1)) 12 6) := hV4 _ _ (by first | decide | omega)
  have u30 : ((uI I 102 1 (I 1 1)) 12 6) = (I 12 6) := rfl
  have a31 : -2147483648 ≤ (I 12 6) ∧ (I 12 6) < 2147483648 := hA.1 _ _
  have a32 : -2147483648 ≤ (J1 12 6) ∧ (J1 12 6) < 2147483648 := hA3.1 _ _
  have u33 : (J7 12 6) = (J1 12 6) := hV10 _ _ (by first | decide | omega)
  have a34 : -2147483648 ≤ (J7 12 6) ∧ (J7 12 6) < 2147483648 := hA9.1 _ _
  refine ⟨_, rfl, (by decide), ?_⟩
  refine ⟨rfl, ?_⟩
  refine ⟨_, rfl, (by decide), ?_⟩
  refine fun w0 hw0 => ?_; obtain rfl : w0 = some 19 := hw0.symm.trans (FS.g hF rfl)
  refine ⟨_, rfl, (by decide), ?_⟩
  refine fun w0 hw0 => ?_; obtain rfl : w0 = some 120 := hw0.symm.trans (FS.g hF rfl)
  refine ⟨_, _, _, (by decide), rfl, rfl, (by decide), (by decide), (by decide), (by decide), (by decide), (by decide), (by decide), (by decide), (by omega), ?_⟩
  refine ⟨_, rfl, (by decide), ?_⟩
  have u35 : (J1 1 11) = ((uI I 102 1 (I 1 1)) 1 11) := hV4 _ _ (by first | decide | omega)
  have u36 : ((uI I 102 1 (I 1 1)) 1 11) = (I 1 11) := rfl
  have a37 : -2147483648 ≤ (I 1 11) ∧ (I 1 11) < 2147483648 := hA.1 _ _
  have a38 : -2147483648 ≤ (J1 1 11) ∧ (J1 1 11) < 2147483648 := hA3.1 _ _
  have u39 : (J7 1 11) = (J1 1 11) := hV10 _ _ (by first | decide | omega)
  have a40 : -2147483648 ≤ (J7 1 11) ∧ (J7 1 11) < 2147483648 := hA9.1 _ _
  refine ⟨_, rfl, (by decide), ?_⟩
  have u41 : (J1 102 1) = ((uI I 102 1 (I 1 1)) 102 1) := hV4 _ _ (by first | decide | omega)
  have u42 : ((uI I 102 1 (I 1 1)) 102 1) = (I 1 1) := rfl
  have a43 : -2147483648 ≤ (I 1 1) ∧ (I 1 1) < 2147483648 := hA.1 _ _
  have a44 : -2147483648 ≤ (J1 102 1) ∧ (J1 102 1) < 2147483648 := hA3.1 _ _
  have u45 : (J7 102 1) = (J1 102 1) := hV10 _ _ (by first | decide | omega)
  have a46 : -2147483648 ≤ (J7 102 1) ∧ (J7 102 1) < 2147483648 := hA9.1 _ _
  exact ⟨rfl, fun hv hA' => hQ _ (Rg.u (Rg.c (Rg.u (Rg.c (Rg.c (Rg.c (Rg.c (Rg.c (Rg.c (Rg.c (Rg.c (Rg.c (Rg.c (Rg.u (Rg.c (Rg.u (Rg.c (Rg.c hR8 (Pr_p (k := 105) rfl)) (Pr_p (k := 106) rfl)) (Pr_f rfl)) (Pr_p (k := 107) rfl)) (Pr_b (by decide) p28)) (Pr_p (k := 109) rfl)) (Pr_p (k := 110) rfl)) (Pr_p (k := 111) rfl)) (Pr_p (k := 112) rfl)) (Pr_p (k := 114) rfl)) (Pr_p (k := 115) rfl)) (Pr_p (k := 116) rfl)) (Pr_p (k := 117) rfl)) (Pr_p (k := 118) rfl)) (Pr_p (k := 119) rfl)) (Pr_f rfl)) (Pr_p (k := 120) rfl)) (Pr_f rfl)) hA' (fun ka ja hk => ((uI_o (show ¬ (ka = 102 ∧ ja = 11) from by first | (intro e; obtain ⟨rfl, rfl⟩ := e; exact hk (by decide)) | omega))).trans (((cI_o (show ¬ ka = 120 from by omega))).trans (((uI_o (show ¬ (ka = 113 ∧ ja = 6) from by first | (intro e; obtain ⟨rfl, rfl⟩ := e; exact hk (by decide)) | omega))).trans (((cI_o (show ¬ ka = 119 from by omega))).trans (((cI_o (show ¬ ka = 118 from by omega))).trans (((cI_o (show ¬ ka = 117 from by omega))).trans (((cI_o (show ¬ ka = 116 from by omega))).trans (((cI_o (show ¬ ka = 115 from by omega))).trans (((cI_o (show ¬ ka = 114 from by omega))).trans (((cI_o (show ¬ ka = 112 from by omega))).trans (((cI_o (show ¬ ka = 111 from by omega))).trans (((cI_o (show ¬ ka = 110 from by omega))).trans (((cI_o (show ¬ ka = 109 from by omega))).trans (((uI_o (show ¬ (ka = 102 ∧ ja = 7) from by first | (intro e; obtain ⟨rfl, rfl⟩ := e; exact hk (by decide)) | omega))).trans (((cI_o (show ¬ ka = 107 from by omega))).trans (((uI_o (show ¬ (ka = 102 ∧ ja = 5) from by first | (intro e; obtain ⟨rfl, rfl⟩ := e; exact hk (by decide)) | omega))).trans (((cI_o (show ¬ ka = 106 from by omega))).trans (((cI_o (show ¬ ka = 105 from by omega))).trans (((hV10 ka ja (by omega))).trans (((hV4 ka ja (by omega))).trans ((uI_o (show ¬ (ka = 102 ∧ ja = 1) from by first | (intro e; obtain ⟨rfl, rfl⟩ := e; exact hk (by decide)) | omega))))))))))))))))))))))) (show (J7 102 1) = (I 1 1) from by first | omega | (simp only [wr, wl] at *; omega)) (show (J7 1 5) = (I 1 5) from by first | omega | (simp only [wr, wl] at *; omega)) (show (J7 1 7) = (I 1 7) from by first | omega | (simp only [wr, wl] at *; omega)) (show (J7 1 11) = (I 1 11) from by first | omega | (simp only [wr, wl] at *; omega)) (show (J7 12 6) = (I 12 6) from by first | omega | (simp only [wr, wl] at *; omega)) (⟨fun j hj => (uI_o (show ¬ (105 = 102 ∧ j = 11) from fun e => absurd e.1 (by decide))).trans ((cI_o (show ¬ 105 = 120 from by decide)).trans ((uI_o (show ¬ (105 = 113 ∧ j = 6) from fun e => absurd e.1 (by decide))).trans ((cI_o (show ¬ 105 = 119 from by decide)).trans ((cI_o (show ¬ 105 = 118 from by decide)).trans ((cI_o (show ¬ 105 = 117 from by decide)).trans ((cI_o (show ¬ 105 = 116 from by decide)).trans ((cI_o (show ¬ 105 = 115 from by decide)).trans ((cI_o (show ¬ 105 = 114 from by decide)).trans ((cI_o (show ¬ 105 = 112 from by decide)).trans ((cI_o (show ¬ 105 = 111 from by decide)).trans ((cI_o (show ¬ 105 = 110 from by decide)).trans ((cI_o (show ¬ 105 = 109 from by decide)).trans ((uI_o (show ¬ (105 = 102 ∧ j = 7) from fun e => absurd e.1 (by decide))).trans ((cI_o (show ¬ 105 = 107 from by decide)).trans ((uI_o (show ¬ (105 = 102 ∧ j = 5) from fun e => absurd e.1 (by decide))).trans ((cI_o (show ¬ 105 = 106 from by decide)).trans ((cI_hit hj).trans ((hV10 4 j (by omega)).trans ((hV4 4 j (by omega)).trans (uI_o (show ¬ (4 = 102 ∧ j = 1) from fun e => absurd e.1 (by decide)))))))))))))))))))))), fun j hj => (uI_o (show ¬ (106 = 102 ∧ j = 11) from fun e => absurd e.1 (by decide))).trans ((cI_o (show ¬ 106 = 120 from by decide)).trans ((uI_o (show ¬ (106 = 113 ∧ j = 6) from fun e => absurd e.1 (by decide))).trans ((cI_o (show ¬ 106 = 119 from by decide)).trans ((cI_o (show ¬ 106 = 118 from by decide)).trans ((cI_o (show ¬ 106 = 117 from by decide)).trans ((cI_o (show ¬ 106 = 116 from by decide)).trans ((cI_o (show ¬ 106 = 115 from by decide)).trans ((cI_o (show ¬ 106 = 114 from by decide)).trans ((cI_o (show ¬ 106 = 112 from by decide)).trans ((cI_o (show ¬ 106 = 111 from by decide)).trans ((cI_o (show ¬ 106 = 110 from by decide)).trans ((cI_o (show ¬ 106 = 109 from by decide)).trans ((uI_o (show ¬ (106 = 102 ∧ j = 7) from fun e => absurd e.1 (by decide))).trans ((cI_o (show ¬ 106 = 107 from by decide)).trans ((uI_o (show ¬ (106 = 102 ∧ j = 5) from fun e => absurd e.1 (by decide))).trans ((cI_hit hj).trans ((cI_o (show ¬ 5 = 105 from by decide)).trans ((hV10 5 j (by omega)).trans ((hV4 5 j (by omega)).trans (uI_o (show ¬ (5 = 102 ∧ j = 1) from fun e => absurd e.1 (by decide)))))))))))))))))))))), fun j hj => (uI_o (show ¬ (107 = 102 ∧ j = 11) from fun e => absurd e.1 (by decide))).trans ((cI_o (show ¬ 107 = 120 from by decide)).trans ((uI_o (show ¬ (107 = 113 ∧ j = 6) from fun e => absurd e.1 (by decide))).trans ((cI_o (show ¬ 107 = 119 from by decide)).trans ((cI_o (show ¬ 107 = 118 from by decide)).trans ((cI_o (show ¬ 107 = 117 from by decide)).trans ((cI_o (show ¬ 107 = 116 from by decide)).trans ((cI_o (show ¬ 107 = 115 from by decide)).trans ((cI_o (show ¬ 107 = 114 from by decide)).trans ((cI_o (show ¬ 107 = 112 from by decide)).trans ((cI_o (show ¬ 107 = 111 from by decide)).trans ((cI_o (show ¬ 107 = 110 from by decide)).trans ((cI_o (show ¬ 107 = 109 from by decide)).trans ((uI_o (show ¬ (107 = 102 ∧ j = 7) from fun e => absurd e.1 (by decide))).trans ((cI_hit hj).trans ((uI_o (show ¬ (6 = 102 ∧ j = 5) from fun e => absurd e.1 (by decide))).trans ((cI_o (show ¬ 6 = 106 from by decide)).trans ((cI_o (show ¬ 6 = 105 from by decide)).trans ((hV10 6 j (by omega)).trans ((hV4 6 j (by omega)).trans (uI_o (show ¬ (6 = 102 ∧ j = 1) from fun e => absurd e.1 (by decide)))))))))))))))))))))), fun j hj => (uI_o (show ¬ (109 = 102 ∧ j = 11) from fun e => absurd e.1 (by decide))).trans ((cI_o (show ¬ 109 = 120 from by decide)).trans ((uI_o (show ¬ (109 = 113 ∧ j = 6) from fun e => absurd e.1 (by decide))).trans ((cI_o (show ¬ 109 = 119 from by decide)).trans ((cI_o (show ¬ 109 = 118 from by decide)).trans ((cI_o (show ¬ 109 = 117 from by decide)).trans ((cI_o (show ¬ 109 = 116 from by decide)).trans ((cI_o (show ¬ 109 = 115 from by decide)).trans ((cI_o (show ¬ 109 = 114 from by decide)).trans ((cI_o (show ¬ 109 = 112 from by decide)).trans ((cI_o (show ¬ 109 = 111 from by decide)).trans ((cI_o (show ¬ 109 = 110 from by decide)).trans ((cI_hit hj).trans ((uI_o (show ¬ (8 = 102 ∧ j = 7) from fun e => absurd e.1 (by decide))).trans ((cI_o (show ¬ 8 = 107 from by decide)).trans ((uI_o (show ¬ (8 = 102 ∧ j = 5) from fun e => absurd e.1 (by decide))).trans ((cI_o (show ¬ 8 = 106 from by decide)).trans ((cI_o (show ¬ 8 = 105 from by decide)).trans ((hV10 8 j (by omega)).trans ((hV4 8 j (by omega)).trans (uI_o (show ¬ (8 = 102 ∧ j = 1) from fun e => absurd e.1 (by decide)))))))))))))))))))))), fun j hj => (uI_o (show ¬ (110 = 102 ∧ j = 11) from fun e => absurd e.1 (by decide))).trans ((cI_o (show ¬ 110 = 120 from by decide)).trans ((uI_o (show ¬ (110 = 113 ∧ j = 6) from fun e => absurd e.1 (by decide))).trans ((cI_o (show ¬ 110 = 119 from by decide)).trans ((cI_o (show ¬ 110 = 118 from by decide)).trans ((cI_o (show ¬ 110 = 117 from by decide)).trans ((cI_o (show ¬ 110 = 116 from by decide)).trans ((cI_o (show ¬ 110 = 115 from by decide)).trans ((cI_o (show ¬ 110 = 114 from by decide)).trans ((cI_o (show ¬ 110 = 112 from by decide)).trans ((cI_o (show ¬ 110 = 111 from by decide)).trans ((cI_hit hj).trans ((cI_o (show ¬ 9 = 109 from by decide)).trans ((uI_o (show ¬ (9 = 102 ∧ j = 7) from fun e => absurd e.1 (by decide))).trans ((cI_o (show ¬ 9 = 107 from by decide)).trans ((uI_o (show ¬ (9 = 102 ∧ j = 5) from fun e => absurd e.1 (by decide))).trans ((cI_o (show ¬ 9 = 106 from by decide)).trans ((cI_o (show ¬ 9 = 105 from by decide)).trans ((hV10 9 j (by omega)).trans ((hV4 9 j (by omega)).trans (uI_o (show ¬ (9 = 102 ∧ j = 1) from fun e => absurd e.1 (by decide)))))))))))))))))))))), fun j hj => (uI_o (show ¬ (111 = 102 ∧ j = 11) from fun e => absurd e.1 (by decide))).trans ((cI_o (show ¬ 111 = 120 from by decide)).trans ((uI_o (show ¬ (111 = 113 ∧ j = 6) from fun e => absurd e.1 (by decide))).trans ((cI_o (show ¬ 111 = 119 from by decide)).trans ((cI_o (show ¬ 111 = 118 from by decide)).trans ((cI_o (show ¬ 111 = 117 from by decide)).trans ((cI_o (show ¬ 111 = 116 from by decide)).trans ((cI_o (show ¬ 111 = 115 from by decide)).trans ((cI_o (show ¬ 111 = 114 from by decide)).trans ((cI_o (show ¬ 111 = 112 from by decide)).trans ((cI_hit hj).trans ((cI_o (show ¬ 10 = 110 from by decide)).trans ((cI_o (show ¬ 10 = 109 from by decide)).trans ((uI_o (show ¬ (10 = 102 ∧ j = 7) from fun e => absurd e.1 (by decide))).trans ((cI_o (show ¬ 10 = 107 from by decide)).trans ((uI_o (show ¬ (10 = 102 ∧ j = 5) from fun e => absurd e.1 (by decide))).trans ((cI_o (show ¬ 10 = 106 from by decide)).trans ((cI_o (show ¬ 10 = 105 from by decide)).trans ((hV10 10 j (by omega)).trans ((hV4 10 j (by omega)).trans (uI_o (show ¬ (10 = 102 ∧ j = 1) from fun e => absurd e.1 (by decide)))))))))))))))))))))), fun j hj => (uI_o (show ¬ (112 = 102 ∧ j = 11) from fun e => absurd e.1 (by decide))).trans ((cI_o (show ¬ 112 = 120 from by decide)).trans ((uI_o (show ¬ (112 = 113 ∧ j = 6) from fun e => absurd e.1 (by decide))).trans ((cI_o (show ¬ 112 = 119 from by decide)).trans ((cI_o (show ¬ 112 = 118 from by decide)).trans ((cI_o (show ¬ 112 = 117 from by decide)).trans ((cI_o (show ¬ 112 = 116 from by decide)).trans ((cI_o (show ¬ 112 = 115 from by decide)).trans ((cI_o (show ¬ 112 = 114 from by decide)).trans ((cI_hit hj).trans ((cI_o (show ¬ 11 = 111 from by decide)).trans ((cI_o (show ¬ 11 = 110 from by decide)).trans ((cI_o (show ¬ 11 = 109 from by decide)).trans ((uI_o (show ¬ (11 = 102 ∧ j = 7) from fun e => absurd e.1 (by decide))).trans ((cI_o (show ¬ 11 = 107 from by decide)).trans ((uI_o (show ¬ (11 = 102 ∧ j = 5) from fun e => absurd e.1 (by decide))).trans ((cI_o (show ¬ 11 = 106 from by decide)).trans ((cI_o (show ¬ 11 = 105 from by decide)).trans ((hV10 11 j (by omega)).trans ((hV4 11 j (by omega)).trans (uI_o (show ¬ (11 = 102 ∧ j = 1) from fun e => absurd e.1 (by decide)))))))))))))))))))))), fun j hj => (uI_o (show ¬ (114 = 102 ∧ j = 11) from fun e => absurd e.1 (by decide))).trans ((cI_o (show ¬ 114 = 120 from by decide)).trans ((uI_o (show ¬ (114 = 113 ∧ j = 6) from fun e => absurd e.1 (by decide))).trans ((cI_o (show ¬ 114 = 119 from by decide)).trans ((cI_o (show ¬ 114 = 118 from by decide)).trans ((cI_o (show ¬ 114 = 117 from by decide)).trans ((cI_o (show ¬ 114 = 116 from by decide)).trans ((cI_o (show ¬ 114 = 115 from by decide)).trans ((cI_hit hj).trans ((cI_o (show ¬ 13 = 112 from by decide)).trans ((cI_o (show ¬ 13 = 111 from by decide)).trans ((cI_o (show ¬ 13 = 110 from by decide)).trans ((cI_o (show ¬ 13 = 109 from by decide)).trans ((uI_o (show ¬ (13 = 102 ∧ j = 7) from fun e => absurd e.1 (by decide))).trans ((cI_o (show ¬ 13 = 107 from by decide)).trans ((uI_o (show ¬ (13 = 102 ∧ j = 5) from fun e => absurd e.1 (by decide))).trans ((cI_o (show ¬ 13 = 106 from by decide)).trans ((cI_o (show ¬ 13 = 105 from by decide)).trans ((hV10 13 j (by omega)).trans ((hV4 13 j (by omega)).trans (uI_o (show ¬ (13 = 102 ∧ j = 1) from fun e => absurd e.1 (by decide)))))))))))))))))))))), fun j hj => (uI_o (show ¬ (115 = 102 ∧ j = 11) from fun e => absurd e.1 (by decide))).trans ((cI_o (show ¬ 115 = 120 from by decide)).trans ((uI_o (show ¬ (115 = 113 ∧ j = 6) from fun e => absurd e.1 (by decide))).trans ((cI_o (show ¬ 115 = 119 from by decide)).trans ((cI_o (show ¬ 115 = 118 from by decide)).trans ((cI_o (show ¬ 115 = 117 from by decide)).trans ((cI_o (show ¬ 115 = 116 from by decide)).trans ((cI_hit hj).trans ((cI_o (show ¬ 14 = 114 from by decide)).trans ((cI_o (show ¬ 14 = 112 from by decide)).trans ((cI_o (show ¬ 14 = 111 from by decide)).trans ((cI_o (show ¬ 14 = 110 from by decide)).trans ((cI_o (show ¬ 14 = 109 from by decide)).trans ((uI_o (show ¬ (14 = 102 ∧ j = 7) from fun e => absurd e.1 (by decide))).trans ((cI_o (show ¬ 14 = 107 from by decide)).trans ((uI_o (show ¬ (14 = 102 ∧ j = 5) from fun e => absurd e.1 (by decide))).trans ((cI_o (show ¬ 14 = 106 from by decide)).trans ((cI_o (show ¬ 14 = 105 from by decide)).trans ((hV10 14 j (by omega)).trans ((hV4 14 j (by omega)).trans (uI_o (show ¬ (14 = 102 ∧ j = 1) from fun e => absurd e.1 (by decide)))))))))))))))))))))), fun j hj => (uI_o (show ¬ (116 = 102 ∧ j = 11) from fun e => absurd e.1 (by decide))).trans ((cI_o (show ¬ 116 = 120 from by decide)).trans ((uI_o (show ¬ (116 = 113 ∧ j = 6) from fun e => absurd e.1 (by decide))).trans ((cI_o (show ¬ 116 = 119 from by decide)).trans ((cI_o (show ¬ 116 = 118 from by decide)).trans ((cI_o (show ¬ 116 = 117 from by decide)).trans ((cI_hit hj).trans ((cI_o (show ¬ 15 = 115 from by decide)).trans ((cI_o (show ¬ 15 = 114 from by decide)).trans ((cI_o (show ¬ 15 = 112 from by decide)).trans ((cI_o (show ¬ 15 = 111 from by decide)).trans ((cI_o (show ¬ 15 = 110 from by decide)).trans ((cI_o (show ¬ 15 = 109 from by decide)).trans ((uI_o (show ¬ (15 = 102 ∧ j = 7) from fun e => absurd e.1 (by decide))).trans ((cI_o (show ¬ 15 = 107 from by decide)).trans ((uI_o (show ¬ (15 = 102 ∧ j = 5) from fun e => absurd e.1 (by decide))).trans ((cI_o (show ¬ 15 = 106 from by decide)).trans ((cI_o (show ¬ 15 = 105 from by decide)).trans ((hV10 15 j (by omega)).trans ((hV4 15 j (by omega)).trans (uI_o (show ¬ (15 = 102 ∧ j = 1) from fun e => absurd e.1 (by decide)))))))))))))))))))))), fun j hj => (uI_o (show ¬ (117 = 102 ∧ j = 11) from fun e => absurd e.1 (by decide))).trans ((cI_o (show ¬ 117 = 120 from by decide)).trans ((uI_o (show ¬ (117 = 113 ∧ j = 6) from fun e => absurd e.1 (by decide))).trans ((cI_o (show ¬ 117 = 119 from by decide)).trans ((cI_o (show ¬ 117 = 118 from by decide)).trans ((cI_hit hj).trans ((cI_o (show ¬ 16 = 116 from by decide)).trans ((cI_o (show ¬ 16 = 115 from by decide)).trans ((cI_o (show ¬ 16 = 114 from by decide)).trans ((cI_o (show ¬ 16 = 112 from by decide)).trans ((cI_o (show ¬ 16 = 111 from by decide)).trans ((cI_o (show ¬ 16 = 110 from by decide)).trans ((cI_o (show ¬ 16 = 109 from by decide)).trans ((uI_o (show ¬ (16 = 102 ∧ j = 7) from fun e => absurd e.1 (by decide))).trans ((cI_o (show ¬ 16 = 107 from by decide)).trans ((uI_o (show ¬ (16 = 102 ∧ j = 5) from fun e => absurd e.1 (by decide))).trans ((cI_o (show ¬ 16 = 106 from by decide)).trans ((cI_o (show ¬ 16 = 105 from by decide)).trans ((hV10 16 j (by omega)).trans ((hV4 16 j (by omega)).trans (uI_o (show ¬ (16 = 102 ∧ j = 1) from fun e => absurd e.1 (by decide)))))))))))))))))))))), fun j hj => (uI_o (show ¬ (118 = 102 ∧ j = 11) from fun e => absurd e.1 (by decide))).trans ((cI_o (show ¬ 118 = 120 from by decide)).trans ((uI_o (show ¬ (118 = 113 ∧ j = 6) from fun e => absurd e.1 (by decide))).trans ((cI_o (show ¬ 118 = 119 from by decide)).trans ((cI_hit hj).trans ((cI_o (show ¬ 17 = 117 from by decide)).trans ((cI_o (show ¬ 17 = 116 from by decide)).trans ((cI_o (show ¬ 17 = 115 from by decide)).trans ((cI_o (show ¬ 17 = 114 from by decide)).trans ((cI_o (show ¬ 17 = 112 from by decide)).trans ((cI_o (show ¬ 17 = 111 from by decide)).trans ((cI_o (show ¬ 17 = 110 from by decide)).trans ((cI_o (show ¬ 17 = 109 from by decide)).trans ((uI_o (show ¬ (17 = 102 ∧ j = 7) from fun e => absurd e.1 (by decide))).trans ((cI_o (show ¬ 17 = 107 from by decide)).trans ((uI_o (show ¬ (17 = 102 ∧ j = 5) from fun e => absurd e.1 (by decide))).trans ((cI_o (show ¬ 17 = 106 from by decide)).trans ((cI_o (show ¬ 17 = 105 from by decide)).trans ((hV10 17 j (by omega)).trans ((hV4 17 j (by omega)).trans (uI_o (show ¬ (17 = 102 ∧ j = 1) from fun e => absurd e.1 (by decide)))))))))))))))))))))), fun j hj => (uI_o (show ¬ (119 = 102 ∧ j = 11) from fun e => absurd e.1 (by decide))).trans ((cI_o (show ¬ 119 = 120 from by decide)).trans ((uI_o (show ¬ (119 = 113 ∧ j = 6) from fun e => absurd e.1 (by decide))).trans ((cI_hit hj).trans ((cI_o (show ¬ 18 = 118 from by decide)).trans ((cI_o (show ¬ 18 = 117 from by decide)).trans ((cI_o (show ¬ 18 = 116 from by decide)).trans ((cI_o (show ¬ 18 = 115 from by decide)).trans ((cI_o (show ¬ 18 = 114 from by decide)).trans ((cI_o (show ¬ 18 = 112 from by decide)).trans ((cI_o (show ¬ 18 = 111 from by decide)).trans ((cI_o (show ¬ 18 = 110 from by decide)).trans ((cI_o (show ¬ 18 = 109 from by decide)).trans ((uI_o (show ¬ (18 = 102 ∧ j = 7) from fun e => absurd e.1 (by decide))).trans ((cI_o (show ¬ 18 = 107 from by decide)).trans ((uI_o (show ¬ (18 = 102 ∧ j = 5) from fun e => absurd e.1 (by decide))).trans ((cI_o (show ¬ 18 = 106 from by decide)).trans ((cI_o (show ¬ 18 = 105 from by decide)).trans ((hV10 18 j (by omega)).trans ((hV4 18 j (by omega)).trans (uI_o (show ¬ (18 = 102 ∧ j = 1) from fun e => absurd e.1 (by decide)))))))))))))))))))))), fun j hj => (uI_o (show ¬ (120 = 102 ∧ j = 11) from fun e => absurd e.1 (by decide))).trans ((cI_hit hj).trans ((uI_o (show ¬ (19 = 113 ∧ j = 6) from fun e => absurd e.1 (by decide))).trans ((cI_o (show ¬ 19 = 119 from by decide)).trans ((cI_o (show ¬ 19 = 118 from by decide)).trans ((cI_o (show ¬ 19 = 117 from by decide)).trans ((cI_o (show ¬ 19 = 116 from by decide)).trans ((cI_o (show ¬ 19 = 115 from by decide)).trans ((cI_o (show ¬ 19 = 114 from by decide)).trans ((cI_o (show ¬ 19 = 112 from by decide)).trans ((cI_o (show ¬ 19 = 111 from by decide)).trans ((cI_o (show ¬ 19 = 110 from by decide)).trans ((cI_o (show ¬ 19 = 109 from by decide)).trans ((uI_o (show ¬ (19 = 102 ∧ j = 7) from fun e => absurd e.1 (by decide))).trans ((cI_o (show ¬ 19 = 107 from by decide)).trans ((uI_o (show ¬ (19 = 102 ∧ j = 5) from fun e => absurd e.1 (by decide))).trans ((cI_o (show ¬ 19 = 106 from by decide)).trans ((cI_o (show ¬ 19 = 105 from by decide)).trans ((hV10 19 j (by omega)).trans ((hV4 19 j (by omega)).trans (uI_o (show ¬ (19 = 102 ∧ j = 1) from fun e => absurd e.1 (by decide))))))))))))))))))))))⟩) (fun p hpp => PCP_f (hP5 p hpp) (fun k j _ _ => (uI_o (show ¬ (k = 102 ∧ j = 11) from by omega)).trans ((cI_o (show ¬ k = 120 from by omega)).trans ((uI_o (show ¬ (k = 113 ∧ j = 6) from by omega)).trans ((cI_o (show ¬ k = 119 from by omega)).trans ((cI_o (show ¬ k = 118 from by omega)).trans ((cI_o (show ¬ k = 117 from by omega)).trans ((cI_o (show ¬ k = 116 from by omega)).trans ((cI_o (show ¬ k = 115 from by omega)).trans ((cI_o (show ¬ k = 114 from by omega)).trans ((cI_o (show ¬ k = 112 from by omega)).trans ((cI_o (show ¬ k = 111 from by omega)).trans ((cI_o (show ¬ k = 110 from by omega)).trans ((cI_o (show ¬ k = 109 from by omega)).trans ((uI_o (show ¬ (k = 102 ∧ j = 7) from by omega)).trans ((cI_o (show ¬ k = 107 from by omega)).trans ((uI_o (show ¬ (k = 102 ∧ j = 5) from by omega)).trans ((cI_o (show ¬ k = 106 from by omega)).trans ((cI_o (show ¬ k = 105 from by omega)).trans (hV10 k j (by omega)))))))))))))))))))) (fun k j _ _ => (uI_o (show ¬ (k = 102 ∧ j = 1) from by omega)).symm)) (fun p hpp => GCP_f (hP11 p hpp) (fun k j _ _ => (uI_o (show ¬ (k = 102 ∧ j = 11) from by omega)).trans ((cI_o (show ¬ k = 120 from by omega)).trans ((uI_o (show ¬ (k = 113 ∧ j = 6) from by omega)).trans ((cI_o (show ¬ k = 119 from by omega)).trans ((cI_o (show ¬ k = 118 from by omega)).trans ((cI_o (show ¬ k = 117 from by omega)).trans ((cI_o (show ¬ k = 116 from by omega)).trans ((cI_o (show ¬ k = 115 from by omega)).trans ((cI_o (show ¬ k = 114 from by omega)).trans ((cI_o (show ¬ k = 112 from by omega)).trans ((cI_o (show ¬ k = 111 from by omega)).trans ((cI_o (show ¬ k = 110 from by omega)).trans ((cI_o (show ¬ k = 109 from by omega)).trans ((uI_o (show ¬ (k = 102 ∧ j = 7) from by omega)).trans ((cI_o (show ¬ k = 107 from by omega)).trans ((uI_o (show ¬ (k = 102 ∧ j = 5) from by omega)).trans ((cI_o (show ¬ k = 106 from by omega)).trans (cI_o (show ¬ k = 105 from by omega))))))))))))))))))) (fun k j _ _ => ((hV4 k j (by omega)).trans (uI_o (show ¬ (k = 102 ∧ j = 1) from by omega))).symm))⟩
theorem c_scopy9_1_b (hF : FS F) (hR : Rg I)  (hK : ∀ (J : pI), Rg J → (∀ k j, ¬ ((90 ≤ k ∧ k < 102)) → J k j = I k j) → (∀ p : Nat, p < 4 → GCP (1 + 89 + 3 * p) (102 + 89 + 3 * p) J I) → GoN G (d + 2) kX8_copyFrom NP NP 65 [some (vr 1), some (vr 102), none] [] F J Q) : ∀ (mz : Nat) (i : Int) (J : pI), Rg J → (∀ k j, ¬ ((90 ≤ k ∧ k < 102)) → J k j = I k j) → ((0 : Int) ≤ i) → ((i : Int) ≤ 4) → (∀ p : Nat, (p : Int) < i → GCP (1 + 89 + 3 * p) (102 + 89 + 3 * p) J I) → (4 - i).toNat < mz → GoN G (d + 2) kX8_copyFrom NP NP 39 [some (vr 1), some (vr 102), some (vi i)] [] F J Q := by
  intro mz
  induction mz with
  | zero => intro i J hJ hV _ _ _ h; exact absurd h (Nat.not_lt_zero _)
  | succ mz ih =>
    intro i J hJ hV cc100 cc101 cc102 hm
    refine GoN_in (fun hok hA => ?_)
    have iii : -2147483648 ≤ i ∧ i < 2147483648 := hok 2 _ rfl
    refine Go_wp (by decide) ckX8_copyFrom [39, 65] ?_
    refine ⟨fun (c1 : ((4 : Int) ≤ i)) => ?_, fun (c1 : (¬ ((4 : Int) ≤ i))) => ?_⟩
    ·
      refine GoN_lv (lv' := [some (vr 1), some (vr 102), none]) (LvLe.k (LvLe.k (LvLe.d LvLe.n))) ?_
      exact hK J hJ (fun ka ja hk => (hV ka ja (by omega))) (fun p hp => cc102 p (by omega))
    ·
      refine ⟨_, rfl, (by decide), ?_⟩
      refine fun w0 hw0 => ?_; obtain rfl : w0 = some 3 := hw0.symm.trans (FS.g hF rfl)
      refine ⟨_, _, (by decide), rfl, (by decide), (show (0 : Int) ≤ i from by first | with_reducible assumption | omega | (simp only [wr, wl] at *; omega)), (show i < (4 : Int) from by first | with_reducible assumption | omega | (simp only [wr, wl] at *; omega)), ?_⟩
      refine fun w0 hw0 => ?_; obtain rfl : w0 = some (1 + 89 + 3 * Int.toNat i) := hw0.symm.trans (FS_pg hF (S := 1) (i := Int.toNat i) (Or.inl rfl) (by omega))
      refine ⟨_, rfl, (by decide), ?_⟩
      refine fun w0 hw0 => ?_; obtain rfl : w0 = some 104 := hw0.symm.trans (FS.g hF rfl)
      refine ⟨_, _, (by decide), rfl, (by decide), (show (0 : Int) ≤ i from by first | with_reducible assumption | omega | (simp only [wr, wl] at *; omega)), (show i < (4 : Int) from by first | with_reducible assumption | omega | (simp only [wr, wl] at *; omega)), ?_⟩
      refine fun w0 hw0 => ?_; obtain rfl : w0 = some (102 + 89 + 3 * Int.toNat i) := hw0.symm.trans (FS_pg hF (S := 102) (i := Int.toNat i) (Or.inr rfl) (by omega))
      refine ⟨⟨_, (GP_of (v := i) hF (by omega)).1.1, (by have := (GP_of (v := i) hF (by omega)).2; show _ < 254; omega)⟩, ?_⟩
      refine c_gcopy9  hF hJ (GP_of (v := i) hF (by omega)) (GP_of2 (v := i) hF (by omega)) (by omega) (fun I2 hR3 hA4 hW5 qr6 => ?_)
      have n7 : (wr (i + 1)) = i + 1 := wr_id (show -2147483648 ≤ (i + 1 : Int) ∧ (i + 1 : Int) < 2147483648 from by omega)
      exact ih (wr (i + 1)) I2 hR3 (fun ka ja hk => ((hW5 ka ja (by omega))).trans ((hV ka ja (by omega)))) (show (0 : Int) ≤ (wr (i + 1)) from by first | with_reducible assumption | omega | (simp only [wr, wl] at *; omega)) (show ((wr (i + 1)) : Int) ≤ 4 from by first | with_reducible assumption | omega | (simp only [wr, wl] at *; omega)) (fun p hp => if e : p = Int.toNat i then (by subst e; exact GCP_f (show GCP (1 + 89 + 3 * Int.toNat i) (102 + 89 + 3 * Int.toNat i) I2 J from qr6) (fun _ _ _ _ => rfl) (fun k j _ _ => (hV k j (by omega)).symm)) else GCP_f (cc102 p (by omega)) (fun k j _ _ => hW5 k j (by omega)) (fun _ _ _ _ => rfl)) (show (4 - (wr (i + 1))).toNat < mz from by omega)
theorem c_scopy9_1 (hF : FS F) (hR : Rg I)  (hQ : ∀ (I' : pI), Rg I' → AR I' → (∀ k j, ¬ ((1 ≤ k ∧ k < 102)) → I' k j = I k j) → ((I' 1 1) = (I 102 1)) → ((I' 1 5) = (I 102 5)) → ((I' 1 7) = (I 102 7)) → ((I' 1 11) = (I 102 11)) → ((I' 12 6) = (I 113 6)) → (CP 1 102 I' I) → (∀ p : Nat, p < 14 → PCP (1 + 19 + 5 * p) (102 + 19 + 5 * p) I' I) → (∀ p : Nat, p < 4 → GCP (1 + 89 + 3 * p) (102 + 89 + 3 * p) I' I) → Q none F I') : CallN G (d + 3) kX8_copyFrom [vr 1, vr 102] NP F I Q := by
  refine CallN_in (fun hok hA => CallN_out ?_)
  refine Call_wp (lv := [some (vr 1), some (vr 102), none]) (by decide) ckX8_copyFrom [10, 39] rfl rfl ?_
  refine ⟨_, rfl, (by decide), ?_⟩
  refine ⟨_, rfl, (by decide), ?_⟩
  refine c_scopy6_1_a hF (Rg.u hR (Pr_f rfl))  (fun J1 hR2 hV4 hP5 => ?_) _ 0 (uI I 1 1 (I 102 1)) (Rg.u hR (Pr_f rfl)) (fun _ _ _ => rfl) (show (0 : Int) ≤ (0 : Int) from Int.le_refl _) (show ((0 : Int) : Int) ≤ 14 from by first | with_reducible assumption | omega | (simp only [wr, wl] at *; omega)) (fun p hp => absurd hp (by omega)) (Nat.lt_succ_self _)
  refine GoN_in (fun hok6 hA3 => ?_)
  refine Go_wp (by decide) ckX8_copyFrom [10, 39] ?_
  refine c_scopy9_1_b hF hR2  (fun J7 hR8 hV10 hP11 => ?_) _ 0 J1 hR2 (fun _ _ _ => rfl) (show (0 : Int) ≤ (0 : Int) from Int.le_refl _) (show ((0 : Int) : Int) ≤ 4 from by first | with_reducible assumption | omega | (simp only [wr, wl] at *; omega)) (fun p hp => absurd hp (by omega)) (Nat.lt_succ_self _)
  refine GoN_in (fun hok12 hA9 => ?_)
  refine Go_wp (by decide) ckX8_copyFrom [10, 39] ?_
  refine ⟨_, rfl, (by decide), ?_⟩
  refine fun w0 hw0 => ?_; obtain rfl : w0 = some 105 := hw0.symm.trans (FS.g hF rfl)
  refine ⟨_, rfl, (by decide), ?_⟩
  refine fun w0 hw0 => ?_; obtain rfl : w0 = some 4 := hw0.symm.trans (FS.g hF rfl)
  refine ⟨_, _, _, (by decide), rfl, rfl, (by decide), (by decide), (by decide), (by decide), (by decide), (by decide), (by decide), (by decide), (by omega), ?_⟩
  refine ⟨_, rfl, (by decide), ?_⟩
  refine fun w0 hw0 => ?_; obtain rfl : w0 = some 106 := hw0.symm.trans (FS.g hF rfl)
  refine ⟨_, rfl, (by decide), ?_⟩
  refine fun w0 hw0 => ?_; obtain rfl : w0 = some 5 := hw0.symm.trans (FS.g hF rfl)
  refine ⟨_, _, _, (by decide), rfl, rfl, (by decide), (by decide), (by decide), (by decide), (by decide), (by decide), (by decide), (by decide), (by omega), ?_⟩
  refine ⟨_, rfl, (by decide), ?_⟩
  have u13 : (J1 102 5) = ((uI I 1 1 (I 102 1)) 102 5) := hV4 _ _ (by first | decide | omega)
  have u14 : ((uI I 1 1 (I 102 1)) 102 5) = (I 102 5) := rfl
  have a15 : -2147483648 ≤ (I 102 5) ∧ (I 102 5) < 2147483648 := hA.1 _ _
  have a16 : -2147483648 ≤ (J1 102 5) ∧ (J1 102 5) < 2147483648 := hA3.1 _ _
  have u17 : (J7 102 5) = (J1 102 5) := hV10 _ _ (by first | decide | omega)
  have a18 : -2147483648 ≤ (J7 102 5) ∧ (J7 102 5) < 2147483648 := hA9.1 _ _
  refine ⟨_, rfl, (by decide), ?_⟩
  refine ⟨_, rfl, (by decide), ?_⟩
  refine fun w0 hw0 => ?_; obtain rfl : w0 = some 107 := hw0.symm.trans (FS.g hF rfl)
  refine ⟨_, rfl, (by decide), ?_⟩
  refine fun w0 hw0 => ?_; obtain rfl : w0 = some 6 := hw0.symm.trans (FS.g hF rfl)
  refine ⟨_, _, _, (by decide), rfl, rfl, (by decide), (by decide), (by decide), (by decide), (by decide), (by decide), (by decide), (by decide), (by omega), ?_⟩
  refine ⟨_, rfl, (by decide), ?_⟩
  have r19 : 0 ≤ (I 102 7) ∧ (I 102 7) ≤ 1 := hR.b (c := 8) (m := 12) rfl (by decide) ⟨by decide, by decide⟩
  have u20 : (J1 102 7) = ((uI I 1 1 (I 102 1)) 102 7) := hV4 _ _ (by first | decide | omega)
  have u21 : ((uI I 1 1 (I 102 1)) 102 7) = (I 102 7) := rfl
  have a23 : -2147483648 ≤ (J1 102 7) ∧ (J1 102 7) < 2147483648 := hA3.1 _ _
  have r24 : 0 ≤ (J1 102 7) ∧ (J1 102 7) ≤ 1 := hR2.b (c := 8) (m := 12) rfl (by decide) ⟨by decide, by decide⟩
  have u25 : (J7 102 7) = (J1 102 7) := hV10 _ _ (by first | decide | omega)
  have a26 : -2147483648 ≤ (J7 102 7) ∧ (J7 102 7) < 2147483648 := hA9.1 _ _
  have r27 : 0 ≤ (J7 102 7) ∧ (J7 102 7) ≤ 1 := hR8.b (c := 8) (m := 12) rfl (by decide) ⟨by decide, by decide⟩
  refine ⟨_, rfl, (by decide), (show ((J7 102 7) : Int) = 0 ∨ ((J7 102 7) : Int) = 1 from by omega), ?_⟩
  have p28 : ((J7 102 7) : Int) = 0 ∨ ((J7 102 7) : Int) = 1 := by omega
  refine ⟨_, rfl, (by decide), ?_⟩
  refine fun w0 hw0 => ?_; obtain rfl : w0 = some 7 := hw0.symm.trans (FS.g hF rfl)
  refine ⟨_, rfl, (by decide), ?_⟩
  refine fun w0 hw0 => ?_; obtain rfl : w0 = some 108 := hw0.symm.trans (FS.g hF rfl)
  refine ⟨⟨_, rfl, (by decide)⟩, ?_⟩
  refine Call_wp (lv := [some (vr 7), some (vr 108)]) (by decide) ckX2_copyFrom [] rfl rfl ?_
  refine ⟨_, rfl, (by decide), ?_⟩
  refine fun w0 hw0 => ?_; obtain rfl : w0 = some 109 := hw0.symm.trans (FS.g hF rfl)
  refine ⟨_, rfl, (by decide), ?_⟩
  refine fun w0 hw0 => ?_; obtain rfl : w0 = some 8 := hw0.symm.trans (FS.g hF rfl)
  refine ⟨_, _, _, (by decide), rfl, rfl, (by decide), (by decide), (by decide), (by decide), (by decide), (by decide), (by decide), (by decide), (by omega), ?_⟩
  refine ⟨_, rfl, (by decide), ?_⟩
  refine fun w0 hw0 => ?_; obtain rfl : w0 = some 110 := hw0.symm.trans (FS.g hF rfl)
  refine ⟨_, rfl, (by decide), ?_⟩
  refine fun w0 hw0 => ?_; obtain rfl : w0 = some 9 := hw0.symm.trans (FS.g hF rfl)
  refine ⟨_, _, _, (by decide), rfl, rfl, (by decide), (by decide), (by decide), (by decide), (by decide), (by decide), (by decide), (by decide), (by omega), ?_⟩
  refine ⟨_, rfl, (by decide), ?_⟩
  refine fun w0 hw0 => ?_; obtain rfl : w0 = some 111 := hw0.symm.trans (FS.g hF rfl)
  refine ⟨_, rfl, (by decide), ?_⟩
  refine fun w0 hw0 => ?_; obtain rfl : w0 = some 10 := hw0.symm.trans (FS.g hF rfl)
  refine ⟨_, _, _, (by decide), rfl, rfl, (by decide), (by decide), (by decide), (by decide), (by decide), (by decide), (by decide), (by decide), (by omega), ?_⟩
  refine ⟨_, rfl, (by decide), ?_⟩
  refine fun w0 hw0 => ?_; obtain rfl : w0 = some 112 := hw0.symm.trans (FS.g hF rfl)
  refine ⟨_, rfl, (by decide), ?_⟩
  refine fun w0 hw0 => ?_; obtain rfl : w0 = some 11 := hw0.symm.trans (FS.g hF rfl)
  refine ⟨_, _, _, (by decide), rfl, rfl, (by decide), (by decide), (by decide), (by decide), (by decide), (by decide), (by decide), (by decide), (by omega), ?_⟩
  refine ⟨rfl, ?_⟩
  refine ⟨_, rfl, (by decide), ?_⟩
  refine fun w0 hw0 => ?_; obtain rfl : w0 = some 12 := hw0.symm.trans (FS.g hF rfl)
  refine ⟨_, rfl, (by decide), ?_⟩
  refine fun w0 hw0 => ?_; obtain rfl : w0 = some 113 := hw0.symm.trans (FS.g hF rfl)
  refine ⟨⟨_, rfl, (by decide)⟩, ?_⟩
  refine Call_wp (lv := [some (vr 12), some (vr 113)]) (by decide) ckX0_copyFrom [] rfl rfl ?_
  refine ⟨_, rfl, (by decide), ?_⟩
  refine fun w0 hw0 => ?_; obtain rfl : w0 = some 114 := hw0.symm.trans (FS.g hF rfl)
  refine ⟨_, rfl, (by decide), ?_⟩
  refine fun w0 hw0 => ?_; obtain rfl : w0 = some 13 := hw0.symm.trans (FS.g hF rfl)
  refine ⟨_, _, _, (by decide), rfl, rfl, (by decide), (by decide), (by decide), (by decide), (by decide), (by decide), (by decide), (by decide), (by omega), ?_⟩
  refine ⟨_, rfl, (by decide), ?_⟩
  refine fun w0 hw0 => ?_; obtain rfl : w0 = some 115 := hw0.symm.trans (FS.g hF rfl)
  refine ⟨_, rfl, (by decide), ?_⟩
  refine fun w0 hw0 => ?_; obtain rfl : w0 = some 14 := hw0.symm.trans (FS.g hF rfl)
  refine ⟨_, _, _, (by decide), rfl, rfl, (by decide), (by decide), (by decide), (by decide), (by decide), (by decide), (by decide), (by decide), (by omega), ?_⟩
  refine ⟨_, rfl, (by decide), ?_⟩
  refine fun w0 hw0 => ?_; obtain rfl : w0 = some 116 := hw0.symm.trans (FS.g hF rfl)
  refine ⟨_, rfl, (by decide), ?_⟩
  refine fun w0 hw0 => ?_; obtain rfl : w0 = some 15 := hw0.symm.trans (FS.g hF rfl)
  refine ⟨_, _, _, (by decide), rfl, rfl, (by decide), (by decide), (by decide), (by decide), (by decide), (by decide), (by decide), (by decide), (by omega), ?_⟩
  refine ⟨_, rfl, (by decide), ?_⟩
  refine fun w0 hw0 => ?_; obtain rfl : w0 = some 117 := hw0.symm.trans (FS.g hF rfl)
  refine ⟨_, rfl, (by decide), ?_⟩
  refine fun w0 hw0 => ?_; obtain rfl : w0 = some 16 := hw0.symm.trans (FS.g hF rfl)
  refine ⟨_, _, _, (by decide), rfl, rfl, (by decide), (by decide), (by decide), (by decide), (by decide), (by decide), (by decide), (by decide), (by omega), ?_⟩
  refine ⟨_, rfl, (by decide), ?_⟩
  refine fun w0 hw0 => ?_; obtain rfl : w0 = some 118 := hw0.symm.trans (FS.g hF rfl)
  refine ⟨_, rfl, (by decide), ?_⟩
  refine fun w0 hw0 => ?_; obtain rfl : w0 = some 17 := hw0.symm.trans (FS.g hF rfl)
  refine ⟨_, _, _, (by decide), rfl, rfl, (by decide), (by decide), (by decide), (by decide), (by decide), (by decide), (by decide), (by decide), (by omega), ?_⟩
  refine ⟨_, rfl, (by decide), ?_⟩
  refine fun w0 hw0 => ?_; obtain rfl : w0 = some 119 := hw0.symm.trans (FS.g hF rfl)
  refine ⟨_, rfl, (by decide), ?_⟩
  refine fun w0 hw0 => ?_; obtain rfl : w0 = some 18 := hw0.symm.trans (FS.g hF rfl)
  refine ⟨_, _, _, (by decide), rfl, rfl, (by decide), (by decide), (by decide), (by decide), (by decide), (by decide), (by decide), (by decide), (by omega), ?_⟩
  refine ⟨_, rfl, (by decide), ?_⟩
  have u29 : (J1 113 6) = ((uI I 1 1 (I 102 1)) 113 6) := hV4 _ _ (by first | decide | omega)
  have u30 : ((uI I 1 1 (I 102 1)) 113 6) = (I 113 6) := rfl
  have a31 : -2147483648 ≤ (I 113 6) ∧ (I 113 6) < 2147483648 := hA.1 _ _
  have a32 : -2147483648 ≤ (J1 113 6) ∧ (J1 113 6) < 2147483648 := hA3.1 _ _
  have u33 : (J7 113 6) = (J1 113 6) := hV10 _ _ (by first | decide | omega)
  have a34 : -2147483648 ≤ (J7 113 6) ∧ (J7 113 6) < 2147483648 := hA9.1 _ _
  refine ⟨_, rfl, (by decide), ?_⟩
  refine ⟨rfl, ?_⟩
  refine ⟨_, rfl, (by decide), ?_⟩
  refine fun w0 hw0 => ?_; obtain rfl : w0 = some 120 := hw0.symm.trans (FS.g hF rfl)
  refine ⟨_, rfl, (by decide), ?_⟩
  refine fun w0 hw0 => ?_; obtain rfl : w0 = some 19 := hw0.symm.trans (FS.g hF rfl)
  refine ⟨_, _, _, (by decide), rfl, rfl, (by decide), (by decide), (by decide), (by decide), (by decide), (by decide), (by decide), (by decide), (by omega), ?_⟩
  refine ⟨_, rfl, (by decide), ?_⟩
  have u35 : (J1 102 11) = ((uI I 1 1 (I 102 1)) 102 11) := hV4 _ _ (by first | decide | omega)
  have u36 : ((uI I 1 1 (I 102 1)) 102 11) = (I 102 11) := rfl
  have a37 : -2147483648 ≤ (I 102 11) ∧ (I 102 11) < 2147483648 := hA.1 _ _
  have a38 : -2147483648 ≤ (J1 102 11) ∧ (J1 102 11) < 2147483648 := hA3.1 _ _
  have u39 : (J7 102 11) = (J1 102 11) := hV10 _ _ (by first | decide | omega)
  have a40 : -2147483648 ≤ (J7 102 11) ∧ (J7 102 11) < 2147483648 := hA9.1 _ _
  refine ⟨_, rfl, (by decide), ?_⟩
  have u41 : (J1 1 1) = ((uI I 1 1 (I 102 1)) 1 1) := hV4 _ _ (by first | decide | omega)
  have u42 : ((uI I 1 1 (I 102 1)) 1 1) = (I 102 1) := rfl
  have a43 : -2147483648 ≤ (I 102 1) ∧ (I 102 1) < 2147483648 := hA.1 _ _
  have a44 : -2147483648 ≤ (J1 1 1) ∧ (J1 1 1) < 2147483648 := hA3.1 _ _
  have u45 : (J7 1 1) = (J1 1 1) := hV10 _ _ (by first | decide | omega)
  have a46 : -2147483648 ≤ (J7 1 1) ∧ (J7 1 1) < 2147483648 := hA9.1 _ _
  exact ⟨rfl, fun hv hA' => hQ _ (Rg.u (Rg.c (Rg.u (Rg.c (Rg.c (Rg.c (Rg.c (Rg.c (Rg.c (Rg.c (Rg.c (Rg.c (Rg.c (Rg.u (Rg.c (Rg.u (Rg.c (Rg.c hR8 (Pr_p (k := 4) rfl)) (Pr_p (k := 5) rfl)) (Pr_f rfl)) (Pr_p (k := 6) rfl)) (Pr_b (by decide) p28)) (Pr_p (k := 8) rfl)) (Pr_p (k := 9) rfl)) (Pr_p (k := 10) rfl)) (Pr_p (k := 11) rfl)) (Pr_p (k := 13) rfl)) (Pr_p (k := 14) rfl)) (Pr_p (k := 15) rfl)) (Pr_p (k := 16) rfl)) (Pr_p (k := 17) rfl)) (Pr_p (k := 18) rfl)) (Pr_f rfl)) (Pr_p (k := 19) rfl)) (Pr_f rfl)) hA' (fun ka ja hk => ((uI_o (show ¬ (ka = 1 ∧ ja = 11) from by first | (intro e; obtain ⟨rfl, rfl⟩ := e; exact hk (by decide)) | omega))).trans (((cI_o (show ¬ ka = 19 from by omega))).trans (((uI_o (show ¬ (ka = 12 ∧ ja = 6) from by first | (intro e; obtain ⟨rfl, rfl⟩ := e; exact hk (by decide)) | omega))).trans (((cI_o (show ¬ ka = 18 from by omega))).trans (((cI_o (show ¬ ka = 17 from by omega))).trans (((cI_o (show ¬ ka = 16 from by omega))).trans (((cI_o (show ¬ ka = 15 from by omega))).trans (((cI_o (show ¬ ka = 14 from by omega))).trans (((cI_o (show ¬ ka = 13 from by omega))).trans (((cI_o (show ¬ ka = 11 from by omega))).trans (((cI_o (show ¬ ka = 10 from by omega))).trans (((cI_o (show ¬ ka = 9 from by omega))).trans (((cI_o (show ¬ ka = 8 from by omega))).trans (((uI_o (show ¬ (ka = 1 ∧ ja = 7) from by first | (intro e; obtain ⟨rfl, rfl⟩ := e; exact hk (by decide)) | omega))).trans (((cI_o (show ¬ ka = 6 from by omega))).trans (((uI_o (show ¬ (ka = 1 ∧ ja = 5) from by first | (intro e; obtain ⟨rfl, rfl⟩ := e; exact hk (by decide)) | omega))).trans (((cI_o (show ¬ ka = 5 from by omega))).trans (((cI_o (show ¬ ka = 4 from by omega))).trans (((hV10 ka ja (by omega))).trans (((hV4 ka ja (by omega))).trans ((uI_o (show ¬ (ka = 1 ∧ ja = 1) from by first | (intro e; obtain ⟨rfl, rfl⟩ := e; exact hk (by decide)) | omega))))))))))))))))))))))) (show (J7 1 1) = (I 102 1) from by first | omega | (simp only [wr, wl] at *; omega)) (show (J7 102 5) = (I 102 5) from by first | omega | (simp only [wr, wl] at *; omega)) (show (J7 102 7) = (I 102 7) from by first | omega | (simp only [wr, wl] at *; omega)) (show (J7 102 11) = (I 102 11) from by first | omega | (simp only [wr, wl] at *; omega)) (show (J7 113 6) = (I 113 6) from by first | omega | (simp only [wr, wl] at *; omega)) (⟨fun j hj => (uI_o (show ¬ (4 = 1 ∧ j = 11) from fun e => absurd e.1 (by decide))).trans ((cI_o (show ¬ 4 = 19 from by decide)).trans ((uI_o (show ¬ (4 = 12 ∧ j = 6) from fun e => absurd e.1 (by decide))).trans ((cI_o (show ¬ 4 = 18 from by decide)).trans ((cI_o (show ¬ 4 = 17 from by decide)).trans ((cI_o (show ¬ 4 = 16 from by decide)).trans ((cI_o (show ¬ 4 = 15 from by decide)).trans ((cI_o (show ¬ 4 = 14 from by decide)).trans ((cI_o (show ¬ 4 = 13 from by decide)).trans ((cI_o (show ¬ 4 = 11 from by decide)).trans ((cI_o (show ¬ 4 = 10 from by decide)).trans ((cI_o (show ¬ 4 = 9 from by decide)).trans ((cI_o (show ¬ 4 = 8 from by decide)).trans ((uI_o (show ¬ (4 = 1 ∧ j = 7) from fun e => absurd e.1 (by decide))).trans ((cI_o (show ¬ 4 = 6 from by decide)).trans ((uI_o (show ¬ (4 = 1 ∧ j = 5) from fun e => absurd e.1 (by decide))).trans ((cI_o (show ¬ 4 = 5 from by decide)).trans ((cI_hit hj).trans ((hV10 105 j (by omega)).trans ((hV4 105 j (by omega)).trans (uI_o (show ¬ (105 = 1 ∧ j = 1) from fun e => absurd e.1 (by decide)))))))))))))))))))))), fun j hj => (uI_o (show ¬ (5 = 1 ∧ j = 11) from fun e => absurd e.1 (by decide))).trans ((cI_o (show ¬ 5 = 19 from by decide)).trans ((uI_o (show ¬ (5 = 12 ∧ j = 6) from fun e => absurd e.1 (by decide))).trans ((cI_o (show ¬ 5 = 18 from by decide)).trans ((cI_o (show ¬ 5 = 17 from by decide)).trans ((cI_o (show ¬ 5 = 16 from by decide)).trans ((cI_o (show ¬ 5 = 15 from by decide)).trans ((cI_o (show ¬ 5 = 14 from by decide)).trans ((cI_o (show ¬ 5 = 13 from by decide)).trans ((cI_o (show ¬ 5 = 11 from by decide)).trans ((cI_o (show ¬ 5 = 10 from by decide)).trans ((cI_o (show ¬ 5 = 9 from by decide)).trans ((cI_o (show ¬ 5 = 8 from by decide)).trans ((uI_o (show ¬ (5 = 1 ∧ j = 7) from fun e => absurd e.1 (by decide))).trans ((cI_o (show ¬ 5 = 6 from by decide)).trans ((uI_o (show ¬ (5 = 1 ∧ j = 5) from fun e => absurd e.1 (by decide))).trans ((cI_hit hj).trans ((cI_o (show ¬ 106 = 4 from by decide)).trans ((hV10 106 j (by omega)).trans ((hV4 106 j (by omega)).trans (uI_o (show ¬ (106 = 1 ∧ j = 1) from fun e => absurd e.1 (by decide)))))))))))))))))))))), fun j hj => (uI_o (show ¬ (6 = 1 ∧ j = 11) from fun e => absurd e.1 (by decide))).trans ((cI_o (show ¬ 6 = 19 from by decide)).trans ((uI_o (show ¬ (6 = 12 ∧ j = 6) from fun e => absurd e.1 (by decide))).trans ((cI_o (show ¬ 6 = 18 from by decide)).trans ((cI_o (show ¬ 6 = 17 from by decide)).trans ((cI_o (show ¬ 6 = 16 from by decide)).trans ((cI_o (show ¬ 6 = 15 from by decide)).trans ((cI_o (show ¬ 6 = 14 from by decide)).trans ((cI_o (show ¬ 6 = 13 from by decide)).trans ((cI_o (show ¬ 6 = 11 from by decide)).trans ((cI_o (show ¬ 6 = 10 from by decide)).trans ((cI_o (show ¬ 6 = 9 from by decide)).trans ((cI_o (show ¬ 6 = 8 from by decide)).trans ((uI_o (show ¬ (6 = 1 ∧ j = 7) from fun e => absurd e.1 (by decide))).trans ((cI_hit hj).trans ((uI_o (show ¬ (107 = 1 ∧ j = 5) from fun e => absurd e.1 (by decide))).trans ((cI_o (show ¬ 107 = 5 from by decide)).trans ((cI_o (show ¬ 107 = 4 from by decide)).trans ((hV10 107 j (by omega)).trans ((hV4 107 j (by omega)).trans (uI_o (show ¬ (107 = 1 ∧ j = 1) from fun e => absurd e.1 (by decide)))))))))))))))))))))), fun j hj => (uI_o (show ¬ (8 = 1 ∧ j = 11) from fun e => absurd e.1 (by decide))).trans ((cI_o (show ¬ 8 = 19 from by decide)).trans ((uI_o (show ¬ (8 = 12 ∧ j = 6) from fun e => absurd e.1 (by decide))).trans ((cI_o (show ¬ 8 = 18 from by decide)).trans ((cI_o (show ¬ 8 = 17 from by decide)).trans ((cI_o (show ¬ 8 = 16 from by decide)).trans ((cI_o (show ¬ 8 = 15 from by decide)).trans ((cI_o (show ¬ 8 = 14 from by decide)).trans ((cI_o (show ¬ 8 = 13 from by decide)).trans ((cI_o (show ¬ 8 = 11 from by decide)).trans ((cI_o (show ¬ 8 = 10 from by decide)).trans ((cI_o (show ¬ 8 = 9 from by decide)).trans ((cI_hit hj).trans ((uI_o (show ¬ (109 = 1 ∧ j = 7) from fun e => absurd e.1 (by decide))).trans ((cI_o (show ¬ 109 = 6 from by decide)).trans ((uI_o (show ¬ (109 = 1 ∧ j = 5) from fun e => absurd e.1 (by decide))).trans ((cI_o (show ¬ 109 = 5 from by decide)).trans ((cI_o (show ¬ 109 = 4 from by decide)).trans ((hV10 109 j (by omega)).trans ((hV4 109 j (by omega)).trans (uI_o (show ¬ (109 = 1 ∧ j = 1) from fun e => absurd e.1 (by decide)))))))))))))))))))))), fun j hj => (uI_o (show ¬ (9 = 1 ∧ j = 11) from fun e => absurd e.1 (by decide))).trans ((cI_o (show ¬ 9 = 19 from by decide)).trans ((uI_o (show ¬ (9 = 12 ∧ j = 6) from fun e => absurd e.1 (by decide))).trans ((cI_o (show ¬ 9 = 18 from by decide)).trans ((cI_o (show ¬ 9 = 17 from by decide)).trans ((cI_o (show ¬ 9 = 16 from by decide)).trans ((cI_o (show ¬ 9 = 15 from by decide)).trans ((cI_o (show ¬ 9 = 14 from by decide)).trans ((cI_o (show ¬ 9 = 13 from by decide)).trans ((cI_o (show ¬ 9 = 11 from by decide)).trans ((cI_o (show ¬ 9 = 10 from by decide)).trans ((cI_hit hj).trans ((cI_o (show ¬ 110 = 8 from by decide)).trans ((uI_o (show ¬ (110 = 1 ∧ j = 7) from fun e => absurd e.1 (by decide))).trans ((cI_o (show ¬ 110 = 6 from by decide)).trans ((uI_o (show ¬ (110 = 1 ∧ j = 5) from fun e => absurd e.1 (by decide))).trans ((cI_o (show ¬ 110 = 5 from by decide)).trans ((cI_o (show ¬ 110 = 4 from by decide)).trans ((hV10 110 j (by omega)).trans ((hV4 110 j (by omega)).trans (uI_o (show ¬ (110 = 1 ∧ j = 1) from fun e => absurd e.1 (by decide)))))))))))))))))))))), fun j hj => (uI_o (show ¬ (10 = 1 ∧ j = 11) from fun e => absurd e.1 (by decide))).trans ((cI_o (show ¬ 10 = 19 from by decide)).trans ((uI_o (show ¬ (10 = 12 ∧ j = 6) from fun e => absurd e.1 (by decide))).trans ((cI_o (show ¬ 10 = 18 from by decide)).trans ((cI_o (show ¬ 10 = 17 from by decide)).trans ((cI_o (show ¬ 10 = 16 from by decide)).trans ((cI_o (show ¬ 10 = 15 from by decide)).trans ((cI_o (show ¬ 10 = 14 from by decide)).trans ((cI_o (show ¬ 10 = 13 from by decide)).trans ((cI_o (show ¬ 10 = 11 from by decide)).trans ((cI_hit hj).trans ((cI_o (show ¬ 111 = 9 from by decide)).trans ((cI_o (show ¬ 111 = 8 from by decide)).trans ((uI_o (show ¬ (111 = 1 ∧ j = 7) from fun e => absurd e.1 (by decide))).trans ((cI_o (show ¬ 111 = 6 from by decide)).trans ((uI_o (show ¬ (111 = 1 ∧ j = 5) from fun e => absurd e.1 (by decide))).trans ((cI_o (show ¬ 111 = 5 from by decide)).trans ((cI_o (show ¬ 111 = 4 from by decide)).trans ((hV10 111 j (by omega)).trans ((hV4 111 j (by omega)).trans (uI_o (show ¬ (111 = 1 ∧ j = 1) from fun e => absurd e.1 (by decide)))))))))))))))))))))), fun j hj => (uI_o (show ¬ (11 = 1 ∧ j = 11) from fun e => absurd e.1 (by decide))).trans ((cI_o (show ¬ 11 = 19 from by decide)).trans ((uI_o (show ¬ (11 = 12 ∧ j = 6) from fun e => absurd e.1 (by decide))).trans ((cI_o (show ¬ 11 = 18 from by decide)).trans ((cI_o (show ¬ 11 = 17 from by decide)).trans ((cI_o (show ¬ 11 = 16 from by decide)).trans ((cI_o (show ¬ 11 = 15 from by decide)).trans ((cI_o (show ¬ 11 = 14 from by decide)).trans ((cI_o (show ¬ 11 = 13 from by decide)).trans ((cI_hit hj).trans ((cI_o (show ¬ 112 = 10 from by decide)).trans ((cI_o (show ¬ 112 = 9 from by decide)).trans ((cI_o (show ¬ 112 = 8 from by decide)).trans ((uI_o (show ¬ (112 = 1 ∧ j = 7) from fun e => absurd e.1 (by decide))).trans ((cI_o (show ¬ 112 = 6 from by decide)).trans ((uI_o (show ¬ (112 = 1 ∧ j = 5) from fun e => absurd e.1 (by decide))).trans ((cI_o (show ¬ 112 = 5 from by decide)).trans ((cI_o (show ¬ 112 = 4 from by decide)).trans ((hV10 112 j (by omega)).trans ((hV4 112 j (by omega)).trans (uI_o (show ¬ (112 = 1 ∧ j = 1) from fun e => absurd e.1 (by decide)))))))))))))))))))))), fun j hj => (uI_o (show ¬ (13 = 1 ∧ j = 11) from fun e => absurd e.1 (by decide))).trans ((cI_o (show ¬ 13 = 19 from by decide)).trans ((uI_o (show ¬ (13 = 12 ∧ j = 6) from fun e => absurd e.1 (by decide))).trans ((cI_o (show ¬ 13 = 18 from by decide)).trans ((cI_o (show ¬ 13 = 17 from by decide)).trans ((cI_o (show ¬ 13 = 16 from by decide)).trans ((cI_o (show ¬ 13 = 15 from by decide)).trans ((cI_o (show ¬ 13 = 14 from by decide)).trans ((cI_hit hj).trans ((cI_o (show ¬ 114 = 11 from by decide)).trans ((cI_o (show ¬ 114 = 10 from by decide)).trans ((cI_o (show ¬ 114 = 9 from by decide)).trans ((cI_o (show ¬ 114 = 8 from by decide)).trans ((uI_o (show ¬ (114 = 1 ∧ j = 7) from fun e => absurd e.1 (by decide))).trans ((cI_o (show ¬ 114 = 6 from by decide)).trans ((uI_o (show ¬ (114 = 1 ∧ j = 5) from fun e => absurd e.1 (by decide))).trans ((cI_o (show ¬ 114 = 5 from by decide)).trans ((cI_o (show ¬ 114 = 4 from by decide)).trans ((hV10 114 j (by omega)).trans ((hV4 114 j (by omega)).trans (uI_o (show ¬ (114 = 1 ∧ j = 1) from fun e => absurd e.1 (by decide)))))))))))))))))))))), fun j hj => (uI_o (show ¬ (14 = 1 ∧ j = 11) from fun e => absurd e.1 (by decide))).trans ((cI_o (show ¬ 14 = 19 from by decide)).trans ((uI_o (show ¬ (14 = 12 ∧ j = 6) from fun e => absurd e.1 (by decide))).trans ((cI_o (show ¬ 14 = 18 from by decide)).trans ((cI_o (show ¬ 14 = 17 from by decide)).trans ((cI_o (show ¬ 14 = 16 from by decide)).trans ((cI_o (show ¬ 14 = 15 from by decide)).trans ((cI_hit hj).trans ((cI_o (show ¬ 115 = 13 from by decide)).trans ((cI_o (show ¬ 115 = 11 from by decide)).trans ((cI_o (show ¬ 115 = 10 from by decide)).trans ((cI_o (show ¬ 115 = 9 from by decide)).trans ((cI_o (show ¬ 115 = 8 from by decide)).trans ((uI_o (show ¬ (115 = 1 ∧ j = 7) from fun e => absurd e.1 (by decide))).trans ((cI_o (show ¬ 115 = 6 from by decide)).trans ((uI_o (show ¬ (115 = 1 ∧ j = 5) from fun e => absurd e.1 (by decide))).trans ((cI_o (show ¬ 115 = 5 from by decide)).trans ((cI_o (show ¬ 115 = 4 from by decide)).trans ((hV10 115 j (by omega)).trans ((hV4 115 j (by omega)).trans (uI_o (show ¬ (115 = 1 ∧ j = 1) from fun e => absurd e.1 (by decide)))))))))))))))))))))), fun j hj => (uI_o (show ¬ (15 = 1 ∧ j = 11) from fun e => absurd e.1 (by decide))).trans ((cI_o (show ¬ 15 = 19 from by decide)).trans ((uI_o (show ¬ (15 = 12 ∧ j = 6) from fun e => absurd e.1 (by decide))).trans ((cI_o (show ¬ 15 = 18 from by decide)).trans ((cI_o (show ¬ 15 = 17 from by decide)).trans ((cI_o (show ¬ 15 = 16 from by decide)).trans ((cI_hit hj).trans ((cI_o (show ¬ 116 = 14 from by decide)).trans ((cI_o (show ¬ 116 = 13 from by decide)).trans ((cI_o (show ¬ 116 = 11 from by decide)).trans ((cI_o (show ¬ 116 = 10 from by decide)).trans ((cI_o (show ¬ 116 = 9 from by decide)).trans ((cI_o (show ¬ 116 = 8 from by decide)).trans ((uI_o (show ¬ (116 = 1 ∧ j = 7) from fun e => absurd e.1 (by decide))).trans ((cI_o (show ¬ 116 = 6 from by decide)).trans ((uI_o (show ¬ (116 = 1 ∧ j = 5) from fun e => absurd e.1 (by decide))).trans ((cI_o (show ¬ 116 = 5 from by decide)).trans ((cI_o (show ¬ 116 = 4 from by decide)).trans ((hV10 116 j (by omega)).trans ((hV4 116 j (by omega)).trans (uI_o (show ¬ (116 = 1 ∧ j = 1) from fun e => absurd e.1 (by decide)))))))))))))))))))))), fun j hj => (uI_o (show ¬ (16 = 1 ∧ j = 11) from fun e => absurd e.1 (by decide))).trans ((cI_o (show ¬ 16 = 19 from by decide)).trans ((uI_o (show ¬ (16 = 12 ∧ j = 6) from fun e => absurd e.1 (by decide))).trans ((cI_o (show ¬ 16 = 18 from by decide)).trans ((cI_o (show ¬ 16 = 17 from by decide)).trans ((cI_hit hj).trans ((cI_o (show ¬ 117 = 15 from by decide)).trans ((cI_o (show ¬ 117 = 14 from by decide)).trans ((cI_o (show ¬ 117 = 13 from by decide)).trans ((cI_o (show ¬ 117 = 11 from by decide)).trans ((cI_o (show ¬ 117 = 10 from by decide)).trans ((cI_o (show ¬ 117 = 9 from by decide)).trans ((cI_o (show ¬ 117 = 8 from by decide)).trans ((uI_o (show ¬ (117 = 1 ∧ j = 7) from fun e => absurd e.1 (by decide))).trans ((cI_o (show ¬ 117 = 6 from by decide)).trans ((uI_o (show ¬ (117 = 1 ∧ j = 5) from fun e => absurd e.1 (by decide))).trans ((cI_o (show ¬ 117 = 5 from by decide)).trans ((cI_o (show ¬ 117 = 4 from by decide)).trans ((hV10 117 j (by omega)).trans ((hV4 117 j (by omega)).trans (uI_o (show ¬ (117 = 1 ∧ j = 1) from fun e => absurd e.1 (by decide)))))))))))))))))))))), fun j hj => (uI_o (show ¬ (17 = 1 ∧ j = 11) from fun e => absurd e.1 (by decide))).trans ((cI_o (show ¬ 17 = 19 from by decide)).trans ((uI_o (show ¬ (17 = 12 ∧ j = 6) from fun e => absurd e.1 (by decide))).trans ((cI_o (show ¬ 17 = 18 from by decide)).trans ((cI_hit hj).trans ((cI_o (show ¬ 118 = 16 from by decide)).trans ((cI_o (show ¬ 118 = 15 from by decide)).trans ((cI_o (show ¬ 118 = 14 from by decide)).trans ((cI_o (show ¬ 118 = 13 from by decide)).trans ((cI_o (show ¬ 118 = 11 from by decide)).trans ((cI_o (show ¬ 118 = 10 from by decide)).trans ((cI_o (show ¬ 118 = 9 from by decide)).trans ((cI_o (show ¬ 118 = 8 from by decide)).trans ((uI_o (show ¬ (118 = 1 ∧ j = 7) from fun e => absurd e.1 (by decide))).trans ((cI_o (show ¬ 118 = 6 from by decide)).trans ((uI_o (show ¬ (118 = 1 ∧ j = 5) from fun e => absurd e.1 (by decide))).trans ((cI_o (show ¬ 118 = 5 from by decide)).trans ((cI_o (show ¬ 118 = 4 from by decide)).trans ((hV10 118 j (by omega)).trans ((hV4 118 j (by omega)).trans (uI_o (show ¬ (118 = 1 ∧ j = 1) from fun e => absurd e.1 (by decide)))))))))))))))))))))), fun j hj => (uI_o (show ¬ (18 = 1 ∧ j = 11) from fun e => absurd e.1 (by decide))).trans ((cI_o (show ¬ 18 = 19 from by decide)).trans ((uI_o (show ¬ (18 = 12 ∧ j = 6) from fun e => absurd e.1 (by decide))).trans ((cI_hit hj).trans ((cI_o (show ¬ 119 = 17 from by decide)).trans ((cI_o (show ¬ 119 = 16 from by decide)).trans ((cI_o (show ¬ 119 = 15 from by decide)).trans ((cI_o (show ¬ 119 = 14 from by decide)).trans ((cI_o (show ¬ 119 = 13 from by decide)).trans ((cI_o (show ¬ 119 = 11 from by decide)).trans ((cI_o (show ¬ 119 = 10 from by decide)).trans ((cI_o (show ¬ 119 = 9 from by decide)).trans ((cI_o (show ¬ 119 = 8 from by decide)).trans ((uI_o (show ¬ (119 = 1 ∧ j = 7) from fun e => absurd e.1 (by decide))).trans ((cI_o (show ¬ 119 = 6 from by decide)).trans ((uI_o (show ¬ (119 = 1 ∧ j = 5) from fun e => absurd e.1 (by decide))).trans ((cI_o (show ¬ 119 = 5 from by decide)).trans ((cI_o (show ¬ 119 = 4 from by decide)).trans ((hV10 119 j (by omega)).trans ((hV4 119 j (by omega)).trans (uI_o (show ¬ (119 = 1 ∧ j = 1) from fun e => absurd e.1 (by decide)))))))))))))))))))))), fun j hj => (uI_o (show ¬ (19 = 1 ∧ j = 11) from fun e => absurd e.1 (by decide))).trans ((cI_hit hj).trans ((uI_o (show ¬ (120 = 12 ∧ j = 6) from fun e => absurd e.1 (by decide))).trans ((cI_o (show ¬ 120 = 18 from by decide)).trans ((cI_o (show ¬ 120 = 17 from by decide)).trans ((cI_o (show ¬ 120 = 16 from by decide)).trans ((cI_o (show ¬ 120 = 15 from by decide)).trans ((cI_o (show ¬ 120 = 14 from by decide)).trans ((cI_o (show ¬ 120 = 13 from by decide)).trans ((cI_o (show ¬ 120 = 11 from by decide)).trans ((cI_o (show ¬ 120 = 10 from by decide)).trans ((cI_o (show ¬ 120 = 9 from by decide)).trans ((cI_o (show ¬ 120 = 8 from by decide)).trans ((uI_o (show ¬ (120 = 1 ∧ j = 7) from fun e => absurd e.1 (by decide))).trans ((cI_o (show ¬ 120 = 6 from by decide)).trans ((uI_o (show ¬ (120 = 1 ∧ j = 5) from fun e => absurd e.1 (by decide))).trans ((cI_o (show ¬ 120 = 5 from by decide)).trans ((cI_o (show ¬ 120 = 4 from by decide)).trans ((hV10 120 j (by omega)).trans ((hV4 120 j (by omega)).trans (uI_o (show ¬ (120 = 1 ∧ j = 1) from fun e => absurd e.1 (by decide))))))))))))))))))))))⟩) (fun p hpp => PCP_f (hP5 p hpp) (fun k j _ _ => (uI_o (show ¬ (k = 1 ∧ j = 11) from by omega)).trans ((cI_o (show ¬ k = 19 from by omega)).trans ((uI_o (show ¬ (k = 12 ∧ j = 6) from by omega)).trans ((cI_o (show ¬ k = 18 from by omega)).trans ((cI_o (show ¬ k = 17 from by omega)).trans ((cI_o (show ¬ k = 16 from by omega)).trans ((cI_o (show ¬ k = 15 from by omega)).trans ((cI_o (show ¬ k = 14 from by omega)).trans ((cI_o (show ¬ k = 13 from by omega)).trans ((cI_o (show ¬ k = 11 from by omega)).trans ((cI_o (show ¬ k = 10 from by omega)).trans ((cI_o (show ¬ k = 9 from by omega)).trans ((cI_o (show ¬ k = 8 from by omega)).trans ((uI_o (show ¬ (k = 1 ∧ j = 7) from by omega)).trans ((cI_o (show ¬ k = 6 from by omega)).trans ((uI_o (show ¬ (k = 1 ∧ j = 5) from by omega)).trans ((cI_o (show ¬ k = 5 from by omega)).trans ((cI_o (show ¬ k = 4 from by omega)).trans (hV10 k j (by omega)))))))))))))))))))) (fun k j _ _ => (uI_o (show ¬ (k = 1 ∧ j = 1) from by omega)).symm)) (fun p hpp => GCP_f (hP11 p hpp) (fun k j _ _ => (uI_o (show ¬ (k = 1 ∧ j = 11) from by omega)).trans ((cI_o (show ¬ k = 19 from by omega)).trans ((uI_o (show ¬ (k = 12 ∧ j = 6) from by omega)).trans ((cI_o (show ¬ k = 18 from by omega)).trans ((cI_o (show ¬ k = 17 from by omega)).trans ((cI_o (show ¬ k = 16 from by omega)).trans ((cI_o (show ¬ k = 15 from by omega)).trans ((cI_o (show ¬ k = 14 from by omega)).trans ((cI_o (show ¬ k = 13 from by omega)).trans ((cI_o (show ¬ k = 11 from by omega)).trans ((cI_o (show ¬ k = 10 from by omega)).trans ((cI_o (show ¬ k = 9 from by omega)).trans ((cI_o (show ¬ k = 8 from by omega)).trans ((uI_o (show ¬ (k = 1 ∧ j = 7) from by omega)).trans ((cI_o (show ¬ k = 6 from by omega)).trans ((uI_o (show ¬ (k = 1 ∧ j = 5) from by omega)).trans ((cI_o (show ¬ k = 5 from by omega)).trans (cI_o (show ¬ k = 4 from by omega))))))))))))))))))) (fun k j _ _ => ((hV4 k j (by omega)).trans (uI_o (show ¬ (k = 1 ∧ j = 1) from by omega))).symm))⟩
theorem GCA_u {J I : pI} {v : Int} (h : ∀ p : Nat, p < 4 → GCP (102 + 89 + 3 * p) (1 + 89 + 3 * p) J I) : ∀ p : Nat, p < 4 → GCP (102 + 89 + 3 * p) (1 + 89 + 3 * p) (uI J 0 2 v) I :=
  fun p hp => GCP_f (h p hp) (fun k j _ _ => uI_o (by omega)) (fun _ _ _ _ => rfl)
theorem c_image9 (hF : FS F) (hR : Rg I)  (hQ : ∀ (r : Int) (I' : pI), Rg I' → AR I' → iR r → (∀ k j, ¬ (k = 203 ∨ (102 ≤ k ∧ k < 203) ∨ (k = 0 ∧ (j = 2))) → I' k j = I k j) → (r = wr ((I 0 2) + 1)) → ((I' 0 2) = wr ((I 0 2) + 1)) → ((I' 102 1) = (I 1 1)) → ((I' 102 5) = (I 1 5)) → ((I' 102 7) = (I 1 7)) → ((I' 102 11) = (I 1 11)) → ((I' 113 6) = (I 12 6)) → (CP 102 1 I' I) → (∀ p : Nat, p < 14 → PCP (102 + 19 + 5 * p) (1 + 19 + 5 * p) I' I) → (∀ p : Nat, p < 4 → GCP (102 + 89 + 3 * p) (1 + 89 + 3 * p) I' I) → Q (some (vi r)) F I') : CallN G (d + 4) kX11_image [vr 0] NP F I Q := by
  refine CallN_in (fun hok hA => CallN_out ?_)
  refine Call_wp (lv := [some (vr 0)]) (by decide) ckX11_image [] rfl rfl ?_
  refine ⟨_, rfl, (by decide), ?_⟩
  refine fun w0 hw0 => ?_; obtain rfl : w0 = some 102 := hw0.symm.trans (FS.g hF rfl)
  refine ⟨_, rfl, (by decide), ?_⟩
  refine fun w0 hw0 => ?_; obtain rfl : w0 = some 1 := hw0.symm.trans (FS.g hF rfl)
  refine ⟨⟨_, rfl, (by decide)⟩, ?_⟩
  refine c_scopy9_102  hF hR (fun I1 hR2 hA3 hW4 q5 q6 q7 q8 q9 qr10 qr11 qr12 => ?_)
  have a13 : -2147483648 ≤ (I 1 1) ∧ (I 1 1) < 2147483648 := hA.1 _ _
  have q5 : (I1 102 1) = (I 1 1) := q5
  have a14 : -2147483648 ≤ (I 1 5) ∧ (I 1 5) < 2147483648 := hA.1 _ _
  have q6 : (I1 102 5) = (I 1 5) := q6
  have r15 : 0 ≤ (I 1 7) ∧ (I 1 7) ≤ 1 := hR.b (c := 8) (m := 12) rfl (by decide) ⟨by decide, by decide⟩
  have q7 : (I1 102 7) = (I 1 7) := q7
  have a17 : -2147483648 ≤ (I 1 11) ∧ (I 1 11) < 2147483648 := hA.1 _ _
  have q8 : (I1 102 11) = (I 1 11) := q8
  have a18 : -2147483648 ≤ (I 12 6) ∧ (I 12 6) < 2147483648 := hA.1 _ _
  have q9 : (I1 113 6) = (I 12 6) := q9
  refine ⟨_, rfl, (by decide), ?_⟩
  have u19 : (I1 0 2) = (I 0 2) := hW4 _ _ (by first | decide | omega)
  have a20 : -2147483648 ≤ (I 0 2) ∧ (I 0 2) < 2147483648 := hA.1 _ _
  have a21 : -2147483648 ≤ (I1 0 2) ∧ (I1 0 2) < 2147483648 := hA3.1 _ _
  refine ⟨_, rfl, (by decide), ?_⟩
  refine ⟨_, rfl, (by decide), ?_⟩
  have n22 : -2147483648 ≤ (wr ((I1 0 2) + 1)) ∧ (wr ((I1 0 2) + 1)) < 2147483648 := wr_R _
  have a23 : -2147483648 ≤ (I1 102 1) ∧ (I1 102 1) < 2147483648 := hA3.1 _ _
  have a24 : -2147483648 ≤ (I1 102 5) ∧ (I1 102 5) < 2147483648 := hA3.1 _ _
  have r25 : 0 ≤ (I1 102 7) ∧ (I1 102 7) ≤ 1 := hR2.b (c := 8) (m := 12) rfl (by decide) ⟨by decide, by decide⟩
  have a27 : -2147483648 ≤ (I1 102 11) ∧ (I1 102 11) < 2147483648 := hA3.1 _ _
  have a28 : -2147483648 ≤ (I1 113 6) ∧ (I1 113 6) < 2147483648 := hA3.1 _ _
  exact ⟨rfl, fun hv hA' => hQ _ _ (Rg.u hR2 (Pr_f rfl)) hA' (hv _ rfl) (fun ka ja hk => ((uI_o (show ¬ (ka = 0 ∧ ja = 2) from by first | (intro e; obtain ⟨rfl, rfl⟩ := e; exact hk (by decide)) | omega))).trans ((hW4 ka ja (by omega)))) (show (wr ((I1 0 2) + 1)) = wr ((I 0 2) + 1) from by first | omega | (simp only [wr, wl] at *; omega)) (show (wr ((I1 0 2) + 1)) = wr ((I 0 2) + 1) from by first | omega | (simp only [wr, wl] at *; omega)) (show (I1 102 1) = (I 1 1) from by first | omega | (simp only [wr, wl] at *; omega)) (show (I1 102 5) = (I 1 5) from by first | omega | (simp only [wr, wl] at *; omega)) (show (I1 102 7) = (I 1 7) from by first | omega | (simp only [wr, wl] at *; omega)) (show (I1 102 11) = (I 1 11) from by first | omega | (simp only [wr, wl] at *; omega)) (show (I1 113 6) = (I 12 6) from by first | omega | (simp only [wr, wl] at *; omega)) (CP_u qr10) (PCA_u qr11) (GCA_u qr12)⟩
theorem c_restore9 (hF : FS F) (hR : Rg I)  (hQ : ∀ (r : Int) (I' : pI), Rg I' → AR I' → iR r → (∀ k j, ¬ (k = 203 ∨ (1 ≤ k ∧ k < 102)) → I' k j = I k j) → (¬ (I 0 2) = 0 → (I' 1 1) = (I 102 1)) → (¬ (I 0 2) = 0 → (I' 1 5) = (I 102 5)) → (¬ (I 0 2) = 0 → (I' 1 7) = (I 102 7)) → (¬ (I 0 2) = 0 → (I' 1 11) = (I 102 11)) → (¬ (I 0 2) = 0 → (I' 12 6) = (I 113 6)) → (¬ (I 0 2) = 0 → r = (I 102 1)) → ((I 0 2) = 0 → r = -1000002) → ((I 0 2 = 0 → ∀ k j, k ≠ 203 → I' k j = I k j) ∧ (¬ I 0 2 = 0 → CP 1 102 I' I)) → (¬ I 0 2 = 0 → ∀ p : Nat, p < 14 → PCP (1 + 19 + 5 * p) (102 + 19 + 5 * p) I' I) → (¬ I 0 2 = 0 → ∀ p : Nat, p < 4 → GCP (1 + 89 + 3 * p) (102 + 89 + 3 * p) I' I) → Q (some (vi r)) F I') : CallN G (d + 4) kX11_restore [vr 0] NP F I Q := by
  refine CallN_in (fun hok hA => CallN_out ?_)
  refine Call_wp (lv := [some (vr 0)]) (by decide) ckX11_restore [] rfl rfl ?_
  refine ⟨_, rfl, (by decide), ?_⟩
  have a1 : -2147483648 ≤ (I 0 2) ∧ (I 0 2) < 2147483648 := hA.1 _ _
  refine ⟨fun (c2 : (¬ ((I 0 2) : Int) = 0)) => ?_, fun (c2 : (((I 0 2) : Int) = 0)) => ?_⟩
  ·
    refine ⟨_, rfl, (by decide), ?_⟩
    refine fun w0 hw0 => ?_; obtain rfl : w0 = some 1 := hw0.symm.trans (FS.g hF rfl)
    refine ⟨_, rfl, (by decide), ?_⟩
    refine fun w0 hw0 => ?_; obtain rfl : w0 = some 102 := hw0.symm.trans (FS.g hF rfl)
    refine ⟨⟨_, rfl, (by decide)⟩, ?_⟩
    refine c_scopy9_1  hF hR (fun I3 hR4 hA5 hW6 q7 q8 q9 q10 q11 qr12 qr13 qr14 => ?_)
    have a15 : -2147483648 ≤ (I 102 1) ∧ (I 102 1) < 2147483648 := hA.1 _ _
    have q7 : (I3 1 1) = (I 102 1) := q7
    have a16 : -2147483648 ≤ (I 102 5) ∧ (I 102 5) < 2147483648 := hA.1 _ _
    have q8 : (I3 1 5) = (I 102 5) := q8
    have r17 : 0 ≤ (I 102 7) ∧ (I 102 7) ≤ 1 := hR.b (c := 8) (m := 12) rfl (by decide) ⟨by decide, by decide⟩
    have q9 : (I3 1 7) = (I 102 7) := q9
    have a19 : -2147483648 ≤ (I 102 11) ∧ (I 102 11) < 2147483648 := hA.1 _ _
    have q10 : (I3 1 11) = (I 102 11) := q10
    have a20 : -2147483648 ≤ (I 113 6) ∧ (I 113 6) < 2147483648 := hA.1 _ _
    have q11 : (I3 12 6) = (I 113 6) := q11
    refine ⟨_, rfl, (by decide), ?_⟩
    refine fun w0 hw0 => ?_; obtain rfl : w0 = some 1 := hw0.symm.trans (FS.g hF rfl)
    refine ⟨⟨_, rfl, (by decide)⟩, ?_⟩
    refine Call_wp (lv := [some (vr 1)]) (by decide) ckX8_pieces [] rfl rfl ?_
    refine ⟨_, rfl, (by decide), ?_⟩
    refine ⟨rfl, ?_⟩
    have a21 : -2147483648 ≤ (I3 1 1) ∧ (I3 1 1) < 2147483648 := hA5.1 _ _
    have a22 : -2147483648 ≤ (I3 1 5) ∧ (I3 1 5) < 2147483648 := hA5.1 _ _
    have r23 : 0 ≤ (I3 1 7) ∧ (I3 1 7) ≤ 1 := hR4.b (c := 8) (m := 12) rfl (by decide) ⟨by decide, by decide⟩
    have a25 : -2147483648 ≤ (I3 1 11) ∧ (I3 1 11) < 2147483648 := hA5.1 _ _
    have a26 : -2147483648 ≤ (I3 12 6) ∧ (I3 12 6) < 2147483648 := hA5.1 _ _
    exact ⟨rfl, fun hv hA' => hQ _ _ hR4 hA' (hv _ rfl) (fun ka ja hk => (hW6 ka ja (by omega))) (show ¬ (I 0 2) = 0 → (I3 1 1) = (I 102 1) from by first | with_reducible assumption | omega | (simp only [wr, wl] at *; omega)) (show ¬ (I 0 2) = 0 → (I3 1 5) = (I 102 5) from by first | with_reducible assumption | omega | (simp only [wr, wl] at *; omega)) (show ¬ (I 0 2) = 0 → (I3 1 7) = (I 102 7) from by first | with_reducible assumption | omega | (simp only [wr, wl] at *; omega)) (show ¬ (I 0 2) = 0 → (I3 1 11) = (I 102 11) from by first | with_reducible assumption | omega | (simp only [wr, wl] at *; omega)) (show ¬ (I 0 2) = 0 → (I3 12 6) = (I 113 6) from by first | with_reducible assumption | omega | (simp only [wr, wl] at *; omega)) (show ¬ (I 0 2) = 0 → (I3 1 1) = (I 102 1) from by first | with_reducible assumption | omega | (simp only [wr, wl] at *; omega)) (show (I 0 2) = 0 → (I3 1 1) = -1000002 from by first | with_reducible assumption | omega | (simp only [wr, wl] at *; omega)) (⟨fun h => absurd h (by omega), fun _ => qr12⟩) (fun _ => qr13) (fun _ => qr14)⟩
  ·
    refine ⟨⟨_, rfl, (by decide)⟩, ?_⟩
    refine s_X11_refuse hF (e := 2) (by decide) ?_
    have a27 : -2147483648 ≤ (I 1 1) ∧ (I 1 1) < 2147483648 := hA.1 _ _
    have a28 : -2147483648 ≤ (I 102 1) ∧ (I 102 1) < 2147483648 := hA.1 _ _
    have a29 : -2147483648 ≤ (I 1 5) ∧ (I 1 5) < 2147483648 := hA.1 _ _
    have a30 : -2147483648 ≤ (I 102 5) ∧ (I 102 5) < 2147483648 := hA.1 _ _
    have r31 : 0 ≤ (I 1 7) ∧ (I 1 7) ≤ 1 := hR.b (c := 8) (m := 12) rfl (by decide) ⟨by decide, by decide⟩
    have r33 : 0 ≤ (I 102 7) ∧ (I 102 7) ≤ 1 := hR.b (c := 8) (m := 12) rfl (by decide) ⟨by decide, by decide⟩
    have a35 : -2147483648 ≤ (I 1 11) ∧ (I 1 11) < 2147483648 := hA.1 _ _
    have a36 : -2147483648 ≤ (I 102 11) ∧ (I 102 11) < 2147483648 := hA.1 _ _
    have a37 : -2147483648 ≤ (I 12 6) ∧ (I 12 6) < 2147483648 := hA.1 _ _
    have a38 : -2147483648 ≤ (I 113 6) ∧ (I 113 6) < 2147483648 := hA.1 _ _
    exact ⟨rfl, fun hv hA' => hQ _ _ (Rg.u hR (Pr_f rfl)) hA' (hv _ rfl) (fun ka ja hk => (uI_o (show ¬ (ka = 203 ∧ ja = 2) from by first | (intro e; obtain ⟨rfl, rfl⟩ := e; exact hk (by decide)) | omega))) (show ¬ (I 0 2) = 0 → (I 1 1) = (I 102 1) from by first | with_reducible assumption | omega | (simp only [wr, wl] at *; omega)) (show ¬ (I 0 2) = 0 → (I 1 5) = (I 102 5) from by first | with_reducible assumption | omega | (simp only [wr, wl] at *; omega)) (show ¬ (I 0 2) = 0 → (I 1 7) = (I 102 7) from by first | with_reducible assumption | omega | (simp only [wr, wl] at *; omega)) (show ¬ (I 0 2) = 0 → (I 1 11) = (I 102 11) from by first | with_reducible assumption | omega | (simp only [wr, wl] at *; omega)) (show ¬ (I 0 2) = 0 → (I 12 6) = (I 113 6) from by first | with_reducible assumption | omega | (simp only [wr, wl] at *; omega)) (show ¬ (I 0 2) = 0 → (-1000002) = (I 102 1) from by first | with_reducible assumption | omega | (simp only [wr, wl] at *; omega)) (show (I 0 2) = 0 → (-1000002) = -1000002 from by first | with_reducible assumption | omega | (simp only [wr, wl] at *; omega)) (⟨fun _ ka ja hk => uI_o (fun e => hk e.1), fun h => absurd (by omega) h⟩) (fun h => absurd (by omega) h) (fun h => absurd (by omega) h)⟩
end IM9
