/-! the class finds the line, and where it yields. Own work (scripts laid by wip/pm/gen34.py). -/
section CL11
variable {G : pG} {d : Nat} {F : pF} {I : pI} {Q : Option pV → pF → pI → Prop}
theorem c_bel11 (hF : FS F) (hR : Rg I) {v0 v1 v2 v3 : Int} {rd : Nat} (hr : RP F rd) {S L : Nat → Int} {N : Int} (hq : RDS I rd S L N) (h0 : 0 ≤ v0 ∧ v0 < N) (h1 : 0 ≤ v1 ∧ v1 < N) (h2 : 0 ≤ v2 ∧ v2 < N) (h3 : 0 ≤ v3 ∧ v3 ≤ 999) (hQ : ∀ r : Int, lR r → (r = blF S L (Int.toNat v0) (Int.toNat v1) (Int.toNat v2) v3 ∧ -4100400000000 ≤ r ∧ r ≤ 4100400000000) → Q (some (vl r)) F I) : CallN G (d + 1) kX6_belowLine [vr rd, vi v0, vi v1, vi v2, vi v3] NP F I Q := by
  refine CallN_in (fun hok hA => CallN_out ?_)
  have iv0 : -2147483648 ≤ v0 ∧ v0 < 2147483648 := hok (vi v0) (by simp)
  have iv1 : -2147483648 ≤ v1 ∧ v1 < 2147483648 := hok (vi v1) (by simp)
  have iv2 : -2147483648 ≤ v2 ∧ v2 < 2147483648 := hok (vi v2) (by simp)
  have iv3 : -2147483648 ≤ v3 ∧ v3 < 2147483648 := hok (vi v3) (by simp)
  have hN := hq.2.2.1
  refine Call_wp (lv := [some (vr rd), some (vi v0), some (vi v1), some (vi v2), some (vi v3), none, none, none, none, none, none, none, none]) (by decide) ckX6_belowLine [] rfl rfl ?_
  refine ⟨⟨_, hr.1.1, (by have := hr.2; show _ < 254; omega)⟩, ?_⟩
  refine c_st11 (v0 := v1) hF hR hr hq (by omega) (fun vr1 hr2 qr3 => ?_)
  have hr2 : -2147483648 ≤ vr1 ∧ vr1 < 2147483648 := hr2
  have b4 : (0 : Int) ≤ vr1 ∧ vr1 ≤ 5100000 := by rw [qr3]; exact hq.2.2.2.1 _
  refine ⟨⟨_, hr.1.1, (by have := hr.2; show _ < 254; omega)⟩, ?_⟩
  refine c_st11 (v0 := v0) hF hR hr hq (by omega) (fun vr5 hr6 qr7 => ?_)
  have hr6 : -2147483648 ≤ vr5 ∧ vr5 < 2147483648 := hr6
  have b8 : (0 : Int) ≤ vr5 ∧ vr5 ≤ 5100000 := by rw [qr7]; exact hq.2.2.2.1 _
  refine ⟨⟨_, hr.1.1, (by have := hr.2; show _ < 254; omega)⟩, ?_⟩
  refine c_ld11 (v0 := v1) hF hR hr hq (by omega) (fun vr9 hr10 qr11 => ?_)
  have hr10 : -2147483648 ≤ vr9 ∧ vr9 < 2147483648 := hr10
  have b12 : (-200000 : Int) ≤ vr9 ∧ vr9 ≤ 200000 := by rw [qr11]; exact hq.2.2.2.2 _
  refine ⟨⟨_, hr.1.1, (by have := hr.2; show _ < 254; omega)⟩, ?_⟩
  refine c_ld11 (v0 := v0) hF hR hr hq (by omega) (fun vr13 hr14 qr15 => ?_)
  have hr14 : -2147483648 ≤ vr13 ∧ vr13 < 2147483648 := hr14
  have b16 : (-200000 : Int) ≤ vr13 ∧ vr13 ≤ 200000 := by rw [qr15]; exact hq.2.2.2.2 _
  refine ⟨⟨_, hr.1.1, (by have := hr.2; show _ < 254; omega)⟩, ?_⟩
  refine c_st11 (v0 := v2) hF hR hr hq (by omega) (fun vr17 hr18 qr19 => ?_)
  have hr18 : -2147483648 ≤ vr17 ∧ vr17 < 2147483648 := hr18
  have b20 : (0 : Int) ≤ vr17 ∧ vr17 ≤ 5100000 := by rw [qr19]; exact hq.2.2.2.1 _
  refine ⟨⟨_, hr.1.1, (by have := hr.2; show _ < 254; omega)⟩, ?_⟩
  refine c_st11 (v0 := v0) hF hR hr hq (by omega) (fun vr21 hr22 qr23 => ?_)
  have hr22 : -2147483648 ≤ vr21 ∧ vr21 < 2147483648 := hr22
  have b24 : (0 : Int) ≤ vr21 ∧ vr21 ≤ 5100000 := by rw [qr23]; exact hq.2.2.2.1 _
  refine ⟨⟨_, hr.1.1, (by have := hr.2; show _ < 254; omega)⟩, ?_⟩
  refine c_ld11 (v0 := v2) hF hR hr hq (by omega) (fun vr25 hr26 qr27 => ?_)
  have hr26 : -2147483648 ≤ vr25 ∧ vr25 < 2147483648 := hr26
  have b28 : (-200000 : Int) ≤ vr25 ∧ vr25 ≤ 200000 := by rw [qr27]; exact hq.2.2.2.2 _
  refine ⟨⟨_, hr.1.1, (by have := hr.2; show _ < 254; omega)⟩, ?_⟩
  refine c_ld11 (v0 := v0) hF hR hr hq (by omega) (fun vr29 hr30 qr31 => ?_)
  have hr30 : -2147483648 ≤ vr29 ∧ vr29 < 2147483648 := hr30
  have b32 : (-200000 : Int) ≤ vr29 ∧ vr29 ≤ 200000 := by rw [qr31]; exact hq.2.2.2.2 _
  have n33 : (wr (vr1 - vr5)) = vr1 - vr5 := wr_id (show -2147483648 ≤ (vr1 - vr5 : Int) ∧ (vr1 - vr5 : Int) < 2147483648 from by omega)
  refine ⟨fun c34 => ?_, fun c34 => ?_⟩
  ·
    have c34 : ((0 : Int) ≤ (wr (vr1 - vr5))) := lcm_ge.1 c34
    have n35 : (wr (vr9 - vr13)) = vr9 - vr13 := wr_id (show -2147483648 ≤ (vr9 - vr13 : Int) ∧ (vr9 - vr13 : Int) < 2147483648 from by omega)
    have n36 : (wr (vr17 - vr21)) = vr17 - vr21 := wr_id (show -2147483648 ≤ (vr17 - vr21 : Int) ∧ (vr17 - vr21 : Int) < 2147483648 from by omega)
    have p37 := wlA hq.2.2.2 (i := Int.toNat v0) (j := Int.toNat v1) (k := Int.toNat v2) (x := (wr (vr9 - vr13))) (y := (wr (vr17 - vr21))) (by omega) (by omega)
    have n38 : (wr (vr25 - vr29)) = vr25 - vr29 := wr_id (show -2147483648 ≤ (vr25 - vr29 : Int) ∧ (vr25 - vr29 : Int) < 2147483648 from by omega)
    have n39 : (wr ((wr (vr25 - vr29)) + v3)) = (wr (vr25 - vr29)) + v3 := wr_id (show -2147483648 ≤ ((wr (vr25 - vr29)) + v3 : Int) ∧ ((wr (vr25 - vr29)) + v3 : Int) < 2147483648 from by omega)
    have p40 := wlB hq.2.2.2 (i := Int.toNat v0) (j := Int.toNat v1) (k := Int.toNat v2) (o := v3) (x := (wr ((wr (vr25 - vr29)) + v3))) (y := (wr (vr1 - vr5))) (by omega) (by omega) h3
    have n41 : (wl ((wl ((wr (vr9 - vr13)) * (wr (vr17 - vr21)))) - (wl ((wr ((wr (vr25 - vr29)) + v3)) * (wr (vr1 - vr5)))))) = (wl ((wr (vr9 - vr13)) * (wr (vr17 - vr21)))) - (wl ((wr ((wr (vr25 - vr29)) + v3)) * (wr (vr1 - vr5)))) := wl_id (show -9223372036854775808 ≤ ((wl ((wr (vr9 - vr13)) * (wr (vr17 - vr21)))) - (wl ((wr ((wr (vr25 - vr29)) + v3)) * (wr (vr1 - vr5)))) : Int) ∧ ((wl ((wr (vr9 - vr13)) * (wr (vr17 - vr21)))) - (wl ((wr ((wr (vr25 - vr29)) + v3)) * (wr (vr1 - vr5)))) : Int) < 9223372036854775808 from by omega)
    exact ⟨rfl, fun hv hA' => hQ _ (hv _ rfl) ((by
                              have e := bl_v (S := S) (L := L) (i := Int.toNat v0) (j := Int.toNat v1) (k := Int.toNat v2) (o := v3)
                              omega))⟩
  ·
    have c34 : (¬ ((0 : Int) ≤ (wr (vr1 - vr5)))) := fun e => c34 (lcm_ge.2 e)
    have n42 : (wr (vr9 - vr13)) = vr9 - vr13 := wr_id (show -2147483648 ≤ (vr9 - vr13 : Int) ∧ (vr9 - vr13 : Int) < 2147483648 from by omega)
    have n43 : (wr (vr17 - vr21)) = vr17 - vr21 := wr_id (show -2147483648 ≤ (vr17 - vr21 : Int) ∧ (vr17 - vr21 : Int) < 2147483648 from by omega)
    have p44 := wlA hq.2.2.2 (i := Int.toNat v0) (j := Int.toNat v1) (k := Int.toNat v2) (x := (wr (vr9 - vr13))) (y := (wr (vr17 - vr21))) (by omega) (by omega)
    have n45 : (wr (vr25 - vr29)) = vr25 - vr29 := wr_id (show -2147483648 ≤ (vr25 - vr29 : Int) ∧ (vr25 - vr29 : Int) < 2147483648 from by omega)
    have n46 : (wr ((wr (vr25 - vr29)) + v3)) = (wr (vr25 - vr29)) + v3 := wr_id (show -2147483648 ≤ ((wr (vr25 - vr29)) + v3 : Int) ∧ ((wr (vr25 - vr29)) + v3 : Int) < 2147483648 from by omega)
    have p47 := wlB hq.2.2.2 (i := Int.toNat v0) (j := Int.toNat v1) (k := Int.toNat v2) (o := v3) (x := (wr ((wr (vr25 - vr29)) + v3))) (y := (wr (vr1 - vr5))) (by omega) (by omega) h3
    have n48 : (wl ((wl ((wr (vr9 - vr13)) * (wr (vr17 - vr21)))) - (wl ((wr ((wr (vr25 - vr29)) + v3)) * (wr (vr1 - vr5)))))) = (wl ((wr (vr9 - vr13)) * (wr (vr17 - vr21)))) - (wl ((wr ((wr (vr25 - vr29)) + v3)) * (wr (vr1 - vr5)))) := wl_id (show -9223372036854775808 ≤ ((wl ((wr (vr9 - vr13)) * (wr (vr17 - vr21)))) - (wl ((wr ((wr (vr25 - vr29)) + v3)) * (wr (vr1 - vr5)))) : Int) ∧ ((wl ((wr (vr9 - vr13)) * (wr (vr17 - vr21)))) - (wl ((wr ((wr (vr25 - vr29)) + v3)) * (wr (vr1 - vr5)))) : Int) < 9223372036854775808 from by omega)
    exact ⟨rfl, fun hv hA' => hQ _ (hv _ rfl) ((by
                              have e3 : (wl (- (wl ((wl ((wr (vr9 - vr13)) * (wr (vr17 - vr21)))) - (wl ((wr ((wr (vr25 - vr29)) + v3)) * (wr (vr1 - vr5)))))))) = -(wl ((wl ((wr (vr9 - vr13)) * (wr (vr17 - vr21)))) - (wl ((wr ((wr (vr25 - vr29)) + v3)) * (wr (vr1 - vr5)))))) := wl_id (by unfold lR; omega)
                              have e := bl_v (S := S) (L := L) (i := Int.toNat v0) (j := Int.toNat v1) (k := Int.toNat v2) (o := v3)
                              omega))⟩
theorem c_try11_l (hF : FS F) (hR : Rg I) {v0 v1 : Int} {rd : Nat} (hr : RP F rd) {S L : Nat → Int} {N : Int} (hq : RDS I rd S L N) (h0 : 0 ≤ v0 ∧ v0 < N) (h1 : 0 ≤ v1 ∧ v1 < N) {T : Int × Int × Int} (hg : 0 ≤ L (Int.toNat v0) ∧ 0 ≤ L (Int.toNat v1) ∧ ¬ S (Int.toNat v0) = S (Int.toNat v1)) (hQ : ∀ (I' : pI), Rg I' → (∀ k j, ¬ (k = rd ∧ 3 ≤ j) → I' k j = I k j) → (LNC I' rd (trF S L (Int.toNat N) (Int.toNat v0) (Int.toNat v1) T)) → Q none F I') : ∀ (mz : Nat) (n k : Int) (J : pI), Rg J → (∀ k j, ¬ (k = rd ∧ 3 ≤ j) → J k j = I k j) → ((0 : Int) ≤ n) → ((n : Int) ≤ 24) → ((0 : Int) ≤ k) → ((k : Int) ≤ 24) → ((J rd 2) = N) → (k ≤ N) → (n ≤ k) → (n = lyF S L (Int.toNat v0) (Int.toNat v1) (Int.toNat k)) → (LNC J rd T) → (N - k).toNat < mz → GoN G (d + 2) kX6_tryLine NP NP 35 [some (vr rd), some (vi v0), some (vi v1), some (vi n), some (vi k)] [] F J Q := by
  intro mz
  induction mz with
  | zero => intro n k J hJ hV _ _ _ _ _ _ _ _ _ h; exact absurd h (Nat.not_lt_zero _)
  | succ mz ih =>
    intro n k J hJ hV cc100 cc101 cc102 cc103 cc104 cc105 cc106 cc107 cc108 hm
    refine GoN_in (fun hok hA => ?_)
    have iiv0 : -2147483648 ≤ v0 ∧ v0 < 2147483648 := hok 1 _ rfl
    have iiv1 : -2147483648 ≤ v1 ∧ v1 < 2147483648 := hok 2 _ rfl
    have iin : -2147483648 ≤ n ∧ n < 2147483648 := hok 3 _ rfl
    have iik : -2147483648 ≤ k ∧ k < 2147483648 := hok 4 _ rfl
    have hN := hq.2.2.1
    have z1 : (I rd 2) = N := hq.1
    have u2 : (J rd 2) = (I rd 2) := hV _ _ (by first | decide | omega)
    have a3 : -2147483648 ≤ (J rd 2) ∧ (J rd 2) < 2147483648 := hA.1 _ _
    have z4 : (J rd 2) = N := (RDS_f hq (fun ka ja hk => (hV ka ja (by omega)))).1
    refine Go_wp (by decide) ckX6_tryLine [35] ?_
    refine ⟨_, hr.1.1, (by have := hr.2; show _ < 254; omega), ?_⟩
    refine ⟨fun (c5 : (((J rd 2) : Int) ≤ k)) => ?_, fun (c5 : (¬ (((J rd 2) : Int) ≤ k))) => ?_⟩
    ·
      refine ⟨_, hr.1.1, (by have := hr.2; show _ < 254; omega), ?_⟩
      have a6 : -2147483648 ≤ (J rd 5) ∧ (J rd 5) < 2147483648 := hA.1 _ _
      refine ⟨fun (c7 : ((n : Int) ≤ (J rd 5))) => ?_, fun (c7 : (¬ ((n : Int) ≤ (J rd 5)))) => ?_⟩
      ·
        exact ⟨rfl, hQ _ hJ (fun ka ja hk => (hV ka ja (by omega))) ((by
                              have e := (cc108).1
                              have q := trF_n (S := S) (L := L) (n := Int.toNat N) (i := Int.toNat v0) (j := Int.toNat v1) (T := T) (by rw [show Int.toNat N = Int.toNat k from by omega]; omega)
                              rw [q]
                              exact cc108))⟩
      ·
        refine ⟨_, hr.1.1, (by have := hr.2; show _ < 254; omega), ?_⟩
        refine ⟨_, hr.1.1, (by have := hr.2; show _ < 254; omega), ?_⟩
        refine ⟨_, hr.1.1, (by have := hr.2; show _ < 254; omega), ?_⟩
        exact ⟨rfl, hQ _ (Rg.u (Rg.u (Rg.u hJ (Pr_l hr.1.1 (by have := hr.2; omega) _ _ (by decide))) (Pr_l hr.1.1 (by have := hr.2; omega) _ _ (by decide))) (Pr_l hr.1.1 (by have := hr.2; omega) _ _ (by decide))) (fun ka ja hk => ((uI_o (show ¬ (ka = rd ∧ ja = 5) from by have := hr.2; omega))).trans (((uI_o (show ¬ (ka = rd ∧ ja = 4) from by have := hr.2; omega))).trans (((uI_o (show ¬ (ka = rd ∧ ja = 3) from by have := hr.2; omega))).trans ((hV ka ja (by omega)))))) ((by
                              have e := (cc108).1
                              have f : lyF S L (Int.toNat v0) (Int.toNat v1) (Int.toNat N) = n := by rw [show Int.toNat N = Int.toNat k from by omega]; omega
                              have q := trF_y (S := S) (L := L) (n := Int.toNat N) (i := Int.toNat v0) (j := Int.toNat v1) (T := T) hg (by omega)
                              rw [q]
                              exact ⟨(uJ_eq).trans f.symm, fun _ => ⟨((uJ_ne (show ¬ 3 = 5 from Nat.ne_of_beq_eq_false rfl)).trans ((uJ_ne (show ¬ 3 = 4 from Nat.ne_of_beq_eq_false rfl)).trans (uJ_eq))).trans (by show v0 = ((Int.toNat v0 : Nat) : Int); omega), ((uJ_ne (show ¬ 4 = 5 from Nat.ne_of_beq_eq_false rfl)).trans (uJ_eq)).trans (by show v1 = ((Int.toNat v1 : Nat) : Int); omega)⟩⟩))⟩
    ·
      refine ⟨⟨_, hr.1.1, (by have := hr.2; show _ < 254; omega)⟩, ?_⟩
      refine c_gd11 (v0 := k) hF hJ hr (RDS_f hq (fun ka ja hk => (hV ka ja (by omega)))) (by omega) (fun vr8 hr9 qr10 => ?_)
      have hr9 : -2147483648 ≤ vr8 ∧ vr8 < 2147483648 := hr9
      refine ⟨fun (c11 : ((vr8 : Int) = 0)) => ?_, fun (c11 : (¬ ((vr8 : Int) = 0))) => ?_⟩
      ·
        have n12 : (wr (n + 0)) = n + 0 := wr_id (show -2147483648 ≤ (n + 0 : Int) ∧ (n + 0 : Int) < 2147483648 from by omega)
        have n13 : (wr (k + 1)) = k + 1 := wr_id (show -2147483648 ≤ (k + 1 : Int) ∧ (k + 1 : Int) < 2147483648 from by omega)
        exact ih (wr (n + 0)) (wr (k + 1)) J hJ (fun ka ja hk => (hV ka ja (by omega))) (show (0 : Int) ≤ (wr (n + 0)) from by first | with_reducible assumption | omega | (simp only [wr, wl] at *; omega)) (show ((wr (n + 0)) : Int) ≤ 24 from by first | with_reducible assumption | omega | (simp only [wr, wl] at *; omega)) (show (0 : Int) ≤ (wr (k + 1)) from by first | with_reducible assumption | omega | (simp only [wr, wl] at *; omega)) (show ((wr (k + 1)) : Int) ≤ 24 from by first | with_reducible assumption | omega | (simp only [wr, wl] at *; omega)) (show (J rd 2) = N from by first | omega | (simp only [wr, wl] at *; omega)) (show (wr (k + 1)) ≤ N from by first | with_reducible assumption | omega | (simp only [wr, wl] at *; omega)) (show (wr (n + 0)) ≤ (wr (k + 1)) from by first | with_reducible assumption | omega | (simp only [wr, wl] at *; omega)) (show (wr (n + 0)) = lyF S L (Int.toNat v0) (Int.toNat v1) (Int.toNat (wr (k + 1))) from (by
                              have ks := lyF_s (S := S) (L := L) (i := Int.toNat v0) (j := Int.toNat v1) (k := Int.toNat k)
                              rw [show Int.toNat (wr (k + 1)) = Int.toNat k + 1 from by omega]
                              first
                                | (rw [ks.1 (by omega) (by omega)]; omega)
                                | (rw [ks.2 (by omega)]; omega))) (show LNC J rd T from cc108) (show (N - (wr (k + 1))).toNat < mz from by omega)
      ·
        refine ⟨⟨_, hr.1.1, (by have := hr.2; show _ < 254; omega)⟩, ?_⟩
        refine c_bel11 (v0 := v0) (v1 := v1) (v2 := k) (v3 := 0) hF hJ hr (RDS_f hq (fun ka ja hk => (hV ka ja (by omega)))) (by omega) (by omega) (by omega) (by omega) (fun vr14 hr15 qr16 => ?_)
        have hr15 : -9223372036854775808 ≤ vr14 ∧ vr14 < 9223372036854775808 := hr15
        refine ⟨fun c17 => ?_, fun c17 => ?_⟩
        ·
          have c17 : (¬ (vr14 : Int) = 0) := fun e => c17 (lcm_eq.2 e)
          have n18 : (wr (n + 0)) = n + 0 := wr_id (show -2147483648 ≤ (n + 0 : Int) ∧ (n + 0 : Int) < 2147483648 from by omega)
          have n19 : (wr (k + 1)) = k + 1 := wr_id (show -2147483648 ≤ (k + 1 : Int) ∧ (k + 1 : Int) < 2147483648 from by omega)
          exact ih (wr (n + 0)) (wr (k + 1)) J hJ (fun ka ja hk => (hV ka ja (by omega))) (show (0 : Int) ≤ (wr (n + 0)) from by first | with_reducible assumption | omega | (simp only [wr, wl] at *; omega)) (show ((wr (n + 0)) : Int) ≤ 24 from by first | with_reducible assumption | omega | (simp only [wr, wl] at *; omega)) (show (0 : Int) ≤ (wr (k + 1)) from by first | with_reducible assumption | omega | (simp only [wr, wl] at *; omega)) (show ((wr (k + 1)) : Int) ≤ 24 from by first | with_reducible assumption | omega | (simp only [wr, wl] at *; omega)) (show (J rd 2) = N from by first | omega | (simp only [wr, wl] at *; omega)) (show (wr (k + 1)) ≤ N from by first | with_reducible assumption | omega | (simp only [wr, wl] at *; omega)) (show (wr (n + 0)) ≤ (wr (k + 1)) from by first | with_reducible assumption | omega | (simp only [wr, wl] at *; omega)) (show (wr (n + 0)) = lyF S L (Int.toNat v0) (Int.toNat v1) (Int.toNat (wr (k + 1))) from (by
                              have ks := lyF_s (S := S) (L := L) (i := Int.toNat v0) (j := Int.toNat v1) (k := Int.toNat k)
                              rw [show Int.toNat (wr (k + 1)) = Int.toNat k + 1 from by omega]
                              first
                                | (rw [ks.1 (by omega) (by omega)]; omega)
                                | (rw [ks.2 (by omega)]; omega))) (show LNC J rd T from cc108) (show (N - (wr (k + 1))).toNat < mz from by omega)
        ·
          have c17 : ((vr14 : Int) = 0) := lcm_eq.1 c17
          have n20 : (wr (n + 1)) = n + 1 := wr_id (show -2147483648 ≤ (n + 1 : Int) ∧ (n + 1 : Int) < 2147483648 from by omega)
          have n21 : (wr (k + 1)) = k + 1 := wr_id (show -2147483648 ≤ (k + 1 : Int) ∧ (k + 1 : Int) < 2147483648 from by omega)
          exact ih (wr (n + 1)) (wr (k + 1)) J hJ (fun ka ja hk => (hV ka ja (by omega))) (show (0 : Int) ≤ (wr (n + 1)) from by first | with_reducible assumption | omega | (simp only [wr, wl] at *; omega)) (show ((wr (n + 1)) : Int) ≤ 24 from by first | with_reducible assumption | omega | (simp only [wr, wl] at *; omega)) (show (0 : Int) ≤ (wr (k + 1)) from by first | with_reducible assumption | omega | (simp only [wr, wl] at *; omega)) (show ((wr (k + 1)) : Int) ≤ 24 from by first | with_reducible assumption | omega | (simp only [wr, wl] at *; omega)) (show (J rd 2) = N from by first | omega | (simp only [wr, wl] at *; omega)) (show (wr (k + 1)) ≤ N from by first | with_reducible assumption | omega | (simp only [wr, wl] at *; omega)) (show (wr (n + 1)) ≤ (wr (k + 1)) from by first | with_reducible assumption | omega | (simp only [wr, wl] at *; omega)) (show (wr (n + 1)) = lyF S L (Int.toNat v0) (Int.toNat v1) (Int.toNat (wr (k + 1))) from (by
                              have ks := lyF_s (S := S) (L := L) (i := Int.toNat v0) (j := Int.toNat v1) (k := Int.toNat k)
                              rw [show Int.toNat (wr (k + 1)) = Int.toNat k + 1 from by omega]
                              first
                                | (rw [ks.1 (by omega) (by omega)]; omega)
                                | (rw [ks.2 (by omega)]; omega))) (show LNC J rd T from cc108) (show (N - (wr (k + 1))).toNat < mz from by omega)
theorem c_try11 (hF : FS F) (hR : Rg I) {v0 v1 : Int} {rd : Nat} (hr : RP F rd) {S L : Nat → Int} {N : Int} (hq : RDS I rd S L N) (h0 : 0 ≤ v0 ∧ v0 < N) (h1 : 0 ≤ v1 ∧ v1 < N) {T : Int × Int × Int} (hT : LNC I rd T) (hQ : ∀ (I' : pI), Rg I' → AR I' → (∀ k j, ¬ (k = rd ∧ 3 ≤ j) → I' k j = I k j) → (LNC I' rd (trF S L (Int.toNat N) (Int.toNat v0) (Int.toNat v1) T)) → Q none F I') : CallN G (d + 2) kX6_tryLine [vr rd, vi v0, vi v1] NP F I Q := by
  refine CallN_in (fun hok hA => CallN_out ?_)
  have iv0 : -2147483648 ≤ v0 ∧ v0 < 2147483648 := hok (vi v0) (by simp)
  have iv1 : -2147483648 ≤ v1 ∧ v1 < 2147483648 := hok (vi v1) (by simp)
  have hN := hq.2.2.1
  refine Call_wp (lv := [some (vr rd), some (vi v0), some (vi v1), none, none]) (by decide) ckX6_tryLine [35] rfl rfl ?_
  refine ⟨⟨_, hr.1.1, (by have := hr.2; show _ < 254; omega)⟩, ?_⟩
  refine c_gd11 (v0 := v0) hF hR hr hq (by omega) (fun vr1 hr2 qr3 => ?_)
  have hr2 : -2147483648 ≤ vr1 ∧ vr1 < 2147483648 := hr2
  refine ⟨fun (c4 : ((vr1 : Int) = 0)) => ?_, fun (c4 : (¬ ((vr1 : Int) = 0))) => ?_⟩
  ·
    exact ⟨rfl, fun hv hA' => hQ _ hR hA' (fun _ _ _ => rfl) ((by
                              have q := trF_0 (S := S) (L := L) (n := Int.toNat N) (i := Int.toNat v0) (j := Int.toNat v1) (T := T) (by omega)
                              rw [q]
                              exact hT))⟩
  ·
    refine ⟨⟨_, hr.1.1, (by have := hr.2; show _ < 254; omega)⟩, ?_⟩
    refine c_gd11 (v0 := v1) hF hR hr hq (by omega) (fun vr5 hr6 qr7 => ?_)
    have hr6 : -2147483648 ≤ vr5 ∧ vr5 < 2147483648 := hr6
    refine ⟨fun (c8 : ((vr5 : Int) = 0)) => ?_, fun (c8 : (¬ ((vr5 : Int) = 0))) => ?_⟩
    ·
      exact ⟨rfl, fun hv hA' => hQ _ hR hA' (fun _ _ _ => rfl) ((by
                              have q := trF_0 (S := S) (L := L) (n := Int.toNat N) (i := Int.toNat v0) (j := Int.toNat v1) (T := T) (by omega)
                              rw [q]
                              exact hT))⟩
    ·
      refine ⟨⟨_, hr.1.1, (by have := hr.2; show _ < 254; omega)⟩, ?_⟩
      refine c_st11 (v0 := v0) hF hR hr hq (by omega) (fun vr9 hr10 qr11 => ?_)
      have hr10 : -2147483648 ≤ vr9 ∧ vr9 < 2147483648 := hr10
      have b12 : (0 : Int) ≤ vr9 ∧ vr9 ≤ 5100000 := by rw [qr11]; exact hq.2.2.2.1 _
      refine ⟨⟨_, hr.1.1, (by have := hr.2; show _ < 254; omega)⟩, ?_⟩
      refine c_st11 (v0 := v1) hF hR hr hq (by omega) (fun vr13 hr14 qr15 => ?_)
      have hr14 : -2147483648 ≤ vr13 ∧ vr13 < 2147483648 := hr14
      have b16 : (0 : Int) ≤ vr13 ∧ vr13 ≤ 5100000 := by rw [qr15]; exact hq.2.2.2.1 _
      refine ⟨fun (c17 : (¬ (vr9 : Int) = vr13)) => ?_, fun (c17 : ((vr9 : Int) = vr13)) => ?_⟩
      ·
        have z18 : (I rd 2) = N := hq.1
        have a19 : -2147483648 ≤ (I rd 2) ∧ (I rd 2) < 2147483648 := hA.1 _ _
        refine c_try11_l hF hR hr hq h0 h1 ⟨by omega, by omega, by omega⟩ (fun I' g1 g2 g3 hv hA' => hQ _ g1 hA' g2 g3) _ 0 0 I hR (fun _ _ _ => rfl) (show (0 : Int) ≤ (0 : Int) from Int.le_refl _) (show ((0 : Int) : Int) ≤ 24 from by first | with_reducible assumption | omega | (simp only [wr, wl] at *; omega)) (show (0 : Int) ≤ (0 : Int) from Int.le_refl _) (show ((0 : Int) : Int) ≤ 24 from by first | with_reducible assumption | omega | (simp only [wr, wl] at *; omega)) (show (I rd 2) = N from by first | omega | (simp only [wr, wl] at *; omega)) (show (0 : Int) ≤ N from by first | with_reducible assumption | omega | (simp only [wr, wl] at *; omega)) (show (0 : Int) ≤ (0 : Int) from Int.le_refl _) (show (0 : Int) = lyF S L (Int.toNat v0) (Int.toNat v1) (Int.toNat (0 : Int)) from rfl) (show LNC I rd T from hT) (Nat.lt_succ_self _)
      ·
        exact ⟨rfl, fun hv hA' => hQ _ hR hA' (fun _ _ _ => rfl) ((by
                              have q := trF_0 (S := S) (L := L) (n := Int.toNat N) (i := Int.toNat v0) (j := Int.toNat v1) (T := T) (by omega)
                              rw [q]
                              exact hT))⟩
theorem c_fnd11_l2 (hF : FS F) (hR : Rg I) {i : Int} {rd : Nat} (hr : RP F rd) {S L : Nat → Int} {N : Int} (hq : RDS I rd S L N) (hi : 0 ≤ i ∧ i < N) (hK : ∀ (J : pI), Rg J → (∀ k j, ¬ (k = rd ∧ 3 ≤ j) → J k j = I k j) → (∃ T, LNC J rd T ∧ otF S L (Int.toNat N) (Int.toNat (N - (i + 1))) (Int.toNat (i + 1)) T = LT S L (Int.toNat N)) → GoN G (d + 3) kX6_findLine NP NP 39 [some (vr rd), some (vi i), none] [] F J Q) : ∀ (mz : Nat) (j : Int) (J : pI), Rg J → (∀ k j, ¬ (k = rd ∧ 3 ≤ j) → J k j = I k j) → ((1 : Int) ≤ j) → ((j : Int) ≤ 24) → ((J rd 2) = N) → (j ≤ N) → (∃ T, LNC J rd T ∧ otF S L (Int.toNat N) (Int.toNat (N - (i + 1))) (Int.toNat (i + 1)) (inF S L (Int.toNat N) (Int.toNat i) (Int.toNat (N - j)) (Int.toNat j) T) = LT S L (Int.toNat N)) → (N - j).toNat < mz → GoN G (d + 3) kX6_findLine NP NP 19 [some (vr rd), some (vi i), some (vi j)] [] F J Q := by
  intro mz
  induction mz with
  | zero => intro j J hJ hV _ _ _ _ _ h; exact absurd h (Nat.not_lt_zero _)
  | succ mz ih =>
    intro j J hJ hV cc100 cc101 cc102 cc103 cc104 hm
    refine GoN_in (fun hok hA => ?_)
    have iii : -2147483648 ≤ i ∧ i < 2147483648 := hok 1 _ rfl
    have iij : -2147483648 ≤ j ∧ j < 2147483648 := hok 2 _ rfl
    have hN := hq.2.2.1
    obtain ⟨T, hT1, hT2⟩ := cc104
    have z1 : (I rd 2) = N := hq.1
    have u2 : (J rd 2) = (I rd 2) := hV _ _ (by first | decide | omega)
    have a3 : -2147483648 ≤ (J rd 2) ∧ (J rd 2) < 2147483648 := hA.1 _ _
    have z4 : (J rd 2) = N := (RDS_f hq (fun ka ja hk => (hV ka ja (by omega)))).1
    refine Go_wp (by decide) ckX6_findLine [19, 39] ?_
    refine ⟨_, hr.1.1, (by have := hr.2; show _ < 254; omega), ?_⟩
    refine ⟨fun (c5 : (((J rd 2) : Int) ≤ j)) => ?_, fun (c5 : (¬ (((J rd 2) : Int) ≤ j))) => ?_⟩
    ·
      refine GoN_lv (lv' := [some (vr rd), some (vi i), none]) (LvLe.k (LvLe.k (LvLe.d LvLe.n))) ?_
      exact hK  J hJ (fun ka ja hk => (hV ka ja (by omega))) (show ∃ T, LNC J rd T ∧ otF S L (Int.toNat N) (Int.toNat (N - (i + 1))) (Int.toNat (i + 1)) T = LT S L (Int.toNat N) from (by
                              have q := in_z (S := S) (L := L) (n := Int.toNat N) (i := Int.toNat i) (j := Int.toNat j) (T := T) (N := N) (k := j) (by omega)
                              rw [q] at hT2
                              exact ⟨T, hT1, hT2⟩))
    ·
      refine ⟨⟨_, hr.1.1, (by have := hr.2; show _ < 254; omega)⟩, ?_⟩
      refine c_try11 (v0 := i) (v1 := j) hF hJ hr (RDS_f hq (fun ka ja hk => (hV ka ja (by omega)))) (by omega) (by omega) hT1 (fun I6 hR7 hA8 hW9 qr10 => ?_)
      have n11 : (wr (j + 1)) = j + 1 := wr_id (show -2147483648 ≤ (j + 1 : Int) ∧ (j + 1 : Int) < 2147483648 from by omega)
      have u12 : (I6 rd 2) = (J rd 2) := hW9 _ _ (by first | decide | omega)
      have a13 : -2147483648 ≤ (I6 rd 2) ∧ (I6 rd 2) < 2147483648 := hA8.1 _ _
      have z14 : (I6 rd 2) = N := (RDS_f hq (fun ka ja hk => ((hW9 ka ja (by omega))).trans ((hV ka ja (by omega))))).1
      exact ih (wr (j + 1)) I6 hR7 (fun ka ja hk => ((hW9 ka ja (by omega))).trans ((hV ka ja (by omega)))) (show (1 : Int) ≤ (wr (j + 1)) from by first | with_reducible assumption | omega | (simp only [wr, wl] at *; omega)) (show ((wr (j + 1)) : Int) ≤ 24 from by first | with_reducible assumption | omega | (simp only [wr, wl] at *; omega)) (show (I6 rd 2) = N from by first | omega | (simp only [wr, wl] at *; omega)) (show (wr (j + 1)) ≤ N from by first | with_reducible assumption | omega | (simp only [wr, wl] at *; omega)) (show ∃ T, LNC I6 rd T ∧ otF S L (Int.toNat N) (Int.toNat (N - (i + 1))) (Int.toNat (i + 1)) (inF S L (Int.toNat N) (Int.toNat i) (Int.toNat (N - (wr (j + 1)))) (Int.toNat (wr (j + 1))) T) = LT S L (Int.toNat N) from (by
                              refine ⟨_, qr10, ?_⟩
                              have s := in_s (S := S) (L := L) (n := (Int.toNat N)) (i := Int.toNat i) (j := Int.toNat j) (T := T) (N := N) (k := j) (by omega) (by omega) rfl
                              rw [s, show j + 1 = (wr (j + 1)) from by omega] at hT2
                              exact hT2)) (show (N - (wr (j + 1))).toNat < mz from by omega)
theorem c_fnd11_l1 (hF : FS F) (hR : Rg I) {rd : Nat} (hr : RP F rd) {S L : Nat → Int} {N : Int} (hq : RDS I rd S L N) (hQ : ∀ (r : Int) (I' : pI), Rg I' → (∀ k j, ¬ (k = rd ∧ 3 ≤ j) → I' k j = I k j) → (LNC I' rd (LT S L (Int.toNat N)) ∧ ((r = 1 ∧ 0 < (LT S L (Int.toNat N)).2.2) ∨ (r = 0 ∧ (LT S L (Int.toNat N)).2.2 ≤ 0))) → Q (some (vi r)) F I') : ∀ (mz : Nat) (i : Int) (J : pI), Rg J → (∀ k j, ¬ (k = rd ∧ 3 ≤ j) → J k j = I k j) → ((0 : Int) ≤ i) → ((i : Int) ≤ 24) → ((J rd 2) = N) → (i ≤ N) → (∃ T, LNC J rd T ∧ otF S L (Int.toNat N) (Int.toNat (N - i)) (Int.toNat i) T = LT S L (Int.toNat N)) → (N - i).toNat < mz → GoN G (d + 3) kX6_findLine NP NP 7 [some (vr rd), some (vi i), none] [] F J Q := by
  intro mz
  induction mz with
  | zero => intro i J hJ hV _ _ _ _ _ h; exact absurd h (Nat.not_lt_zero _)
  | succ mz ih =>
    intro i J hJ hV cc100 cc101 cc102 cc103 cc104 hm
    refine GoN_in (fun hok hA => ?_)
    have iii : -2147483648 ≤ i ∧ i < 2147483648 := hok 1 _ rfl
    have hN := hq.2.2.1
    obtain ⟨T, hT1, hT2⟩ := cc104
    have z1 : (I rd 2) = N := hq.1
    have u2 : (J rd 2) = (I rd 2) := hV _ _ (by first | decide | omega)
    have a3 : -2147483648 ≤ (J rd 2) ∧ (J rd 2) < 2147483648 := hA.1 _ _
    have z4 : (J rd 2) = N := (RDS_f hq (fun ka ja hk => (hV ka ja (by omega)))).1
    refine Go_wp (by decide) ckX6_findLine [7, 19] ?_
    refine ⟨_, hr.1.1, (by have := hr.2; show _ < 254; omega), ?_⟩
    refine ⟨fun (c5 : (((J rd 2) : Int) ≤ i)) => ?_, fun (c5 : (¬ (((J rd 2) : Int) ≤ i))) => ?_⟩
    ·
      refine ⟨_, hr.1.1, (by have := hr.2; show _ < 254; omega), ?_⟩
      have a6 : -2147483648 ≤ (J rd 5) ∧ (J rd 5) < 2147483648 := hA.1 _ _
      refine ⟨fun (c7 : (((J rd 5) : Int) ≤ 0)) => ?_, fun (c7 : (¬ (((J rd 5) : Int) ≤ 0))) => ?_⟩
      ·
        exact ⟨rfl, (by decide), hQ _ _ hJ (fun ka ja hk => (hV ka ja (by omega))) ((by
                              have q := ot_z (S := S) (L := L) (n := Int.toNat N) (i := Int.toNat i) (T := T) (N := N) (k := i) (by omega)
                              rw [q] at hT2
                              rw [hT2] at hT1
                              exact ⟨hT1, by have e := hT1.1; omega⟩))⟩
      ·
        exact ⟨rfl, (by decide), hQ _ _ hJ (fun ka ja hk => (hV ka ja (by omega))) ((by
                              have q := ot_z (S := S) (L := L) (n := Int.toNat N) (i := Int.toNat i) (T := T) (N := N) (k := i) (by omega)
                              rw [q] at hT2
                              rw [hT2] at hT1
                              exact ⟨hT1, by have e := hT1.1; omega⟩))⟩
    ·
      have n8 : (wr (i + 1)) = i + 1 := wr_id (show -2147483648 ≤ (i + 1 : Int) ∧ (i + 1 : Int) < 2147483648 from by omega)
      refine c_fnd11_l2 hF hJ hr (RDS_f hq (fun ka ja hk => (hV ka ja (by omega)))) (by omega) (fun J9 hR10 hV12 c13 => ?_) _ (wr (i + 1)) J hJ (fun _ _ _ => rfl) (show (1 : Int) ≤ (wr (i + 1)) from by first | with_reducible assumption | omega | (simp only [wr, wl] at *; omega)) (show ((wr (i + 1)) : Int) ≤ 24 from by first | with_reducible assumption | omega | (simp only [wr, wl] at *; omega)) (show (J rd 2) = N from by first | omega | (simp only [wr, wl] at *; omega)) (show (wr (i + 1)) ≤ N from by first | with_reducible assumption | omega | (simp only [wr, wl] at *; omega)) (show ∃ T, LNC J rd T ∧ otF S L (Int.toNat N) (Int.toNat (N - (i + 1))) (Int.toNat (i + 1)) (inF S L (Int.toNat N) (Int.toNat i) (Int.toNat (N - (wr (i + 1)))) (Int.toNat (wr (i + 1))) T) = LT S L (Int.toNat N) from (by
                              refine ⟨_, hT1, ?_⟩
                              have s := ot_s (S := S) (L := L) (n := (Int.toNat N)) (i := Int.toNat i) (T := T) (N := N) (k := i) (by omega) (by omega) rfl
                              rw [s, show (Int.toNat N) - (Int.toNat i + 1) = Int.toNat (N - (wr (i + 1))) from by omega, show Int.toNat i + 1 = Int.toNat (wr (i + 1)) from by omega] at hT2
                              exact hT2)) (Nat.lt_succ_self _)
      refine GoN_in (fun hok14 hA11 => ?_)
      refine Go_wp (by decide) ckX6_findLine [7, 19] ?_
      have u16 : (J9 rd 2) = (J rd 2) := hV12 _ _ (by first | decide | omega)
      have a17 : -2147483648 ≤ (J9 rd 2) ∧ (J9 rd 2) < 2147483648 := hA11.1 _ _
      have z18 : (J9 rd 2) = N := (RDS_f hq (fun ka ja hk => ((hV12 ka ja (by omega))).trans ((hV ka ja (by omega))))).1
      exact ih (wr (i + 1)) J9 hR10 (fun ka ja hk => ((hV12 ka ja (by omega))).trans ((hV ka ja (by omega)))) (show (0 : Int) ≤ (wr (i + 1)) from by first | with_reducible assumption | omega | (simp only [wr, wl] at *; omega)) (show ((wr (i + 1)) : Int) ≤ 24 from by first | with_reducible assumption | omega | (simp only [wr, wl] at *; omega)) (show (J9 rd 2) = N from by first | omega | (simp only [wr, wl] at *; omega)) (show (wr (i + 1)) ≤ N from by first | with_reducible assumption | omega | (simp only [wr, wl] at *; omega)) (show ∃ T, LNC J9 rd T ∧ otF S L (Int.toNat N) (Int.toNat (N - (wr (i + 1)))) (Int.toNat (wr (i + 1))) T = LT S L (Int.toNat N) from (by
                              obtain ⟨T2, a2, b2⟩ := c13
                              exact ⟨T2, a2, by rw [show (wr (i + 1)) = i + 1 from by omega]; exact b2⟩)) (show (N - (wr (i + 1))).toNat < mz from by omega)
theorem c_fnd11 (hF : FS F) (hR : Rg I) {rd : Nat} (hr : RP F rd) {S L : Nat → Int} {N : Int} (hq : RDS I rd S L N) (hQ : ∀ (r : Int) (I' : pI), Rg I' → AR I' → iR r → (∀ k j, ¬ (k = rd ∧ 3 ≤ j) → I' k j = I k j) → (LNC I' rd (LT S L (Int.toNat N)) ∧ ((r = 1 ∧ 0 < (LT S L (Int.toNat N)).2.2) ∨ (r = 0 ∧ (LT S L (Int.toNat N)).2.2 ≤ 0))) → Q (some (vi r)) F I') : CallN G (d + 3) kX6_findLine [vr rd] NP F I Q := by
  refine CallN_in (fun hok hA => CallN_out ?_)
  have hN := hq.2.2.1
  refine Call_wp (lv := [some (vr rd), none, none]) (by decide) ckX6_findLine [7] rfl rfl ?_
  refine ⟨_, hr.1.1, (by have := hr.2; show _ < 254; omega), ?_⟩
  have z1 : (I rd 2) = N := hq.1
  have u2 : ((uI I rd 5 0) rd 2) = (I rd 2) := uJ_ne (by decide)
  have a3 : -2147483648 ≤ (I rd 2) ∧ (I rd 2) < 2147483648 := hA.1 _ _
  refine c_fnd11_l1 hF hR hr hq (fun r I' g1 g2 g3 hv hA' => hQ _ _ g1 hA' (hv _ rfl) g2 g3) _ 0 (uI I rd 5 0) (Rg.u hR (Pr_l hr.1.1 (by have := hr.2; omega) _ _ (by decide))) (fun ka ja hk => (uI_o (show ¬ (ka = rd ∧ ja = 5) from by have := hr.2; omega))) (show (0 : Int) ≤ (0 : Int) from Int.le_refl _) (show ((0 : Int) : Int) ≤ 24 from by first | with_reducible assumption | omega | (simp only [wr, wl] at *; omega)) (show ((uI I rd 5 0) rd 2) = N from by first | omega | (simp only [wr, wl] at *; omega)) (show (0 : Int) ≤ N from by first | with_reducible assumption | omega | (simp only [wr, wl] at *; omega)) (show ∃ T, LNC (uI I rd 5 0) rd T ∧ otF S L (Int.toNat N) (Int.toNat (N - (0 : Int))) (Int.toNat (0 : Int)) T = LT S L (Int.toNat N) from ⟨(0, 0, 0), ⟨uJ_eq, fun h => absurd h (by show ¬ (0 : Int) < 0; decide)⟩, by rw [show Int.toNat (N - (0 : Int)) = Int.toNat N from by omega]; rfl⟩) (Nat.lt_succ_self _)
theorem c_yld11_l (hF : FS F) (hR : Rg I) {v0 : Int} {rd : Nat} (hr : RP F rd) {S L : Nat → Int} {N : Int} (hq : RDS I rd S L N) (hT : LNC I rd (LT S L (Int.toNat N))) (hz : 0 < (LT S L (Int.toNat N)).2.2) (hv : 0 ≤ v0 ∧ v0 ≤ 999) (hQ : ∀ (r : Int) , (r = ydF S L (Int.toNat N) v0) → Q (some (vi r)) F I) : ∀ (mz : Nat) (k : Int) , ((0 : Int) ≤ k) → ((k : Int) ≤ 24) → ((I rd 2) = N) → (k ≤ N) → (ylF S L (Int.toNat (LT S L (Int.toNat N)).1) (Int.toNat (LT S L (Int.toNat N)).2.1) v0 (Int.toNat (N - k)) (Int.toNat k) = ydF S L (Int.toNat N) v0) → (N - k).toNat < mz → GoN G (d + 2) kX6_yieldAt NP NP 14 [some (vr rd), some (vi v0), some (vi k)] [] F I Q := by
  intro mz
  induction mz with
  | zero => intro k _ _ _ _ _ h; exact absurd h (Nat.not_lt_zero _)
  | succ mz ih =>
    intro k cc100 cc101 cc102 cc103 cc104 hm
    refine GoN_in (fun hok hA => ?_)
    have iiv0 : -2147483648 ≤ v0 ∧ v0 < 2147483648 := hok 1 _ rfl
    have iik : -2147483648 ≤ k ∧ k < 2147483648 := hok 2 _ rfl
    have hN := hq.2.2.1
    have l1 := (hT.2 hz).1
    have l2 := (hT.2 hz).2
    have lt := LT_ok (S := S) (L := L) (n := (Int.toNat N))
    have ls := lt.2.2 hz
    have z1 : (I rd 2) = N := hq.1
    have a2 : -2147483648 ≤ (I rd 2) ∧ (I rd 2) < 2147483648 := hA.1 _ _
    refine Go_wp (by decide) ckX6_yieldAt [14] ?_
    refine ⟨_, hr.1.1, (by have := hr.2; show _ < 254; omega), ?_⟩
    refine ⟨fun (c3 : (((I rd 2) : Int) ≤ k)) => ?_, fun (c3 : (¬ (((I rd 2) : Int) ≤ k))) => ?_⟩
    ·
      exact ⟨rfl, hQ _ ((by
                              have h := cc104
                              have q := yl_z (S := S) (L := L) (i := Int.toNat (LT S L (Int.toNat N)).1) (j := Int.toNat (LT S L (Int.toNat N)).2.1) (o := v0) (N := N) (k := k) (by omega)
                              rw [q] at h
                              exact h))⟩
    ·
      refine ⟨⟨_, hr.1.1, (by have := hr.2; show _ < 254; omega)⟩, ?_⟩
      refine c_gd11 (v0 := k) hF hR hr hq (by omega) (fun vr4 hr5 qr6 => ?_)
      have hr5 : -2147483648 ≤ vr4 ∧ vr4 < 2147483648 := hr5
      refine ⟨fun (c7 : ((vr4 : Int) = 0)) => ?_, fun (c7 : (¬ ((vr4 : Int) = 0))) => ?_⟩
      ·
        have n8 : (wr (k + 1)) = k + 1 := wr_id (show -2147483648 ≤ (k + 1 : Int) ∧ (k + 1 : Int) < 2147483648 from by omega)
        exact ih (wr (k + 1))  (show (0 : Int) ≤ (wr (k + 1)) from by first | with_reducible assumption | omega | (simp only [wr, wl] at *; omega)) (show ((wr (k + 1)) : Int) ≤ 24 from by first | with_reducible assumption | omega | (simp only [wr, wl] at *; omega)) (show (I rd 2) = N from by first | omega | (simp only [wr, wl] at *; omega)) (show (wr (k + 1)) ≤ N from by first | with_reducible assumption | omega | (simp only [wr, wl] at *; omega)) (show ylF S L (Int.toNat (LT S L (Int.toNat N)).1) (Int.toNat (LT S L (Int.toNat N)).2.1) v0 (Int.toNat (N - (wr (k + 1)))) (Int.toNat (wr (k + 1))) = ydF S L (Int.toNat N) v0 from (by
                              have s := yl_s (S := S) (L := L) (i := Int.toNat (LT S L (Int.toNat N)).1) (j := Int.toNat (LT S L (Int.toNat N)).2.1) (o := v0) (N := N) (k := k) (by omega) (by omega)
                              have h := cc104
                              rw [s.2 (fun q => by first | (have e := q.1; omega) | (have e := q.2; rw [← l1, ← l2] at e; omega)), show k + 1 = (wr (k + 1)) from by omega] at h
                              exact h)) (show (N - (wr (k + 1))).toNat < mz from by omega)
      ·
        refine ⟨_, hr.1.1, (by have := hr.2; show _ < 254; omega), ?_⟩
        refine ⟨_, hr.1.1, (by have := hr.2; show _ < 254; omega), ?_⟩
        refine ⟨⟨_, hr.1.1, (by have := hr.2; show _ < 254; omega)⟩, ?_⟩
        have a9 : -2147483648 ≤ (I rd 3) ∧ (I rd 3) < 2147483648 := hA.1 _ _
        have a10 : -2147483648 ≤ (I rd 4) ∧ (I rd 4) < 2147483648 := hA.1 _ _
        refine c_bel11 (v0 := (I rd 3)) (v1 := (I rd 4)) (v2 := k) (v3 := v0) hF hR hr hq (by omega) (by omega) (by omega) (by omega) (fun vr11 hr12 qr13 => ?_)
        have hr12 : -9223372036854775808 ≤ vr11 ∧ vr11 < 9223372036854775808 := hr12
        refine ⟨fun c14 => ?_, fun c14 => ?_⟩
        ·
          have c14 : ((vr11 : Int) ≤ 0) := lcm_le.1 c14
          have n15 : (wr (k + 1)) = k + 1 := wr_id (show -2147483648 ≤ (k + 1 : Int) ∧ (k + 1 : Int) < 2147483648 from by omega)
          exact ih (wr (k + 1))  (show (0 : Int) ≤ (wr (k + 1)) from by first | with_reducible assumption | omega | (simp only [wr, wl] at *; omega)) (show ((wr (k + 1)) : Int) ≤ 24 from by first | with_reducible assumption | omega | (simp only [wr, wl] at *; omega)) (show (I rd 2) = N from by first | omega | (simp only [wr, wl] at *; omega)) (show (wr (k + 1)) ≤ N from by first | with_reducible assumption | omega | (simp only [wr, wl] at *; omega)) (show ylF S L (Int.toNat (LT S L (Int.toNat N)).1) (Int.toNat (LT S L (Int.toNat N)).2.1) v0 (Int.toNat (N - (wr (k + 1)))) (Int.toNat (wr (k + 1))) = ydF S L (Int.toNat N) v0 from (by
                              have s := yl_s (S := S) (L := L) (i := Int.toNat (LT S L (Int.toNat N)).1) (j := Int.toNat (LT S L (Int.toNat N)).2.1) (o := v0) (N := N) (k := k) (by omega) (by omega)
                              have h := cc104
                              rw [s.2 (fun q => by first | (have e := q.1; omega) | (have e := q.2; rw [← l1, ← l2] at e; omega)), show k + 1 = (wr (k + 1)) from by omega] at h
                              exact h)) (show (N - (wr (k + 1))).toNat < mz from by omega)
        ·
          have c14 : (¬ ((vr11 : Int) ≤ 0)) := fun e => c14 (lcm_le.2 e)
          exact ⟨rfl, hQ _ ((by
                              have h := cc104
                              have s := yl_s (S := S) (L := L) (i := Int.toNat (LT S L (Int.toNat N)).1) (j := Int.toNat (LT S L (Int.toNat N)).2.1) (o := v0) (N := N) (k := k) (by omega) (by omega)
                              rw [s.1 (by omega) (by rw [← l1, ← l2]; omega)] at h
                              exact h))⟩
theorem c_yld11 (hF : FS F) (hR : Rg I) {v0 : Int} {rd : Nat} (hr : RP F rd) {S L : Nat → Int} {N : Int} (hq : RDS I rd S L N) (hv : 0 ≤ v0 ∧ v0 ≤ 999) (hQ : ∀ (r : Int) (I' : pI), Rg I' → AR I' → iR r → (∀ k j, ¬ (k = rd ∧ 3 ≤ j) → I' k j = I k j) → (r = ydF S L (Int.toNat N) v0) → Q (some (vi r)) F I') : CallN G (d + 4) kX6_yieldAt [vr rd, vi v0] NP F I Q := by
  refine CallN_in (fun hok hA => CallN_out ?_)
  have iv0 : -2147483648 ≤ v0 ∧ v0 < 2147483648 := hok (vi v0) (by simp)
  have hN := hq.2.2.1
  refine Call_wp (lv := [some (vr rd), some (vi v0), none]) (by decide) ckX6_yieldAt [14] rfl rfl ?_
  refine ⟨⟨_, hr.1.1, (by have := hr.2; show _ < 254; omega)⟩, ?_⟩
  refine c_fnd11  hF hR hr hq (fun vr1 I2 hR3 hA4 hr6 hW5 qr7 => ?_)
  have hr6 : -2147483648 ≤ vr1 ∧ vr1 < 2147483648 := hr6
  obtain ⟨hT8, hz9⟩ := qr7
  have ltb := LT_ok (S := S) (L := L) (n := (Int.toNat N))
  have ltc := ltb.2.2
  have ltd := hT8.2
  refine ⟨fun (c10 : (¬ (vr1 : Int) = 0)) => ?_, fun (c10 : ((vr1 : Int) = 0)) => ?_⟩
  ·
    refine ⟨_, hr.1.1, (by have := hr.2; show _ < 254; omega), ?_⟩
    have a11 : -2147483648 ≤ (I2 rd 4) ∧ (I2 rd 4) < 2147483648 := hA4.1 _ _
    have z12 : (I rd 2) = N := hq.1
    have u13 : (I2 rd 2) = (I rd 2) := hW5 _ _ (by first | decide | omega)
    have a14 : -2147483648 ≤ (I rd 2) ∧ (I rd 2) < 2147483648 := hA.1 _ _
    have a15 : -2147483648 ≤ (I2 rd 2) ∧ (I2 rd 2) < 2147483648 := hA4.1 _ _
    have z16 : (I2 rd 2) = N := (RDS_f hq (fun ka ja hk => (hW5 ka ja (by omega)))).1
    refine c_yld11_l hF hR3 hr (RDS_f hq (fun ka ja hk => (hW5 ka ja (by omega)))) hT8 (by omega) (by omega) (fun r g3 hv hA' => hQ _ _ hR3 hA' (hv _ rfl) (fun ka ja hk => (hW5 ka ja (by omega))) g3) _ (I2 rd 4)  (show (0 : Int) ≤ (I2 rd 4) from by first | with_reducible assumption | omega | (simp only [wr, wl] at *; omega)) (show ((I2 rd 4) : Int) ≤ 24 from by first | with_reducible assumption | omega | (simp only [wr, wl] at *; omega)) (show (I2 rd 2) = N from by first | omega | (simp only [wr, wl] at *; omega)) (show (I2 rd 4) ≤ N from by first | with_reducible assumption | omega | (simp only [wr, wl] at *; omega)) (show ylF S L (Int.toNat (LT S L (Int.toNat N)).1) (Int.toNat (LT S L (Int.toNat N)).2.1) v0 (Int.toNat (N - (I2 rd 4))) (Int.toNat (I2 rd 4)) = ydF S L (Int.toNat N) v0 from (by
                              have h := ydF_y (S := S) (L := L) (n := (Int.toNat N)) (o := v0) (by omega)
                              have l2 := (hT8.2 (by omega)).2
                              have lt := LT_ok (S := S) (L := L) (n := (Int.toNat N))
                              have ls := lt.2.2 (by omega)
                              rw [show (Int.toNat N) - Int.toNat (LT S L (Int.toNat N)).2.1 = Int.toNat (N - (I2 rd 4)) from by omega] at h
                              rw [h, show Int.toNat (I2 rd 4) = Int.toNat (LT S L (Int.toNat N)).2.1 from by omega])) (Nat.lt_succ_self _)
  ·
    exact ⟨rfl, fun hv hA' => hQ _ _ hR3 hA' (hv _ rfl) (fun ka ja hk => (hW5 ka ja (by omega))) ((by
                              have q := ydF_n (S := S) (L := L) (n := Int.toNat N) (o := v0) (by omega)
                              exact q.symm))⟩
end CL11
