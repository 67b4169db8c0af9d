/-! readings of the class, from any state. Own work (scripts laid by wip/pm/gen31.py). -/
section CR
variable {G : pG} {d : Nat} {F : pF} {I : pI} {Q : Option pV → pF → pI → Prop}
theorem c_stretchAt (hF : FS F) (hR : Rg I) {v0 : Int} {rd : Nat} (hr : RP F rd) (hQ : ∀ r : Int, iR r → Q (some (vi r)) F I) : CallN G d kX6_stretchAt [vr rd, vi v0] NP F I Q := by
  refine CallN_in (fun hok hA => CallN_out ?_)
  have iv0 : -2147483648 ≤ v0 ∧ v0 < 2147483648 := hok (vi v0) (by simp)
  refine Call_wp (lv := [some (vr rd), some (vi v0)]) (by decide) ckX6_stretchAt [] rfl rfl ?_
  refine ⟨fun (c1 : ((v0 : Int) < 0)) => ?_, fun (c1 : (¬ ((v0 : Int) < 0))) => ?_⟩
  ·
    exact ⟨rfl, fun hv hA' => hQ _ (hv _ rfl)⟩
  ·
    refine ⟨_, hr.1.1, (by have := hr.2; show _ < 254; omega), ?_⟩
    have a2 : -2147483648 ≤ (I rd 2) ∧ (I rd 2) < 2147483648 := hA.1 _ _
    refine ⟨fun (c3 : (((I rd 2) : Int) ≤ v0)) => ?_, fun (c3 : (¬ (((I rd 2) : Int) ≤ v0))) => ?_⟩
    ·
      exact ⟨rfl, fun hv hA' => hQ _ (hv _ rfl)⟩
    ·
      refine ⟨fun (c4 : ((24 : Int) ≤ v0)) => ?_, fun (c4 : (¬ ((24 : Int) ≤ v0))) => ?_⟩
      ·
        exact ⟨rfl, fun hv hA' => hQ _ (hv _ rfl)⟩
      ·
        refine ⟨_, hr.1.1, (by have := hr.2; show _ < 254; omega), ?_⟩
        refine fun w0 hw0 => ?_; obtain rfl : w0 = some (rd + 1) := hw0.symm.trans hr.1.2.2.2.2.1
        refine ⟨_, hr.1.2.1, (by have := hr.2; show _ < 254; omega), (show (0 : Int) ≤ v0 from by first | with_reducible assumption | omega | (simp only [wr, wl] at *; omega)), (show v0 < (24 : Int) from by first | with_reducible assumption | omega | (simp only [wr, wl] at *; omega)), ?_⟩
        exact ⟨rfl, fun hv hA' => hQ _ (hv _ rfl)⟩
theorem c_loadAt (hF : FS F) (hR : Rg I) {v0 : Int} {rd : Nat} (hr : RP F rd) (hQ : ∀ r : Int, iR r → Q (some (vi r)) F I) : CallN G d kX6_loadAt [vr rd, vi v0] NP F I Q := by
  refine CallN_in (fun hok hA => CallN_out ?_)
  have iv0 : -2147483648 ≤ v0 ∧ v0 < 2147483648 := hok (vi v0) (by simp)
  refine Call_wp (lv := [some (vr rd), some (vi v0)]) (by decide) ckX6_loadAt [] rfl rfl ?_
  refine ⟨fun (c1 : ((v0 : Int) < 0)) => ?_, fun (c1 : (¬ ((v0 : Int) < 0))) => ?_⟩
  ·
    exact ⟨rfl, fun hv hA' => hQ _ (hv _ rfl)⟩
  ·
    refine ⟨_, hr.1.1, (by have := hr.2; show _ < 254; omega), ?_⟩
    have a2 : -2147483648 ≤ (I rd 2) ∧ (I rd 2) < 2147483648 := hA.1 _ _
    refine ⟨fun (c3 : (((I rd 2) : Int) ≤ v0)) => ?_, fun (c3 : (¬ (((I rd 2) : Int) ≤ v0))) => ?_⟩
    ·
      exact ⟨rfl, fun hv hA' => hQ _ (hv _ rfl)⟩
    ·
      refine ⟨fun (c4 : ((24 : Int) ≤ v0)) => ?_, fun (c4 : (¬ ((24 : Int) ≤ v0))) => ?_⟩
      ·
        exact ⟨rfl, fun hv hA' => hQ _ (hv _ rfl)⟩
      ·
        refine ⟨_, hr.1.1, (by have := hr.2; show _ < 254; omega), ?_⟩
        refine fun w0 hw0 => ?_; obtain rfl : w0 = some (rd + 2) := hw0.symm.trans hr.1.2.2.2.2.2
        refine ⟨_, hr.1.2.2.1, (by have := hr.2; show _ < 254; omega), (show (0 : Int) ≤ v0 from by first | with_reducible assumption | omega | (simp only [wr, wl] at *; omega)), (show v0 < (24 : Int) from by first | with_reducible assumption | omega | (simp only [wr, wl] at *; omega)), ?_⟩
        exact ⟨rfl, fun hv hA' => hQ _ (hv _ rfl)⟩
theorem c_flatAt (hF : FS F) (hR : Rg I) {v0 : Int} {rd : Nat} (hr : RP F rd) (hQ : ∀ r : Int, iR r → Q (some (vi r)) F I) : CallN G (d + 1) kX6_flatAt [vr rd, vi v0] NP F I Q := by
  refine CallN_in (fun hok hA => CallN_out ?_)
  have iv0 : -2147483648 ≤ v0 ∧ v0 < 2147483648 := hok (vi v0) (by simp)
  refine Call_wp (lv := [some (vr rd), some (vi v0)]) (by decide) ckX6_flatAt [] rfl rfl ?_
  refine ⟨(by decide), ?_⟩
  have n1 : -2 < (Int.tmod v0 2) ∧ (Int.tmod v0 2) < 2 := tm_b (by decide)
  refine ⟨fun (c2 : (¬ ((Int.tmod v0 2) : Int) = 0)) => ?_, fun (c2 : (((Int.tmod v0 2) : Int) = 0)) => ?_⟩
  ·
    refine ⟨(by decide), ?_⟩
    refine ⟨⟨_, hr.1.1, (by have := hr.2; show _ < 254; omega)⟩, ?_⟩
    have n3 : -1073741824 ≤ (Int.tdiv v0 2) ∧ (Int.tdiv v0 2) ≤ 1073741824 := td_b (by decide) (by decide) (by omega) (by omega)
    have n4 : (wr (Int.tdiv v0 2)) = (Int.tdiv v0 2) := wr_id (show -2147483648 ≤ ((Int.tdiv v0 2) : Int) ∧ ((Int.tdiv v0 2) : Int) < 2147483648 from by omega)
    refine c_loadAt (v0 := (wr (Int.tdiv v0 2))) hF hR hr (fun vr5 hr6 => ?_)
    have hr6 : -2147483648 ≤ vr5 ∧ vr5 < 2147483648 := hr6
    exact ⟨rfl, fun hv hA' => hQ _ (hv _ rfl)⟩
  ·
    refine ⟨(by decide), ?_⟩
    refine ⟨⟨_, hr.1.1, (by have := hr.2; show _ < 254; omega)⟩, ?_⟩
    have n7 : -1073741824 ≤ (Int.tdiv v0 2) ∧ (Int.tdiv v0 2) ≤ 1073741824 := td_b (by decide) (by decide) (by omega) (by omega)
    have n8 : (wr (Int.tdiv v0 2)) = (Int.tdiv v0 2) := wr_id (show -2147483648 ≤ ((Int.tdiv v0 2) : Int) ∧ ((Int.tdiv v0 2) : Int) < 2147483648 from by omega)
    refine c_stretchAt (v0 := (wr (Int.tdiv v0 2))) hF hR hr (fun vr9 hr10 => ?_)
    have hr10 : -2147483648 ≤ vr9 ∧ vr9 < 2147483648 := hr10
    exact ⟨rfl, fun hv hA' => hQ _ (hv _ rfl)⟩
theorem c_isGood (hF : FS F) (hR : Rg I) {v0 : Int} {rd : Nat} (hr : RP F rd) (hQ : ∀ r : Int, iR r → (0 ≤ r ∧ r ≤ 1) → Q (some (vi r)) F I) : CallN G (d + 1) kX6_isGood [vr rd, vi v0] NP F I Q := by
  refine CallN_in (fun hok hA => CallN_out ?_)
  have iv0 : -2147483648 ≤ v0 ∧ v0 < 2147483648 := hok (vi v0) (by simp)
  refine Call_wp (lv := [some (vr rd), some (vi v0)]) (by decide) ckX6_isGood [] rfl rfl ?_
  refine ⟨⟨_, hr.1.1, (by have := hr.2; show _ < 254; omega)⟩, ?_⟩
  refine c_loadAt (v0 := v0) hF hR hr (fun vr1 hr2 => ?_)
  have hr2 : -2147483648 ≤ vr1 ∧ vr1 < 2147483648 := hr2
  refine ⟨fun (c3 : ((vr1 : Int) < 0)) => ?_, fun (c3 : (¬ ((vr1 : Int) < 0))) => ?_⟩
  ·
    exact ⟨rfl, (by decide), fun hv hA' => hQ _ (hv _ rfl) (show 0 ≤ 0 ∧ 0 ≤ 1 from by decide)⟩
  ·
    exact ⟨rfl, (by decide), fun hv hA' => hQ _ (hv _ rfl) (show 0 ≤ 1 ∧ 1 ≤ 1 from by decide)⟩
theorem c_goodOnes_l (hF : FS F) (hR : Rg I) {rd : Nat} (hr : RP F rd) (hQ : ∀ (r : Int) , Q (some (vi r)) F I) : ∀ (mz : Nat) (g i : Int) , ((0 : Int) ≤ i) → ((I rd 2) - i).toNat < mz → GoN G (d + 2) kX6_goodOnes NP NP 4 [some (vr rd), some (vi g), some (vi i)] [] F I Q := by
  intro mz
  induction mz with
  | zero => intro g i _ h; exact absurd h (Nat.not_lt_zero _)
  | succ mz ih =>
    intro g i c100 hm
    refine GoN_in (fun hok hA => ?_)
    have iig : -2147483648 ≤ g ∧ g < 2147483648 := hok 1 _ rfl
    have iii : -2147483648 ≤ i ∧ i < 2147483648 := hok 2 _ rfl
    have a1 : -2147483648 ≤ (I rd 2) ∧ (I rd 2) < 2147483648 := hA.1 _ _
    refine Go_wp (by decide) ckX6_goodOnes [4] ?_
    refine ⟨_, hr.1.1, (by have := hr.2; show _ < 254; omega), ?_⟩
    refine ⟨fun (c2 : (((I rd 2) : Int) ≤ i)) => ?_, fun (c2 : (¬ (((I rd 2) : Int) ≤ i))) => ?_⟩
    ·
      exact ⟨rfl, hQ _⟩
    ·
      refine ⟨⟨_, hr.1.1, (by have := hr.2; show _ < 254; omega)⟩, ?_⟩
      refine c_isGood (v0 := i) hF hR hr (fun vr3 hr4 q5 => ?_)
      have hr4 : -2147483648 ≤ vr3 ∧ vr3 < 2147483648 := hr4
      have q5 : 0 ≤ vr3 ∧ vr3 ≤ 1 := q5
      refine ⟨fun (c6 : ((vr3 : Int) = 0)) => ?_, fun (c6 : (¬ ((vr3 : Int) = 0))) => ?_⟩
      ·
        have n7 : (wr (g + 0)) = g + 0 := wr_id (show -2147483648 ≤ (g + 0 : Int) ∧ (g + 0 : Int) < 2147483648 from by omega)
        have n8 : (wr (i + 1)) = i + 1 := wr_id (show -2147483648 ≤ (i + 1 : Int) ∧ (i + 1 : Int) < 2147483648 from by omega)
        exact ih (wr (g + 0)) (wr (i + 1))  (show (0 : Int) ≤ (wr (i + 1)) from by first | with_reducible assumption | omega | (simp only [wr, wl] at *; omega)) (show ((I rd 2) - (wr (i + 1))).toNat < mz from by omega)
      ·
        have n9 : -2147483648 ≤ (wr (g + 1)) ∧ (wr (g + 1)) < 2147483648 := wr_R _
        have n10 : (wr (i + 1)) = i + 1 := wr_id (show -2147483648 ≤ (i + 1 : Int) ∧ (i + 1 : Int) < 2147483648 from by omega)
        exact ih (wr (g + 1)) (wr (i + 1))  (show (0 : Int) ≤ (wr (i + 1)) from by first | with_reducible assumption | omega | (simp only [wr, wl] at *; omega)) (show ((I rd 2) - (wr (i + 1))).toNat < mz from by omega)
theorem c_goodOnes (hF : FS F) (hR : Rg I) {rd : Nat} (hr : RP F rd) (hQ : ∀ r : Int, iR r → Q (some (vi r)) F I) : CallN G (d + 2) kX6_goodOnes [vr rd] NP F I Q := by
  refine CallN_in (fun hok hA => CallN_out ?_)
  refine Call_wp (lv := [some (vr rd), none, none]) (by decide) ckX6_goodOnes [4] rfl rfl ?_
  have a1 : -2147483648 ≤ (I rd 2) ∧ (I rd 2) < 2147483648 := hA.1 _ _
  refine c_goodOnes_l hF hR hr (fun r hv hA' => hQ _ (hv _ rfl)) _ 0 0  (show (0 : Int) ≤ (0 : Int) from Int.le_refl _) (Nat.lt_succ_self _)
theorem c_below (hF : FS F) (hR : Rg I) {v0 v1 v2 v3 : Int} {rd : Nat} (hr : RP F rd) (hQ : ∀ r : Int, lR r → Q (some (vl r)) F I) : CallN G (d + 1) kX6_belowLine [vr rd, vi v0, vi v1, vi v2, vi v3] NP F I Q := by
  refine CallN_in (fun hok hA => CallN_out ?_)
  have iv0 : -2147483648 ≤ v0 ∧ v0 < 2147483648 := hok (vi v0) (by simp)
  have iv1 : -2147483648 ≤ v1 ∧ v1 < 2147483648 := hok (vi v1) (by simp)
  have iv2 : -2147483648 ≤ v2 ∧ v2 < 2147483648 := hok (vi v2) (by simp)
  have iv3 : -2147483648 ≤ v3 ∧ v3 < 2147483648 := hok (vi v3) (by simp)
  refine Call_wp (lv := [some (vr rd), some (vi v0), some (vi v1), some (vi v2), some (vi v3), none, none, none, none, none, none, none, none]) (by decide) ckX6_belowLine [] rfl rfl ?_
  refine ⟨⟨_, hr.1.1, (by have := hr.2; show _ < 254; omega)⟩, ?_⟩
  refine c_stretchAt (v0 := v1) hF hR hr (fun vr1 hr2 => ?_)
  have hr2 : -2147483648 ≤ vr1 ∧ vr1 < 2147483648 := hr2
  refine ⟨⟨_, hr.1.1, (by have := hr.2; show _ < 254; omega)⟩, ?_⟩
  refine c_stretchAt (v0 := v0) hF hR hr (fun vr3 hr4 => ?_)
  have hr4 : -2147483648 ≤ vr3 ∧ vr3 < 2147483648 := hr4
  refine ⟨⟨_, hr.1.1, (by have := hr.2; show _ < 254; omega)⟩, ?_⟩
  refine c_loadAt (v0 := v1) hF hR hr (fun vr5 hr6 => ?_)
  have hr6 : -2147483648 ≤ vr5 ∧ vr5 < 2147483648 := hr6
  refine ⟨⟨_, hr.1.1, (by have := hr.2; show _ < 254; omega)⟩, ?_⟩
  refine c_loadAt (v0 := v0) hF hR hr (fun vr7 hr8 => ?_)
  have hr8 : -2147483648 ≤ vr7 ∧ vr7 < 2147483648 := hr8
  refine ⟨⟨_, hr.1.1, (by have := hr.2; show _ < 254; omega)⟩, ?_⟩
  refine c_stretchAt (v0 := v2) hF hR hr (fun vr9 hr10 => ?_)
  have hr10 : -2147483648 ≤ vr9 ∧ vr9 < 2147483648 := hr10
  refine ⟨⟨_, hr.1.1, (by have := hr.2; show _ < 254; omega)⟩, ?_⟩
  refine c_stretchAt (v0 := v0) hF hR hr (fun vr11 hr12 => ?_)
  have hr12 : -2147483648 ≤ vr11 ∧ vr11 < 2147483648 := hr12
  refine ⟨⟨_, hr.1.1, (by have := hr.2; show _ < 254; omega)⟩, ?_⟩
  refine c_loadAt (v0 := v2) hF hR hr (fun vr13 hr14 => ?_)
  have hr14 : -2147483648 ≤ vr13 ∧ vr13 < 2147483648 := hr14
  refine ⟨⟨_, hr.1.1, (by have := hr.2; show _ < 254; omega)⟩, ?_⟩
  refine c_loadAt (v0 := v0) hF hR hr (fun vr15 hr16 => ?_)
  have hr16 : -2147483648 ≤ vr15 ∧ vr15 < 2147483648 := hr16
  have n17 : -2147483648 ≤ (wr (vr1 - vr3)) ∧ (wr (vr1 - vr3)) < 2147483648 := wr_R _
  refine ⟨fun c18 => ?_, fun c18 => ?_⟩
  ·
    have c18 : ((0 : Int) ≤ (wr (vr1 - vr3))) := lcm_ge.1 c18
    exact ⟨rfl, fun hv hA' => hQ _ (hv _ rfl)⟩
  ·
    have c18 : (¬ ((0 : Int) ≤ (wr (vr1 - vr3)))) := fun e => c18 (lcm_ge.2 e)
    exact ⟨rfl, fun hv hA' => hQ _ (hv _ rfl)⟩
theorem c_tryLine_l (hF : FS F) (hR : Rg I) {v0 v1 : Int} {rd : Nat} (hr : RP F rd) (hQ : ∀ (I' : pI), Rg I' → (∀ k j, ¬ (k = rd ∧ 3 ≤ j) → I' k j = I k j) → Q none F I') : ∀ (mz : Nat) (n k : Int) (J : pI), Rg J → (∀ k j, ¬ (k = rd ∧ 3 ≤ j) → J k j = I k j) → ((0 : Int) ≤ k) → ((J rd 2) = I rd 2) → ((J rd 2) - k).toNat < mz → GoN G (d + 2) kX6_tryLine NP NP 35 [some (vr rd), some (vi v0), some (vi v1), some (vi n), some (vi k)] [] F J Q := by
  intro mz
  induction mz with
  | zero => intro n k J hJ hV _ _ h; exact absurd h (Nat.not_lt_zero _)
  | succ mz ih =>
    intro n k J hJ hV c100 c101 hm
    refine GoN_in (fun hok hA => ?_)
    have iiv0 : -2147483648 ≤ v0 ∧ v0 < 2147483648 := hok 1 _ rfl
    have iiv1 : -2147483648 ≤ v1 ∧ v1 < 2147483648 := hok 2 _ rfl
    have iin : -2147483648 ≤ n ∧ n < 2147483648 := hok 3 _ rfl
    have iik : -2147483648 ≤ k ∧ k < 2147483648 := hok 4 _ rfl
    have u1 : (J rd 2) = (I rd 2) := hV _ _ (by first | decide | omega)
    have a2 : -2147483648 ≤ (J rd 2) ∧ (J rd 2) < 2147483648 := hA.1 _ _
    refine Go_wp (by decide) ckX6_tryLine [35] ?_
    refine ⟨_, hr.1.1, (by have := hr.2; show _ < 254; omega), ?_⟩
    refine ⟨fun (c3 : (((J rd 2) : Int) ≤ k)) => ?_, fun (c3 : (¬ (((J rd 2) : Int) ≤ k))) => ?_⟩
    ·
      refine ⟨_, hr.1.1, (by have := hr.2; show _ < 254; omega), ?_⟩
      have a4 : -2147483648 ≤ (J rd 5) ∧ (J rd 5) < 2147483648 := hA.1 _ _
      refine ⟨fun (c5 : ((n : Int) ≤ (J rd 5))) => ?_, fun (c5 : (¬ ((n : Int) ≤ (J rd 5)))) => ?_⟩
      ·
        exact ⟨rfl, hQ _ hJ (fun ka ja hk => (hV ka ja (by omega)))⟩
      ·
        refine ⟨_, hr.1.1, (by have := hr.2; show _ < 254; omega), ?_⟩
        refine ⟨_, hr.1.1, (by have := hr.2; show _ < 254; omega), ?_⟩
        refine ⟨_, hr.1.1, (by have := hr.2; show _ < 254; omega), ?_⟩
        exact ⟨rfl, hQ _ (Rg.u (Rg.u (Rg.u hJ (Pr_l hr.1.1 (by have := hr.2; omega) _ _ (by decide))) (Pr_l hr.1.1 (by have := hr.2; omega) _ _ (by decide))) (Pr_l hr.1.1 (by have := hr.2; omega) _ _ (by decide))) (fun ka ja hk => ((uI_o (show ¬ (ka = rd ∧ ja = 5) from by have := hr.2; omega))).trans (((uI_o (show ¬ (ka = rd ∧ ja = 4) from by have := hr.2; omega))).trans (((uI_o (show ¬ (ka = rd ∧ ja = 3) from by have := hr.2; omega))).trans ((hV ka ja (by omega))))))⟩
    ·
      refine ⟨⟨_, hr.1.1, (by have := hr.2; show _ < 254; omega)⟩, ?_⟩
      refine c_isGood (v0 := k) hF hJ hr (fun vr6 hr7 q8 => ?_)
      have hr7 : -2147483648 ≤ vr6 ∧ vr6 < 2147483648 := hr7
      have q8 : 0 ≤ vr6 ∧ vr6 ≤ 1 := q8
      refine ⟨fun (c9 : ((vr6 : Int) = 0)) => ?_, fun (c9 : (¬ ((vr6 : Int) = 0))) => ?_⟩
      ·
        have n10 : (wr (n + 0)) = n + 0 := wr_id (show -2147483648 ≤ (n + 0 : Int) ∧ (n + 0 : Int) < 2147483648 from by omega)
        have n11 : (wr (k + 1)) = k + 1 := wr_id (show -2147483648 ≤ (k + 1 : Int) ∧ (k + 1 : Int) < 2147483648 from by omega)
        exact ih (wr (n + 0)) (wr (k + 1)) J hJ (fun ka ja hk => (hV ka ja (by omega))) (show (0 : Int) ≤ (wr (k + 1)) from by first | with_reducible assumption | omega | (simp only [wr, wl] at *; omega)) (show (J rd 2) = I rd 2 from by first | omega | (simp only [wr, wl] at *; omega)) (show ((J rd 2) - (wr (k + 1))).toNat < mz from by omega)
      ·
        refine ⟨⟨_, hr.1.1, (by have := hr.2; show _ < 254; omega)⟩, ?_⟩
        refine c_below (v0 := v0) (v1 := v1) (v2 := k) (v3 := 0) hF hJ hr (fun vr12 hr13 => ?_)
        have hr13 : -9223372036854775808 ≤ vr12 ∧ vr12 < 9223372036854775808 := hr13
        refine ⟨fun c14 => ?_, fun c14 => ?_⟩
        ·
          have c14 : (¬ (vr12 : Int) = 0) := fun e => c14 (lcm_eq.2 e)
          have n15 : (wr (n + 0)) = n + 0 := wr_id (show -2147483648 ≤ (n + 0 : Int) ∧ (n + 0 : Int) < 2147483648 from by omega)
          have n16 : (wr (k + 1)) = k + 1 := wr_id (show -2147483648 ≤ (k + 1 : Int) ∧ (k + 1 : Int) < 2147483648 from by omega)
          exact ih (wr (n + 0)) (wr (k + 1)) J hJ (fun ka ja hk => (hV ka ja (by omega))) (show (0 : Int) ≤ (wr (k + 1)) from by first | with_reducible assumption | omega | (simp only [wr, wl] at *; omega)) (show (J rd 2) = I rd 2 from by first | omega | (simp only [wr, wl] at *; omega)) (show ((J rd 2) - (wr (k + 1))).toNat < mz from by omega)
        ·
          have c14 : ((vr12 : Int) = 0) := lcm_eq.1 c14
          have n17 : -2147483648 ≤ (wr (n + 1)) ∧ (wr (n + 1)) < 2147483648 := wr_R _
          have n18 : (wr (k + 1)) = k + 1 := wr_id (show -2147483648 ≤ (k + 1 : Int) ∧ (k + 1 : Int) < 2147483648 from by omega)
          exact ih (wr (n + 1)) (wr (k + 1)) J hJ (fun ka ja hk => (hV ka ja (by omega))) (show (0 : Int) ≤ (wr (k + 1)) from by first | with_reducible assumption | omega | (simp only [wr, wl] at *; omega)) (show (J rd 2) = I rd 2 from by first | omega | (simp only [wr, wl] at *; omega)) (show ((J rd 2) - (wr (k + 1))).toNat < mz from by omega)
theorem c_tryLine (hF : FS F) (hR : Rg I) {v0 v1 : Int} {rd : Nat} (hr : RP F rd) (hQ : ∀ (I' : pI), Rg I' → AR I' → (∀ k j, ¬ (k = rd ∧ 3 ≤ j) → I' k j = I k j) → Q none F I') : CallN G (d + 2) kX6_tryLine [vr rd, vi v0, vi v1] NP F I Q := by
  refine CallN_in (fun hok hA => CallN_out ?_)
  have iv0 : -2147483648 ≤ v0 ∧ v0 < 2147483648 := hok (vi v0) (by simp)
  have iv1 : -2147483648 ≤ v1 ∧ v1 < 2147483648 := hok (vi v1) (by simp)
  refine Call_wp (lv := [some (vr rd), some (vi v0), some (vi v1), none, none]) (by decide) ckX6_tryLine [35] rfl rfl ?_
  refine ⟨⟨_, hr.1.1, (by have := hr.2; show _ < 254; omega)⟩, ?_⟩
  refine c_isGood (v0 := v0) hF hR hr (fun vr1 hr2 q3 => ?_)
  have hr2 : -2147483648 ≤ vr1 ∧ vr1 < 2147483648 := hr2
  have q3 : 0 ≤ vr1 ∧ vr1 ≤ 1 := q3
  refine ⟨fun (c4 : ((vr1 : Int) = 0)) => ?_, fun (c4 : (¬ ((vr1 : Int) = 0))) => ?_⟩
  ·
    exact ⟨rfl, fun hv hA' => hQ _ hR hA' (fun _ _ _ => rfl)⟩
  ·
    refine ⟨⟨_, hr.1.1, (by have := hr.2; show _ < 254; omega)⟩, ?_⟩
    refine c_isGood (v0 := v1) hF hR hr (fun vr5 hr6 q7 => ?_)
    have hr6 : -2147483648 ≤ vr5 ∧ vr5 < 2147483648 := hr6
    have q7 : 0 ≤ vr5 ∧ vr5 ≤ 1 := q7
    refine ⟨fun (c8 : ((vr5 : Int) = 0)) => ?_, fun (c8 : (¬ ((vr5 : Int) = 0))) => ?_⟩
    ·
      exact ⟨rfl, fun hv hA' => hQ _ hR hA' (fun _ _ _ => rfl)⟩
    ·
      refine ⟨⟨_, hr.1.1, (by have := hr.2; show _ < 254; omega)⟩, ?_⟩
      refine c_stretchAt (v0 := v0) hF hR hr (fun vr9 hr10 => ?_)
      have hr10 : -2147483648 ≤ vr9 ∧ vr9 < 2147483648 := hr10
      refine ⟨⟨_, hr.1.1, (by have := hr.2; show _ < 254; omega)⟩, ?_⟩
      refine c_stretchAt (v0 := v1) hF hR hr (fun vr11 hr12 => ?_)
      have hr12 : -2147483648 ≤ vr11 ∧ vr11 < 2147483648 := hr12
      refine ⟨fun (c13 : (¬ (vr9 : Int) = vr11)) => ?_, fun (c13 : ((vr9 : Int) = vr11)) => ?_⟩
      ·
        have a14 : -2147483648 ≤ (I rd 2) ∧ (I rd 2) < 2147483648 := hA.1 _ _
        refine c_tryLine_l hF hR hr (fun I' g1 g2 hv hA' => hQ _ g1 hA' g2) _ 0 0 I hR (fun _ _ _ => rfl) (show (0 : Int) ≤ (0 : Int) from Int.le_refl _) (show (I rd 2) = I rd 2 from by first | omega | (simp only [wr, wl] at *; omega)) (Nat.lt_succ_self _)
      ·
        exact ⟨rfl, fun hv hA' => hQ _ hR hA' (fun _ _ _ => rfl)⟩
theorem c_findLine_l2 (hF : FS F) (hR : Rg I) {i : Int} {rd : Nat} (hr : RP F rd) (hK : ∀ (J : pI), Rg J → (∀ k j, ¬ (k = rd ∧ 3 ≤ j) → J k j = I k j) → GoN G (d + 3) kX6_findLine NP NP 39 [some (vr rd), some (vi i), none] [] F J Q) : ∀ (mz : Nat) (j : Int) (J : pI), Rg J → (∀ k j, ¬ (k = rd ∧ 3 ≤ j) → J k j = I k j) → ((0 : Int) ≤ j) → ((J rd 2) = I rd 2) → ((J rd 2) - j).toNat < mz → GoN G (d + 3) kX6_findLine NP NP 19 [some (vr rd), some (vi i), some (vi j)] [] F J Q := by
  intro mz
  induction mz with
  | zero => intro j J hJ hV _ _ h; exact absurd h (Nat.not_lt_zero _)
  | succ mz ih =>
    intro j J hJ hV c100 c101 hm
    refine GoN_in (fun hok hA => ?_)
    have iii : -2147483648 ≤ i ∧ i < 2147483648 := hok 1 _ rfl
    have iij : -2147483648 ≤ j ∧ j < 2147483648 := hok 2 _ rfl
    have u1 : (J rd 2) = (I rd 2) := hV _ _ (by first | decide | omega)
    have a2 : -2147483648 ≤ (J rd 2) ∧ (J rd 2) < 2147483648 := hA.1 _ _
    refine Go_wp (by decide) ckX6_findLine [19, 39] ?_
    refine ⟨_, hr.1.1, (by have := hr.2; show _ < 254; omega), ?_⟩
    refine ⟨fun (c3 : (((J rd 2) : Int) ≤ j)) => ?_, fun (c3 : (¬ (((J rd 2) : Int) ≤ j))) => ?_⟩
    ·
      refine GoN_lv (lv' := [some (vr rd), some (vi i), none]) (LvLe.k (LvLe.k (LvLe.d LvLe.n))) ?_
      exact hK  J hJ (fun ka ja hk => (hV ka ja (by omega))) 
    ·
      refine ⟨⟨_, hr.1.1, (by have := hr.2; show _ < 254; omega)⟩, ?_⟩
      refine c_tryLine  hF hJ hr (fun I4 hR5 hA6 hW7 => ?_)
      have n8 : (wr (j + 1)) = j + 1 := wr_id (show -2147483648 ≤ (j + 1 : Int) ∧ (j + 1 : Int) < 2147483648 from by omega)
      have u9 : (I4 rd 2) = (J rd 2) := hW7 _ _ (by first | decide | omega)
      have a10 : -2147483648 ≤ (I4 rd 2) ∧ (I4 rd 2) < 2147483648 := hA6.1 _ _
      exact ih (wr (j + 1)) I4 hR5 (fun ka ja hk => ((hW7 ka ja (by omega))).trans ((hV ka ja (by omega)))) (show (0 : Int) ≤ (wr (j + 1)) from by first | rfl | omega) (show (I4 rd 2) = I rd 2 from by first | rfl | omega) (show ((I4 rd 2) - (wr (j + 1))).toNat < mz from by omega)
theorem c_findLine_l1 (hF : FS F) (hR : Rg I) {rd : Nat} (hr : RP F rd) (hQ : ∀ (r : Int) (I' : pI), Rg I' → (∀ k j, ¬ (k = rd ∧ 3 ≤ j) → I' k j = I k j) → (0 ≤ r ∧ r ≤ 1) → Q (some (vi r)) F I') : ∀ (mz : Nat) (i : Int) (J : pI), Rg J → (∀ k j, ¬ (k = rd ∧ 3 ≤ j) → J k j = I k j) → ((0 : Int) ≤ i) → ((J rd 2) = I rd 2) → ((J rd 2) - i).toNat < mz → GoN G (d + 3) kX6_findLine NP NP 7 [some (vr rd), some (vi i), none] [] F J Q := by
  intro mz
  induction mz with
  | zero => intro i J hJ hV _ _ h; exact absurd h (Nat.not_lt_zero _)
  | succ mz ih =>
    intro i J hJ hV c100 c101 hm
    refine GoN_in (fun hok hA => ?_)
    have iii : -2147483648 ≤ i ∧ i < 2147483648 := hok 1 _ rfl
    have u1 : (J rd 2) = (I rd 2) := hV _ _ (by first | decide | omega)
    have a2 : -2147483648 ≤ (J rd 2) ∧ (J rd 2) < 2147483648 := hA.1 _ _
    refine Go_wp (by decide) ckX6_findLine [7, 19] ?_
    refine ⟨_, hr.1.1, (by have := hr.2; show _ < 254; omega), ?_⟩
    refine ⟨fun (c3 : (((J rd 2) : Int) ≤ i)) => ?_, fun (c3 : (¬ (((J rd 2) : Int) ≤ i))) => ?_⟩
    ·
      refine ⟨_, hr.1.1, (by have := hr.2; show _ < 254; omega), ?_⟩
      have a4 : -2147483648 ≤ (J rd 5) ∧ (J rd 5) < 2147483648 := hA.1 _ _
      refine ⟨fun (c5 : (((J rd 5) : Int) ≤ 0)) => ?_, fun (c5 : (¬ (((J rd 5) : Int) ≤ 0))) => ?_⟩
      ·
        exact ⟨rfl, (by decide), hQ _ _ hJ (fun ka ja hk => (hV ka ja (by omega))) (show 0 ≤ 0 ∧ 0 ≤ 1 from by decide)⟩
      ·
        exact ⟨rfl, (by decide), hQ _ _ hJ (fun ka ja hk => (hV ka ja (by omega))) (show 0 ≤ 1 ∧ 1 ≤ 1 from by decide)⟩
    ·
      have n6 : (wr (i + 1)) = i + 1 := wr_id (show -2147483648 ≤ (i + 1 : Int) ∧ (i + 1 : Int) < 2147483648 from by omega)
      refine c_findLine_l2 hF hJ hr (fun J7 hR8 hV10 => ?_) _ (wr (i + 1)) J hJ (fun _ _ _ => rfl) (show (0 : Int) ≤ (wr (i + 1)) from by first | rfl | omega) (show (J rd 2) = J rd 2 from by first | rfl | omega) (Nat.lt_succ_self _)
      refine GoN_in (fun hok11 hA9 => ?_)
      refine Go_wp (by decide) ckX6_findLine [7, 19] ?_
      have u12 : (J7 rd 2) = (J rd 2) := hV10 _ _ (by first | decide | omega)
      have a13 : -2147483648 ≤ (J7 rd 2) ∧ (J7 rd 2) < 2147483648 := hA9.1 _ _
      exact ih (wr (i + 1)) J7 hR8 (fun ka ja hk => ((hV10 ka ja (by omega))).trans ((hV ka ja (by omega)))) (show (0 : Int) ≤ (wr (i + 1)) from by first | with_reducible assumption | omega | (simp only [wr, wl] at *; omega)) (show (J7 rd 2) = I rd 2 from by first | omega | (simp only [wr, wl] at *; omega)) (show ((J7 rd 2) - (wr (i + 1))).toNat < mz from by omega)
theorem c_findLine (hF : FS F) (hR : Rg I) {rd : Nat} (hr : RP F rd) (hQ : ∀ (r : Int) (I' : pI), Rg I' → AR I' → iR r → (∀ k j, ¬ (k = rd ∧ 3 ≤ j) → I' k j = I k j) → (0 ≤ r ∧ r ≤ 1) → Q (some (vi r)) F I') : CallN G (d + 3) kX6_findLine [vr rd] NP F I Q := by
  refine CallN_in (fun hok hA => CallN_out ?_)
  refine Call_wp (lv := [some (vr rd), none, none]) (by decide) ckX6_findLine [7] rfl rfl ?_
  refine ⟨_, hr.1.1, (by have := hr.2; show _ < 254; omega), ?_⟩
  have u1 : ((uI I rd 5 0) rd 2) = (I rd 2) := uJ_ne (by decide)
  have a2 : -2147483648 ≤ (I rd 2) ∧ (I rd 2) < 2147483648 := hA.1 _ _
  refine c_findLine_l1 hF hR hr (fun r I' g1 g2 g3 hv hA' => hQ _ _ g1 hA' (hv _ rfl) g2 g3) _ 0 (uI I rd 5 0) (Rg.u hR (Pr_l hr.1.1 (by have := hr.2; omega) _ _ (by decide))) (fun ka ja hk => (uI_o (show ¬ (ka = rd ∧ ja = 5) from by have := hr.2; omega))) (show (0 : Int) ≤ (0 : Int) from Int.le_refl _) (show ((uI I rd 5 0) rd 2) = I rd 2 from by first | omega | (simp only [wr, wl] at *; omega)) (Nat.lt_succ_self _)
theorem c_yieldAt_l (hF : FS F) (hR : Rg I) {v0 : Int} {rd : Nat} (hr : RP F rd) (hQ : ∀ (r : Int) , Q (some (vi r)) F I) : ∀ (mz : Nat) (k : Int) , ((I rd 2) - k).toNat < mz → GoN G (d + 2) kX6_yieldAt NP NP 14 [some (vr rd), some (vi v0), some (vi k)] [] F I Q := by
  intro mz
  induction mz with
  | zero => intro k h; exact absurd h (Nat.not_lt_zero _)
  | succ mz ih =>
    intro k hm
    refine GoN_in (fun hok hA => ?_)
    have iiv0 : -2147483648 ≤ v0 ∧ v0 < 2147483648 := hok 1 _ rfl
    have iik : -2147483648 ≤ k ∧ k < 2147483648 := hok 2 _ rfl
    have a1 : -2147483648 ≤ (I rd 2) ∧ (I rd 2) < 2147483648 := hA.1 _ _
    refine Go_wp (by decide) ckX6_yieldAt [14] ?_
    refine ⟨_, hr.1.1, (by have := hr.2; show _ < 254; omega), ?_⟩
    refine ⟨fun (c2 : (((I rd 2) : Int) ≤ k)) => ?_, fun (c2 : (¬ (((I rd 2) : Int) ≤ k))) => ?_⟩
    ·
      exact ⟨rfl, hQ _⟩
    ·
      refine ⟨⟨_, hr.1.1, (by have := hr.2; show _ < 254; omega)⟩, ?_⟩
      refine c_isGood (v0 := k) hF hR hr (fun vr3 hr4 q5 => ?_)
      have hr4 : -2147483648 ≤ vr3 ∧ vr3 < 2147483648 := hr4
      have q5 : 0 ≤ vr3 ∧ vr3 ≤ 1 := q5
      refine ⟨fun (c6 : ((vr3 : Int) = 0)) => ?_, fun (c6 : (¬ ((vr3 : Int) = 0))) => ?_⟩
      ·
        have n7 : (wr (k + 1)) = k + 1 := wr_id (show -2147483648 ≤ (k + 1 : Int) ∧ (k + 1 : Int) < 2147483648 from by omega)
        exact ih (wr (k + 1))   (show ((I rd 2) - (wr (k + 1))).toNat < mz from by omega)
      ·
        refine ⟨_, hr.1.1, (by have := hr.2; show _ < 254; omega), ?_⟩
        refine ⟨_, hr.1.1, (by have := hr.2; show _ < 254; omega), ?_⟩
        refine ⟨⟨_, hr.1.1, (by have := hr.2; show _ < 254; omega)⟩, ?_⟩
        have a8 : -2147483648 ≤ (I rd 3) ∧ (I rd 3) < 2147483648 := hA.1 _ _
        have a9 : -2147483648 ≤ (I rd 4) ∧ (I rd 4) < 2147483648 := hA.1 _ _
        refine c_below (v0 := (I rd 3)) (v1 := (I rd 4)) (v2 := k) (v3 := v0) hF hR hr (fun vr10 hr11 => ?_)
        have hr11 : -9223372036854775808 ≤ vr10 ∧ vr10 < 9223372036854775808 := hr11
        refine ⟨fun c12 => ?_, fun c12 => ?_⟩
        ·
          have c12 : ((vr10 : Int) ≤ 0) := lcm_le.1 c12
          have n13 : (wr (k + 1)) = k + 1 := wr_id (show -2147483648 ≤ (k + 1 : Int) ∧ (k + 1 : Int) < 2147483648 from by omega)
          exact ih (wr (k + 1))   (show ((I rd 2) - (wr (k + 1))).toNat < mz from by omega)
        ·
          have c12 : (¬ ((vr10 : Int) ≤ 0)) := fun e => c12 (lcm_le.2 e)
          exact ⟨rfl, hQ _⟩
theorem c_yieldAt (hF : FS F) (hR : Rg I) {v0 : Int} {rd : Nat} (hr : RP F rd) (hQ : ∀ (r : Int) (I' : pI), Rg I' → AR I' → iR r → (∀ k j, ¬ (k = rd ∧ 3 ≤ j) → I' k j = I k j) → Q (some (vi r)) F I') : CallN G (d + 4) kX6_yieldAt [vr rd, vi v0] NP F I Q := by
  refine CallN_in (fun hok hA => CallN_out ?_)
  have iv0 : -2147483648 ≤ v0 ∧ v0 < 2147483648 := hok (vi v0) (by simp)
  refine Call_wp (lv := [some (vr rd), some (vi v0), none]) (by decide) ckX6_yieldAt [14] rfl rfl ?_
  refine ⟨⟨_, hr.1.1, (by have := hr.2; show _ < 254; omega)⟩, ?_⟩
  refine c_findLine  hF hR hr (fun vr1 I2 hR3 hA4 hr6 hW5 q7 => ?_)
  have hr6 : -2147483648 ≤ vr1 ∧ vr1 < 2147483648 := hr6
  have q7 : 0 ≤ vr1 ∧ vr1 ≤ 1 := q7
  refine ⟨fun (c8 : (¬ (vr1 : Int) = 0)) => ?_, fun (c8 : ((vr1 : Int) = 0)) => ?_⟩
  ·
    refine ⟨_, hr.1.1, (by have := hr.2; show _ < 254; omega), ?_⟩
    have a9 : -2147483648 ≤ (I2 rd 4) ∧ (I2 rd 4) < 2147483648 := hA4.1 _ _
    have u10 : (I2 rd 2) = (I rd 2) := hW5 _ _ (by first | decide | omega)
    have a11 : -2147483648 ≤ (I rd 2) ∧ (I rd 2) < 2147483648 := hA.1 _ _
    have a12 : -2147483648 ≤ (I2 rd 2) ∧ (I2 rd 2) < 2147483648 := hA4.1 _ _
    refine c_yieldAt_l hF hR3 hr (fun r hv hA' => hQ _ _ hR3 hA' (hv _ rfl) (fun ka ja hk => (hW5 ka ja (by omega)))) _ (I2 rd 4)   (Nat.lt_succ_self _)
  ·
    exact ⟨rfl, fun hv hA' => hQ _ _ hR3 hA' (hv _ rfl) (fun ka ja hk => (hW5 ka ja (by omega)))⟩
theorem c_topAt_l (hF : FS F) (hR : Rg I) {rd : Nat} (hr : RP F rd) (hQ : ∀ (r : Int) , Q (some (vi r)) F I) : ∀ (mz : Nat) (b i : Int) , ((0 : Int) ≤ i) → ((I rd 2) - i).toNat < mz → GoN G (d + 2) kX6_topAt NP NP 4 [some (vr rd), some (vi b), some (vi i)] [] F I Q := by
  intro mz
  induction mz with
  | zero => intro b i _ h; exact absurd h (Nat.not_lt_zero _)
  | succ mz ih =>
    intro b i c100 hm
    refine GoN_in (fun hok hA => ?_)
    have iib : -2147483648 ≤ b ∧ b < 2147483648 := hok 1 _ rfl
    have iii : -2147483648 ≤ i ∧ i < 2147483648 := hok 2 _ rfl
    have a1 : -2147483648 ≤ (I rd 2) ∧ (I rd 2) < 2147483648 := hA.1 _ _
    refine Go_wp (by decide) ckX6_topAt [4] ?_
    refine ⟨_, hr.1.1, (by have := hr.2; show _ < 254; omega), ?_⟩
    refine ⟨fun (c2 : (((I rd 2) : Int) ≤ i)) => ?_, fun (c2 : (¬ (((I rd 2) : Int) ≤ i))) => ?_⟩
    ·
      exact ⟨rfl, hQ _⟩
    ·
      refine ⟨⟨_, hr.1.1, (by have := hr.2; show _ < 254; omega)⟩, ?_⟩
      refine c_isGood (v0 := i) hF hR hr (fun vr3 hr4 q5 => ?_)
      have hr4 : -2147483648 ≤ vr3 ∧ vr3 < 2147483648 := hr4
      have q5 : 0 ≤ vr3 ∧ vr3 ≤ 1 := q5
      refine ⟨fun (c6 : ((vr3 : Int) = 0)) => ?_, fun (c6 : (¬ ((vr3 : Int) = 0))) => ?_⟩
      ·
        have n7 : (wr (i + 1)) = i + 1 := wr_id (show -2147483648 ≤ (i + 1 : Int) ∧ (i + 1 : Int) < 2147483648 from by omega)
        exact ih b (wr (i + 1))  (show (0 : Int) ≤ (wr (i + 1)) from by first | with_reducible assumption | omega | (simp only [wr, wl] at *; omega)) (show ((I rd 2) - (wr (i + 1))).toNat < mz from by omega)
      ·
        refine ⟨fun (c8 : ((b : Int) < 0)) => ?_, fun (c8 : (¬ ((b : Int) < 0))) => ?_⟩
        ·
          have n9 : (wr (i + 1)) = i + 1 := wr_id (show -2147483648 ≤ (i + 1 : Int) ∧ (i + 1 : Int) < 2147483648 from by omega)
          exact ih i (wr (i + 1))  (show (0 : Int) ≤ (wr (i + 1)) from by first | with_reducible assumption | omega | (simp only [wr, wl] at *; omega)) (show ((I rd 2) - (wr (i + 1))).toNat < mz from by omega)
        ·
          refine ⟨⟨_, hr.1.1, (by have := hr.2; show _ < 254; omega)⟩, ?_⟩
          refine c_loadAt (v0 := i) hF hR hr (fun vr10 hr11 => ?_)
          have hr11 : -2147483648 ≤ vr10 ∧ vr10 < 2147483648 := hr11
          refine ⟨⟨_, hr.1.1, (by have := hr.2; show _ < 254; omega)⟩, ?_⟩
          refine c_loadAt (v0 := b) hF hR hr (fun vr12 hr13 => ?_)
          have hr13 : -2147483648 ≤ vr12 ∧ vr12 < 2147483648 := hr13
          refine ⟨fun (c14 : ((vr10 : Int) ≤ vr12)) => ?_, fun (c14 : (¬ ((vr10 : Int) ≤ vr12))) => ?_⟩
          ·
            have n15 : (wr (i + 1)) = i + 1 := wr_id (show -2147483648 ≤ (i + 1 : Int) ∧ (i + 1 : Int) < 2147483648 from by omega)
            exact ih b (wr (i + 1))  (show (0 : Int) ≤ (wr (i + 1)) from by first | with_reducible assumption | omega | (simp only [wr, wl] at *; omega)) (show ((I rd 2) - (wr (i + 1))).toNat < mz from by omega)
          ·
            have n16 : (wr (i + 1)) = i + 1 := wr_id (show -2147483648 ≤ (i + 1 : Int) ∧ (i + 1 : Int) < 2147483648 from by omega)
            exact ih i (wr (i + 1))  (show (0 : Int) ≤ (wr (i + 1)) from by first | with_reducible assumption | omega | (simp only [wr, wl] at *; omega)) (show ((I rd 2) - (wr (i + 1))).toNat < mz from by omega)
theorem c_topAt (hF : FS F) (hR : Rg I) {rd : Nat} (hr : RP F rd) (hQ : ∀ r : Int, iR r → Q (some (vi r)) F I) : CallN G (d + 2) kX6_topAt [vr rd] NP F I Q := by
  refine CallN_in (fun hok hA => CallN_out ?_)
  refine Call_wp (lv := [some (vr rd), none, none]) (by decide) ckX6_topAt [4] rfl rfl ?_
  have a1 : -2147483648 ≤ (I rd 2) ∧ (I rd 2) < 2147483648 := hA.1 _ _
  refine c_topAt_l hF hR hr (fun r hv hA' => hQ _ (hv _ rfl)) _ (-1) 0  (show (0 : Int) ≤ (0 : Int) from Int.le_refl _) (Nat.lt_succ_self _)
theorem c_breakAt_l (hF : FS F) (hR : Rg I) {v0 : Int} {rd : Nat} (hr : RP F rd) (hQ : ∀ (r : Int) , Q (some (vi r)) F I) : ∀ (mz : Nat) (b i : Int) , ((I rd 2) - i).toNat < mz → GoN G (d + 2) kX6_breakAt NP NP 15 [some (vr rd), some (vi v0), some (vi b), some (vi i)] [] F I Q := by
  intro mz
  induction mz with
  | zero => intro b i h; exact absurd h (Nat.not_lt_zero _)
  | succ mz ih =>
    intro b i hm
    refine GoN_in (fun hok hA => ?_)
    have iiv0 : -2147483648 ≤ v0 ∧ v0 < 2147483648 := hok 1 _ rfl
    have iib : -2147483648 ≤ b ∧ b < 2147483648 := hok 2 _ rfl
    have iii : -2147483648 ≤ i ∧ i < 2147483648 := hok 3 _ rfl
    have a1 : -2147483648 ≤ (I rd 2) ∧ (I rd 2) < 2147483648 := hA.1 _ _
    refine Go_wp (by decide) ckX6_breakAt [15] ?_
    refine ⟨_, hr.1.1, (by have := hr.2; show _ < 254; omega), ?_⟩
    refine ⟨fun (c2 : (((I rd 2) : Int) ≤ i)) => ?_, fun (c2 : (¬ (((I rd 2) : Int) ≤ i))) => ?_⟩
    ·
      exact ⟨rfl, hQ _⟩
    ·
      refine ⟨⟨_, hr.1.1, (by have := hr.2; show _ < 254; omega)⟩, ?_⟩
      refine c_isGood (v0 := i) hF hR hr (fun vr3 hr4 q5 => ?_)
      have hr4 : -2147483648 ≤ vr3 ∧ vr3 < 2147483648 := hr4
      have q5 : 0 ≤ vr3 ∧ vr3 ≤ 1 := q5
      refine ⟨fun (c6 : ((vr3 : Int) = 0)) => ?_, fun (c6 : (¬ ((vr3 : Int) = 0))) => ?_⟩
      ·
        have n7 : (wr (i + 1)) = i + 1 := wr_id (show -2147483648 ≤ (i + 1 : Int) ∧ (i + 1 : Int) < 2147483648 from by omega)
        exact ih b (wr (i + 1))   (show ((I rd 2) - (wr (i + 1))).toNat < mz from by omega)
      ·
        refine ⟨⟨_, hr.1.1, (by have := hr.2; show _ < 254; omega)⟩, ?_⟩
        refine c_loadAt (v0 := i) hF hR hr (fun vr8 hr9 => ?_)
        have hr9 : -2147483648 ≤ vr8 ∧ vr8 < 2147483648 := hr9
        refine ⟨⟨_, hr.1.1, (by have := hr.2; show _ < 254; omega)⟩, ?_⟩
        refine c_loadAt (v0 := b) hF hR hr (fun vr10 hr11 => ?_)
        have hr11 : -2147483648 ≤ vr10 ∧ vr10 < 2147483648 := hr11
        have n12 : (wl (vr8 * 100)) = vr8 * 100 := wl_id (show -9223372036854775808 ≤ (vr8 * 100 : Int) ∧ (vr8 * 100 : Int) < 9223372036854775808 from by omega)
        have n13 : (wl (100 - v0)) = 100 - v0 := wl_id (show -9223372036854775808 ≤ (100 - v0 : Int) ∧ (100 - v0 : Int) < 9223372036854775808 from by omega)
        refine ⟨fun c14 => ?_, fun c14 => ?_⟩
        ·
          have c14 : (((wl (vr10 * (wl (100 - v0)))) : Int) ≤ (wl (vr8 * 100))) := lcm_ge.1 c14
          have n15 : (wr (i + 1)) = i + 1 := wr_id (show -2147483648 ≤ (i + 1 : Int) ∧ (i + 1 : Int) < 2147483648 from by omega)
          exact ih b (wr (i + 1))   (show ((I rd 2) - (wr (i + 1))).toNat < mz from by omega)
        ·
          have c14 : (¬ (((wl (vr10 * (wl (100 - v0)))) : Int) ≤ (wl (vr8 * 100)))) := fun e => c14 (lcm_ge.2 e)
          exact ⟨rfl, hQ _⟩
theorem c_breakAt (hF : FS F) (hR : Rg I) {v0 : Int} {rd : Nat} (hr : RP F rd) (hQ : ∀ r : Int, iR r → Q (some (vi r)) F I) : CallN G (d + 3) kX6_breakAt [vr rd, vi v0] NP F I Q := by
  refine CallN_in (fun hok hA => CallN_out ?_)
  have iv0 : -2147483648 ≤ v0 ∧ v0 < 2147483648 := hok (vi v0) (by simp)
  refine Call_wp (lv := [some (vr rd), some (vi v0), none, none]) (by decide) ckX6_breakAt [15] rfl rfl ?_
  refine ⟨⟨_, hr.1.1, (by have := hr.2; show _ < 254; omega)⟩, ?_⟩
  refine c_topAt  hF hR hr (fun vr1 hr2 => ?_)
  have hr2 : -2147483648 ≤ vr1 ∧ vr1 < 2147483648 := hr2
  refine ⟨fun (c3 : ((0 : Int) ≤ vr1)) => ?_, fun (c3 : (¬ ((0 : Int) ≤ vr1))) => ?_⟩
  ·
    have n4 : -2147483648 ≤ (wr (vr1 + 1)) ∧ (wr (vr1 + 1)) < 2147483648 := wr_R _
    have a5 : -2147483648 ≤ (I rd 2) ∧ (I rd 2) < 2147483648 := hA.1 _ _
    refine c_breakAt_l hF hR hr (fun r hv hA' => hQ _ (hv _ rfl)) _ vr1 (wr (vr1 + 1))   (Nat.lt_succ_self _)
  ·
    exact ⟨rfl, fun hv hA' => hQ _ (hv _ rfl)⟩
theorem c_between (hF : FS F) (hR : Rg I) {v0 v1 : Int} {rd : Nat} (hr : RP F rd) (hQ : ∀ r : Int, lR r → Q (some (vl r)) F I) : CallN G (d + 1) kX6_spentBetween [vr rd, vi v0, vi v1] NP F I Q := by
  refine CallN_in (fun hok hA => CallN_out ?_)
  have iv0 : -2147483648 ≤ v0 ∧ v0 < 2147483648 := hok (vi v0) (by simp)
  have iv1 : -2147483648 ≤ v1 ∧ v1 < 2147483648 := hok (vi v1) (by simp)
  refine Call_wp (lv := [some (vr rd), some (vi v0), some (vi v1), none, none]) (by decide) ckX6_spentBetween [] rfl rfl ?_
  refine ⟨⟨_, hr.1.1, (by have := hr.2; show _ < 254; omega)⟩, ?_⟩
  refine c_stretchAt (v0 := v1) hF hR hr (fun vr1 hr2 => ?_)
  have hr2 : -2147483648 ≤ vr1 ∧ vr1 < 2147483648 := hr2
  refine ⟨⟨_, hr.1.1, (by have := hr.2; show _ < 254; omega)⟩, ?_⟩
  refine c_stretchAt (v0 := v0) hF hR hr (fun vr3 hr4 => ?_)
  have hr4 : -2147483648 ≤ vr3 ∧ vr3 < 2147483648 := hr4
  have n5 : -2147483648 ≤ (wr (vr1 - vr3)) ∧ (wr (vr1 - vr3)) < 2147483648 := wr_R _
  refine j_max (fun w6 h7 h8 h9 => ?_)
  refine ⟨⟨_, hr.1.1, (by have := hr.2; show _ < 254; omega)⟩, ?_⟩
  refine c_loadAt (v0 := v0) hF hR hr (fun vr10 hr11 => ?_)
  have hr11 : -2147483648 ≤ vr10 ∧ vr10 < 2147483648 := hr11
  refine ⟨⟨_, hr.1.1, (by have := hr.2; show _ < 254; omega)⟩, ?_⟩
  refine c_loadAt (v0 := v1) hF hR hr (fun vr12 hr13 => ?_)
  have hr13 : -2147483648 ≤ vr12 ∧ vr12 < 2147483648 := hr13
  exact ⟨rfl, fun hv hA' => hQ _ (hv _ rfl)⟩
theorem c_spentUpTo_l (hF : FS F) (hR : Rg I) {v0 : Int} {rd : Nat} (hr : RP F rd) (hQ : ∀ (r : Int) , Q (some (vl r)) F I) : ∀ (mz : Nat) (s a i : Int) , ((0 : Int) ≤ i) → ((I rd 2) - i).toNat < mz → GoN G (d + 2) kX6_spentUpTo NP NP 8 [some (vr rd), some (vi v0), some (vl s), none, some (vi a), some (vi i)] [] F I Q := by
  intro mz
  induction mz with
  | zero => intro s a i _ h; exact absurd h (Nat.not_lt_zero _)
  | succ mz ih =>
    intro s a i c100 hm
    refine GoN_in (fun hok hA => ?_)
    have iiv0 : -2147483648 ≤ v0 ∧ v0 < 2147483648 := hok 1 _ rfl
    have iis : -9223372036854775808 ≤ s ∧ s < 9223372036854775808 := hok 2 _ rfl
    have iia : -2147483648 ≤ a ∧ a < 2147483648 := hok 4 _ rfl
    have iii : -2147483648 ≤ i ∧ i < 2147483648 := hok 5 _ rfl
    have a1 : -2147483648 ≤ (I rd 2) ∧ (I rd 2) < 2147483648 := hA.1 _ _
    refine Go_wp (by decide) ckX6_spentUpTo [8] ?_
    refine ⟨fun (c2 : ((v0 : Int) < i)) => ?_, fun (c2 : (¬ ((v0 : Int) < i))) => ?_⟩
    ·
      exact ⟨rfl, hQ _⟩
    ·
      refine ⟨_, hr.1.1, (by have := hr.2; show _ < 254; omega), ?_⟩
      refine ⟨fun (c3 : (((I rd 2) : Int) ≤ i)) => ?_, fun (c3 : (¬ (((I rd 2) : Int) ≤ i))) => ?_⟩
      ·
        exact ⟨rfl, hQ _⟩
      ·
        refine ⟨⟨_, hr.1.1, (by have := hr.2; show _ < 254; omega)⟩, ?_⟩
        refine c_isGood (v0 := i) hF hR hr (fun vr4 hr5 q6 => ?_)
        have hr5 : -2147483648 ≤ vr4 ∧ vr4 < 2147483648 := hr5
        have q6 : 0 ≤ vr4 ∧ vr4 ≤ 1 := q6
        refine ⟨fun (c7 : ((vr4 : Int) = 0)) => ?_, fun (c7 : (¬ ((vr4 : Int) = 0))) => ?_⟩
        ·
          have n8 : (wr (i + 1)) = i + 1 := wr_id (show -2147483648 ≤ (i + 1 : Int) ∧ (i + 1 : Int) < 2147483648 from by omega)
          exact ih s a (wr (i + 1))  (show (0 : Int) ≤ (wr (i + 1)) from by first | with_reducible assumption | omega | (simp only [wr, wl] at *; omega)) (show ((I rd 2) - (wr (i + 1))).toNat < mz from by omega)
        ·
          refine ⟨fun (c9 : ((0 : Int) ≤ a)) => ?_, fun (c9 : (¬ ((0 : Int) ≤ a))) => ?_⟩
          ·
            refine ⟨⟨_, hr.1.1, (by have := hr.2; show _ < 254; omega)⟩, ?_⟩
            refine c_between (v0 := a) (v1 := i) hF hR hr (fun vr10 hr11 => ?_)
            have hr11 : -9223372036854775808 ≤ vr10 ∧ vr10 < 9223372036854775808 := hr11
            have n12 : (wr (i + 1)) = i + 1 := wr_id (show -2147483648 ≤ (i + 1 : Int) ∧ (i + 1 : Int) < 2147483648 from by omega)
            exact ih (wl (s + vr10)) i (wr (i + 1))  (show (0 : Int) ≤ (wr (i + 1)) from by first | with_reducible assumption | omega | (simp only [wr, wl] at *; omega)) (show ((I rd 2) - (wr (i + 1))).toNat < mz from by omega)
          ·
            have n13 : (wl (s + 0)) = s + 0 := wl_id (show -9223372036854775808 ≤ (s + 0 : Int) ∧ (s + 0 : Int) < 9223372036854775808 from by omega)
            have n14 : (wr (i + 1)) = i + 1 := wr_id (show -2147483648 ≤ (i + 1 : Int) ∧ (i + 1 : Int) < 2147483648 from by omega)
            exact ih (wl (s + 0)) i (wr (i + 1))  (show (0 : Int) ≤ (wr (i + 1)) from by first | with_reducible assumption | omega | (simp only [wr, wl] at *; omega)) (show ((I rd 2) - (wr (i + 1))).toNat < mz from by omega)
theorem c_spentUpTo (hF : FS F) (hR : Rg I) {v0 : Int} {rd : Nat} (hr : RP F rd) (hQ : ∀ r : Int, lR r → Q (some (vl r)) F I) : CallN G (d + 2) kX6_spentUpTo [vr rd, vi v0] NP F I Q := by
  refine CallN_in (fun hok hA => CallN_out ?_)
  have iv0 : -2147483648 ≤ v0 ∧ v0 < 2147483648 := hok (vi v0) (by simp)
  refine Call_wp (lv := [some (vr rd), some (vi v0), none, none, none, none]) (by decide) ckX6_spentUpTo [8] rfl rfl ?_
  have a1 : -2147483648 ≤ (I rd 2) ∧ (I rd 2) < 2147483648 := hA.1 _ _
  refine c_spentUpTo_l hF hR hr (fun r hv hA' => hQ _ (hv _ rfl)) _ 0 (-1) 0  (show (0 : Int) ≤ (0 : Int) from Int.le_refl _) (Nat.lt_succ_self _)
theorem c_numberBy (hF : FS F) (hR : Rg I) {v0 : Int} {rd : Nat} (hr : RP F rd) (hQ : ∀ (r : Int) (I' : pI), Rg I' → AR I' → iR r → (∀ k j, ¬ (k = rd ∧ 3 ≤ j) → I' k j = I k j) → Q (some (vi r)) F I') : CallN G (d + 5) kX6_numberBy [vr rd, vi v0] NP F I Q := by
  refine CallN_in (fun hok hA => CallN_out ?_)
  have iv0 : -2147483648 ≤ v0 ∧ v0 < 2147483648 := hok (vi v0) (by simp)
  refine Call_wp (lv := [some (vr rd), some (vi v0), none]) (by decide) ckX6_numberBy [] rfl rfl ?_
  refine ⟨⟨_, hr.1.1, (by have := hr.2; show _ < 254; omega)⟩, ?_⟩
  refine c_topAt  hF hR hr (fun vr1 hr2 => ?_)
  have hr2 : -2147483648 ≤ vr1 ∧ vr1 < 2147483648 := hr2
  refine ⟨fun (c3 : ((0 : Int) ≤ vr1)) => ?_, fun (c3 : (¬ ((0 : Int) ≤ vr1))) => ?_⟩
  ·
    refine ⟨fun (c4 : ((v0 : Int) = 0)) => ?_, fun (c4 : (¬ ((v0 : Int) = 0))) => ?_⟩
    ·
      refine ⟨⟨_, hr.1.1, (by have := hr.2; show _ < 254; omega)⟩, ?_⟩
      refine c_loadAt (v0 := vr1) hF hR hr (fun vr5 hr6 => ?_)
      have hr6 : -2147483648 ≤ vr5 ∧ vr5 < 2147483648 := hr6
      exact ⟨rfl, fun hv hA' => hQ _ _ hR hA' (hv _ rfl) (fun _ _ _ => rfl)⟩
    ·
      refine ⟨fun (c7 : ((v0 : Int) = 1)) => ?_, fun (c7 : (¬ ((v0 : Int) = 1))) => ?_⟩
      ·
        refine ⟨⟨_, hr.1.1, (by have := hr.2; show _ < 254; omega)⟩, ?_⟩
        refine c_yieldAt (v0 := 2) hF hR hr (fun vr8 I9 hR10 hA11 hr13 hW12 => ?_)
        have hr13 : -2147483648 ≤ vr8 ∧ vr8 < 2147483648 := hr13
        refine ⟨⟨_, hr.1.1, (by have := hr.2; show _ < 254; omega)⟩, ?_⟩
        refine Call_wp (lv := [some (vr rd), some (vi vr8)]) (by decide) ckX6_stretchOr [] rfl rfl ?_
        refine ⟨fun (c14 : ((0 : Int) ≤ vr8)) => ?_, fun (c14 : (¬ ((0 : Int) ≤ vr8))) => ?_⟩
        ·
          refine ⟨⟨_, hr.1.1, (by have := hr.2; show _ < 254; omega)⟩, ?_⟩
          refine c_stretchAt (v0 := vr8) hF hR10 hr (fun vr15 hr16 => ?_)
          have hr16 : -2147483648 ≤ vr15 ∧ vr15 < 2147483648 := hr16
          refine ⟨rfl, ?_⟩
          exact ⟨rfl, fun hv hA' => hQ _ _ hR10 hA' (hv _ rfl) (fun ka ja hk => (hW12 ka ja (by omega)))⟩
        ·
          refine ⟨rfl, ?_⟩
          exact ⟨rfl, fun hv hA' => hQ _ _ hR10 hA' (hv _ rfl) (fun ka ja hk => (hW12 ka ja (by omega)))⟩
      ·
        refine ⟨fun (c17 : ((v0 : Int) = 2)) => ?_, fun (c17 : (¬ ((v0 : Int) = 2))) => ?_⟩
        ·
          refine ⟨⟨_, hr.1.1, (by have := hr.2; show _ < 254; omega)⟩, ?_⟩
          refine c_breakAt (v0 := 20) hF hR hr (fun vr18 hr19 => ?_)
          have hr19 : -2147483648 ≤ vr18 ∧ vr18 < 2147483648 := hr19
          refine ⟨⟨_, hr.1.1, (by have := hr.2; show _ < 254; omega)⟩, ?_⟩
          refine Call_wp (lv := [some (vr rd), some (vi vr18)]) (by decide) ckX6_stretchOr [] rfl rfl ?_
          refine ⟨fun (c20 : ((0 : Int) ≤ vr18)) => ?_, fun (c20 : (¬ ((0 : Int) ≤ vr18))) => ?_⟩
          ·
            refine ⟨⟨_, hr.1.1, (by have := hr.2; show _ < 254; omega)⟩, ?_⟩
            refine c_stretchAt (v0 := vr18) hF hR hr (fun vr21 hr22 => ?_)
            have hr22 : -2147483648 ≤ vr21 ∧ vr21 < 2147483648 := hr22
            refine ⟨rfl, ?_⟩
            exact ⟨rfl, fun hv hA' => hQ _ _ hR hA' (hv _ rfl) (fun _ _ _ => rfl)⟩
          ·
            refine ⟨rfl, ?_⟩
            exact ⟨rfl, fun hv hA' => hQ _ _ hR hA' (hv _ rfl) (fun _ _ _ => rfl)⟩
        ·
          refine ⟨fun (c23 : ((v0 : Int) = 3)) => ?_, fun (c23 : (¬ ((v0 : Int) = 3))) => ?_⟩
          ·
            refine ⟨_, hr.1.1, (by have := hr.2; show _ < 254; omega), ?_⟩
            refine ⟨⟨_, hr.1.1, (by have := hr.2; show _ < 254; omega)⟩, ?_⟩
            have a24 : -2147483648 ≤ (I rd 2) ∧ (I rd 2) < 2147483648 := hA.1 _ _
            have n25 : -2147483648 ≤ (wr ((I rd 2) - 1)) ∧ (wr ((I rd 2) - 1)) < 2147483648 := wr_R _
            refine c_spentUpTo (v0 := (wr ((I rd 2) - 1))) hF hR hr (fun vr26 hr27 => ?_)
            have hr27 : -9223372036854775808 ≤ vr26 ∧ vr26 < 9223372036854775808 := hr27
            refine j_minL (fun w28 h29 h30 h31 => ?_)
            exact ⟨rfl, fun hv hA' => hQ _ _ hR hA' (hv _ rfl) (fun _ _ _ => rfl)⟩
          ·
            exact ⟨rfl, fun hv hA' => hQ _ _ hR hA' (hv _ rfl) (fun _ _ _ => rfl)⟩
  ·
    exact ⟨rfl, fun hv hA' => hQ _ _ hR hA' (hv _ rfl) (fun _ _ _ => rfl)⟩
theorem c_straight (hF : FS F) (hR : Rg I) {v0 v1 v2 v3 : Int}  (hQ : ∀ r : Int, iR r → Q (some (vi r)) F I) : CallN G d kX11_straight [vi v0, vi v1, vi v2, vi v3] NP F I Q := by
  refine CallN_in (fun hok hA => CallN_out ?_)
  have iv0 : -2147483648 ≤ v0 ∧ v0 < 2147483648 := hok (vi v0) (by simp)
  have iv1 : -2147483648 ≤ v1 ∧ v1 < 2147483648 := hok (vi v1) (by simp)
  have iv2 : -2147483648 ≤ v2 ∧ v2 < 2147483648 := hok (vi v2) (by simp)
  have iv3 : -2147483648 ≤ v3 ∧ v3 < 2147483648 := hok (vi v3) (by simp)
  refine Call_wp (lv := [some (vi v0), some (vi v1), some (vi v2), some (vi v3)]) (by decide) ckX11_straight [] rfl rfl ?_
  refine ⟨fun (c1 : (¬ (v3 : Int) = 0)) => ?_, fun (c1 : ((v3 : Int) = 0)) => ?_⟩
  ·
    refine ⟨(show ¬ (v3 : Int) = 0 from by first | omega | (simp only [wr, wl] at *; omega)), ?_⟩
    exact ⟨rfl, fun hv hA' => hQ _ (hv _ rfl)⟩
  ·
    exact ⟨rfl, fun hv hA' => hQ _ (hv _ rfl)⟩
theorem c_curveAt_l (hF : FS F) (hR : Rg I) {v0 : Int} {rd : Nat} (hr : RP F rd) (hQ : ∀ (r : Int) , Q (some (vi r)) F I) : ∀ (mz : Nat) (a i : Int) , ((0 : Int) ≤ i) → ((I rd 2) - i).toNat < mz → GoN G (d + 2) kX6_curveAt NP NP 4 [some (vr rd), some (vi v0), some (vi a), some (vi i)] [] F I Q := by
  intro mz
  induction mz with
  | zero => intro a i _ h; exact absurd h (Nat.not_lt_zero _)
  | succ mz ih =>
    intro a i c100 hm
    refine GoN_in (fun hok hA => ?_)
    have iiv0 : -2147483648 ≤ v0 ∧ v0 < 2147483648 := hok 1 _ rfl
    have iia : -2147483648 ≤ a ∧ a < 2147483648 := hok 2 _ rfl
    have iii : -2147483648 ≤ i ∧ i < 2147483648 := hok 3 _ rfl
    have a1 : -2147483648 ≤ (I rd 2) ∧ (I rd 2) < 2147483648 := hA.1 _ _
    refine Go_wp (by decide) ckX6_curveAt [4] ?_
    refine ⟨_, hr.1.1, (by have := hr.2; show _ < 254; omega), ?_⟩
    refine ⟨fun (c2 : (((I rd 2) : Int) ≤ i)) => ?_, fun (c2 : (¬ (((I rd 2) : Int) ≤ i))) => ?_⟩
    ·
      exact ⟨rfl, hQ _⟩
    ·
      refine ⟨⟨_, hr.1.1, (by have := hr.2; show _ < 254; omega)⟩, ?_⟩
      refine c_isGood (v0 := i) hF hR hr (fun vr3 hr4 q5 => ?_)
      have hr4 : -2147483648 ≤ vr3 ∧ vr3 < 2147483648 := hr4
      have q5 : 0 ≤ vr3 ∧ vr3 ≤ 1 := q5
      refine ⟨fun (c6 : (¬ (vr3 : Int) = 0)) => ?_, fun (c6 : ((vr3 : Int) = 0)) => ?_⟩
      ·
        refine ⟨fun (c7 : ((a : Int) < 0)) => ?_, fun (c7 : (¬ ((a : Int) < 0))) => ?_⟩
        ·
          have n8 : (wr (i + 1)) = i + 1 := wr_id (show -2147483648 ≤ (i + 1 : Int) ∧ (i + 1 : Int) < 2147483648 from by omega)
          exact ih i (wr (i + 1))  (show (0 : Int) ≤ (wr (i + 1)) from by first | with_reducible assumption | omega | (simp only [wr, wl] at *; omega)) (show ((I rd 2) - (wr (i + 1))).toNat < mz from by omega)
        ·
          refine ⟨⟨_, hr.1.1, (by have := hr.2; show _ < 254; omega)⟩, ?_⟩
          refine c_stretchAt (v0 := a) hF hR hr (fun vr9 hr10 => ?_)
          have hr10 : -2147483648 ≤ vr9 ∧ vr9 < 2147483648 := hr10
          refine ⟨fun (c11 : ((v0 : Int) < vr9)) => ?_, fun (c11 : (¬ ((v0 : Int) < vr9))) => ?_⟩
          ·
            have n12 : (wr (i + 1)) = i + 1 := wr_id (show -2147483648 ≤ (i + 1 : Int) ∧ (i + 1 : Int) < 2147483648 from by omega)
            exact ih i (wr (i + 1))  (show (0 : Int) ≤ (wr (i + 1)) from by first | with_reducible assumption | omega | (simp only [wr, wl] at *; omega)) (show ((I rd 2) - (wr (i + 1))).toNat < mz from by omega)
          ·
            refine ⟨⟨_, hr.1.1, (by have := hr.2; show _ < 254; omega)⟩, ?_⟩
            refine c_stretchAt (v0 := i) hF hR hr (fun vr13 hr14 => ?_)
            have hr14 : -2147483648 ≤ vr13 ∧ vr13 < 2147483648 := hr14
            refine ⟨fun (c15 : ((vr13 : Int) < v0)) => ?_, fun (c15 : (¬ ((vr13 : Int) < v0))) => ?_⟩
            ·
              have n16 : (wr (i + 1)) = i + 1 := wr_id (show -2147483648 ≤ (i + 1 : Int) ∧ (i + 1 : Int) < 2147483648 from by omega)
              exact ih i (wr (i + 1))  (show (0 : Int) ≤ (wr (i + 1)) from by first | with_reducible assumption | omega | (simp only [wr, wl] at *; omega)) (show ((I rd 2) - (wr (i + 1))).toNat < mz from by omega)
            ·
              refine ⟨⟨_, hr.1.1, (by have := hr.2; show _ < 254; omega)⟩, ?_⟩
              refine c_loadAt (v0 := a) hF hR hr (fun vr17 hr18 => ?_)
              have hr18 : -2147483648 ≤ vr17 ∧ vr17 < 2147483648 := hr18
              refine ⟨⟨_, hr.1.1, (by have := hr.2; show _ < 254; omega)⟩, ?_⟩
              refine c_loadAt (v0 := i) hF hR hr (fun vr19 hr20 => ?_)
              have hr20 : -2147483648 ≤ vr19 ∧ vr19 < 2147483648 := hr20
              refine ⟨⟨_, hr.1.1, (by have := hr.2; show _ < 254; omega)⟩, ?_⟩
              refine c_stretchAt (v0 := a) hF hR hr (fun vr21 hr22 => ?_)
              have hr22 : -2147483648 ≤ vr21 ∧ vr21 < 2147483648 := hr22
              refine ⟨⟨_, hr.1.1, (by have := hr.2; show _ < 254; omega)⟩, ?_⟩
              refine c_stretchAt (v0 := i) hF hR hr (fun vr23 hr24 => ?_)
              have hr24 : -2147483648 ≤ vr23 ∧ vr23 < 2147483648 := hr24
              refine ⟨⟨_, hr.1.1, (by have := hr.2; show _ < 254; omega)⟩, ?_⟩
              refine c_stretchAt (v0 := a) hF hR hr (fun vr25 hr26 => ?_)
              have hr26 : -2147483648 ≤ vr25 ∧ vr25 < 2147483648 := hr26
              have n27 : -2147483648 ≤ (wr (v0 - vr21)) ∧ (wr (v0 - vr21)) < 2147483648 := wr_R _
              have n28 : -2147483648 ≤ (wr (vr23 - vr25)) ∧ (wr (vr23 - vr25)) < 2147483648 := wr_R _
              refine c_straight  hF hR (fun vr29 hr30 => ?_)
              have hr30 : -2147483648 ≤ vr29 ∧ vr29 < 2147483648 := hr30
              exact ⟨rfl, hQ _⟩
      ·
        have n31 : (wr (i + 1)) = i + 1 := wr_id (show -2147483648 ≤ (i + 1 : Int) ∧ (i + 1 : Int) < 2147483648 from by omega)
        exact ih a (wr (i + 1))  (show (0 : Int) ≤ (wr (i + 1)) from by first | with_reducible assumption | omega | (simp only [wr, wl] at *; omega)) (show ((I rd 2) - (wr (i + 1))).toNat < mz from by omega)
theorem c_curveAt (hF : FS F) (hR : Rg I) {v0 : Int} {rd : Nat} (hr : RP F rd) (hQ : ∀ r : Int, iR r → Q (some (vi r)) F I) : CallN G (d + 2) kX6_curveAt [vr rd, vi v0] NP F I Q := by
  refine CallN_in (fun hok hA => CallN_out ?_)
  have iv0 : -2147483648 ≤ v0 ∧ v0 < 2147483648 := hok (vi v0) (by simp)
  refine Call_wp (lv := [some (vr rd), some (vi v0), none, none]) (by decide) ckX6_curveAt [4] rfl rfl ?_
  have a1 : -2147483648 ≤ (I rd 2) ∧ (I rd 2) < 2147483648 := hA.1 _ _
  refine c_curveAt_l hF hR hr (fun r hv hA' => hQ _ (hv _ rfl)) _ (-1) 0  (show (0 : Int) ≤ (0 : Int) from Int.le_refl _) (Nat.lt_succ_self _)
theorem c_above (hF : FS F) (hR : Rg I) {v0 : Int}  (hQ : ∀ r : Int, iR r → Q (some (vi r)) F I) : CallN G d kX4_above [vi v0] NP F I Q := by
  refine CallN_in (fun hok hA => CallN_out ?_)
  have iv0 : -2147483648 ≤ v0 ∧ v0 < 2147483648 := hok (vi v0) (by simp)
  refine Call_wp (lv := [some (vi v0)]) (by decide) ckX4_above [] rfl rfl ?_
  refine ⟨fun (c1 : ((v0 : Int) < 0)) => ?_, fun (c1 : (¬ ((v0 : Int) < 0))) => ?_⟩
  ·
    exact ⟨rfl, fun hv hA' => hQ _ (hv _ rfl)⟩
  ·
    refine Or.inl ⟨rfl, ?_⟩
    refine ⟨fun (c2 : ((6 : Int) ≤ v0)) => ?_, fun (c2 : (¬ ((6 : Int) ≤ v0))) => ?_⟩
    ·
      exact ⟨rfl, fun hv hA' => hQ _ (hv _ rfl)⟩
    ·
      refine Or.inl ⟨rfl, (show (0 : Int) ≤ v0 from by first | with_reducible assumption | omega | (simp only [wr, wl] at *; omega)), (show v0 < (6 : Int) from by first | with_reducible assumption | omega | (simp only [wr, wl] at *; omega)), ?_⟩
      exact ⟨rfl, fun hv hA' => hQ _ (hv _ rfl)⟩
theorem c_isOf_l (hF : FS F) (hR : Rg I) {v0 : Int} {q : Nat} (hp : PP F q) (hQ : ∀ (r : Int) , (0 ≤ r ∧ r ≤ 1) → Q (some (vi r)) F I) : ∀ (mz : Nat) (k i : Int) , ((0 : Int) ≤ i) → ((i : Int) ≤ 6) → (6 - i).toNat < mz → GoN G (d + 1) kX4_isOf NP NP 7 [some (vr q), some (vi v0), some (vi k), some (vi i)] [] F I Q := by
  intro mz
  induction mz with
  | zero => intro k i _ _ h; exact absurd h (Nat.not_lt_zero _)
  | succ mz ih =>
    intro k i c100 c101 hm
    refine GoN_in (fun hok hA => ?_)
    have iiv0 : -2147483648 ≤ v0 ∧ v0 < 2147483648 := hok 1 _ rfl
    have iik : -2147483648 ≤ k ∧ k < 2147483648 := hok 2 _ rfl
    have iii : -2147483648 ≤ i ∧ i < 2147483648 := hok 3 _ rfl
    refine Go_wp (by decide) ckX4_isOf [7] ?_
    refine ⟨fun (c1 : ((6 : Int) ≤ i)) => ?_, fun (c1 : (¬ ((6 : Int) ≤ i))) => ?_⟩
    ·
      exact ⟨rfl, (by decide), hQ _ (show 0 ≤ 0 ∧ 0 ≤ 1 from by decide)⟩
    ·
      refine ⟨fun (c2 : ((k : Int) < 0)) => ?_, fun (c2 : (¬ ((k : Int) < 0))) => ?_⟩
      ·
        exact ⟨rfl, (by decide), hQ _ (show 0 ≤ 0 ∧ 0 ≤ 1 from by decide)⟩
      ·
        refine ⟨fun (c3 : (¬ (k : Int) = v0)) => ?_, fun (c3 : ((k : Int) = v0)) => ?_⟩
        ·
          refine c_above  hF hR (fun vr4 hr5 => ?_)
          have hr5 : -2147483648 ≤ vr4 ∧ vr4 < 2147483648 := hr5
          have n6 : (wr (i + 1)) = i + 1 := wr_id (show -2147483648 ≤ (i + 1 : Int) ∧ (i + 1 : Int) < 2147483648 from by omega)
          exact ih vr4 (wr (i + 1))  (show (0 : Int) ≤ (wr (i + 1)) from by first | with_reducible assumption | omega | (simp only [wr, wl] at *; omega)) (show ((wr (i + 1)) : Int) ≤ 6 from by first | with_reducible assumption | omega | (simp only [wr, wl] at *; omega)) (show (6 - (wr (i + 1))).toNat < mz from by omega)
        ·
          exact ⟨rfl, (by decide), hQ _ (show 0 ≤ 1 ∧ 1 ≤ 1 from by decide)⟩
theorem c_isOf (hF : FS F) (hR : Rg I) {v0 : Int} {q : Nat} (hp : PP F q) (hQ : ∀ r : Int, iR r → (0 ≤ r ∧ r ≤ 1) → Q (some (vi r)) F I) : CallN G (d + 1) kX4_isOf [vr q, vi v0] NP F I Q := by
  refine CallN_in (fun hok hA => CallN_out ?_)
  have iv0 : -2147483648 ≤ v0 ∧ v0 < 2147483648 := hok (vi v0) (by simp)
  refine Call_wp (lv := [some (vr q), some (vi v0), none, none]) (by decide) ckX4_isOf [7] rfl rfl ?_
  refine ⟨_, hp.1.1, (by have := hp.2; show _ < 254; omega), ?_⟩
  have a1 : -2147483648 ≤ (I q 0) ∧ (I q 0) < 2147483648 := hA.1 _ _
  refine c_isOf_l hF hR hp (fun r g3 hv hA' => hQ _ (hv _ rfl) g3) _ (I q 0) 0  (show (0 : Int) ≤ (0 : Int) from Int.le_refl _) (show ((0 : Int) : Int) ≤ 6 from by first | with_reducible assumption | omega | (simp only [wr, wl] at *; omega)) (Nat.lt_succ_self _)
theorem c_answerAt (hF : FS F) (hR : Rg I) {v0 : Int} {q : Nat} (hp : PP F q) (hQ : ∀ r : Int, iR r → Q (some (vi r)) F I) : CallN G (d + 1) kX4_answerAt [vr q, vi v0] NP F I Q := by
  refine CallN_in (fun hok hA => CallN_out ?_)
  have iv0 : -2147483648 ≤ v0 ∧ v0 < 2147483648 := hok (vi v0) (by simp)
  refine Call_wp (lv := [some (vr q), some (vi v0), none, none]) (by decide) ckX4_answerAt [] rfl rfl ?_
  refine ⟨(by decide), ?_⟩
  have n1 : -214748364 ≤ (Int.tdiv v0 10) ∧ (Int.tdiv v0 10) ≤ 214748364 := td_b (by decide) (by decide) (by omega) (by omega)
  have n2 : (wr (Int.tdiv v0 10)) = (Int.tdiv v0 10) := wr_id (show -2147483648 ≤ ((Int.tdiv v0 10) : Int) ∧ ((Int.tdiv v0 10) : Int) < 2147483648 from by omega)
  refine ⟨fun (c3 : (((wr (Int.tdiv v0 10)) : Int) < 0)) => ?_, fun (c3 : (¬ (((wr (Int.tdiv v0 10)) : Int) < 0))) => ?_⟩
  ·
    exact ⟨rfl, fun hv hA' => hQ _ (hv _ rfl)⟩
  ·
    refine ⟨_, hp.1.1, (by have := hp.2; show _ < 254; omega), ?_⟩
    have a4 : -2147483648 ≤ (I q 4) ∧ (I q 4) < 2147483648 := hA.1 _ _
    refine ⟨fun (c5 : (((I q 4) : Int) ≤ (wr (Int.tdiv v0 10)))) => ?_, fun (c5 : (¬ (((I q 4) : Int) ≤ (wr (Int.tdiv v0 10))))) => ?_⟩
    ·
      exact ⟨rfl, fun hv hA' => hQ _ (hv _ rfl)⟩
    ·
      refine ⟨fun (c6 : (((wr (Int.tdiv v0 10)) : Int) < 12)) => ?_, fun (c6 : (¬ (((wr (Int.tdiv v0 10)) : Int) < 12))) => ?_⟩
      ·
        refine ⟨_, hp.1.1, (by have := hp.2; show _ < 254; omega), ?_⟩
        have n7 : (wr ((wr (Int.tdiv v0 10)) + 1)) = (wr (Int.tdiv v0 10)) + 1 := wr_id (show -2147483648 ≤ ((wr (Int.tdiv v0 10)) + 1 : Int) ∧ ((wr (Int.tdiv v0 10)) + 1 : Int) < 2147483648 from by omega)
        refine ⟨fun (c8 : (((I q 4) : Int) ≤ (wr ((wr (Int.tdiv v0 10)) + 1)))) => ?_, fun (c8 : (¬ (((I q 4) : Int) ≤ (wr ((wr (Int.tdiv v0 10)) + 1))))) => ?_⟩
        ·
          refine ⟨fun c => absurd c (show (¬ ((1 : Int) = 0)) from by decide), fun _ => ?_⟩
          refine ⟨_, hp.1.1, (by have := hp.2; show _ < 254; omega), ?_⟩
          refine fun w0 hw0 => ?_; obtain rfl : w0 = some (q + 1) := hw0.symm.trans hp.1.2.2.2.1
          refine ⟨_, hp.1.2.1, (by have := hp.2; show _ < 254; omega), (show (0 : Int) ≤ (wr (Int.tdiv v0 10)) from by first | with_reducible assumption | omega | (simp only [wr, wl] at *; omega)), (show (wr (Int.tdiv v0 10)) < (12 : Int) from by first | with_reducible assumption | omega | (simp only [wr, wl] at *; omega)), ?_⟩
          exact ⟨rfl, fun hv hA' => hQ _ (hv _ rfl)⟩
        ·
          refine ⟨fun (c9 : (((wr ((wr (Int.tdiv v0 10)) + 1)) : Int) < 12)) => ?_, fun (c9 : (¬ (((wr ((wr (Int.tdiv v0 10)) + 1)) : Int) < 12))) => ?_⟩
          ·
            refine ⟨fun _ => ?_, fun c => absurd (show ((0 : Int) = 0) from by decide) c⟩
            refine ⟨_, hp.1.1, (by have := hp.2; show _ < 254; omega), ?_⟩
            refine fun w0 hw0 => ?_; obtain rfl : w0 = some (q + 1) := hw0.symm.trans hp.1.2.2.2.1
            refine ⟨_, hp.1.2.1, (by have := hp.2; show _ < 254; omega), (show (0 : Int) ≤ (wr (Int.tdiv v0 10)) from by first | with_reducible assumption | omega | (simp only [wr, wl] at *; omega)), (show (wr (Int.tdiv v0 10)) < (12 : Int) from by first | with_reducible assumption | omega | (simp only [wr, wl] at *; omega)), ?_⟩
            refine ⟨_, hp.1.1, (by have := hp.2; show _ < 254; omega), ?_⟩
            refine fun w0 hw0 => ?_; obtain rfl : w0 = some (q + 1) := hw0.symm.trans hp.1.2.2.2.1
            refine ⟨_, hp.1.2.1, (by have := hp.2; show _ < 254; omega), (show (0 : Int) ≤ (wr ((wr (Int.tdiv v0 10)) + 1)) from by first | with_reducible assumption | omega | (simp only [wr, wl] at *; omega)), (show (wr ((wr (Int.tdiv v0 10)) + 1)) < (12 : Int) from by first | with_reducible assumption | omega | (simp only [wr, wl] at *; omega)), ?_⟩
            refine ⟨(by decide), ?_⟩
            have a10 : -2147483648 ≤ (I (q + 1) (Int.toNat (wr (Int.tdiv v0 10)))) ∧ (I (q + 1) (Int.toNat (wr (Int.tdiv v0 10)))) < 2147483648 := hA.1 _ _
            have a11 : -2147483648 ≤ (I (q + 1) (Int.toNat (wr ((wr (Int.tdiv v0 10)) + 1)))) ∧ (I (q + 1) (Int.toNat (wr ((wr (Int.tdiv v0 10)) + 1)))) < 2147483648 := hA.1 _ _
            have n12 : -10 < (Int.tmod v0 10) ∧ (Int.tmod v0 10) < 10 := tm_b (by decide)
            refine c_straight  hF hR (fun vr13 hr14 => ?_)
            have hr14 : -2147483648 ≤ vr13 ∧ vr13 < 2147483648 := hr14
            exact ⟨rfl, fun hv hA' => hQ _ (hv _ rfl)⟩
          ·
            refine ⟨fun c => absurd c (show (¬ ((1 : Int) = 0)) from by decide), fun _ => ?_⟩
            refine ⟨_, hp.1.1, (by have := hp.2; show _ < 254; omega), ?_⟩
            refine fun w0 hw0 => ?_; obtain rfl : w0 = some (q + 1) := hw0.symm.trans hp.1.2.2.2.1
            refine ⟨_, hp.1.2.1, (by have := hp.2; show _ < 254; omega), (show (0 : Int) ≤ (wr (Int.tdiv v0 10)) from by first | with_reducible assumption | omega | (simp only [wr, wl] at *; omega)), (show (wr (Int.tdiv v0 10)) < (12 : Int) from by first | with_reducible assumption | omega | (simp only [wr, wl] at *; omega)), ?_⟩
            exact ⟨rfl, fun hv hA' => hQ _ (hv _ rfl)⟩
      ·
        exact ⟨rfl, fun hv hA' => hQ _ (hv _ rfl)⟩
theorem c_pload (hF : FS F) (hR : Rg I) {v0 : Int} {q : Nat} (hp : PP F q) (hQ : ∀ r : Int, iR r → Q (some (vi r)) F I) : CallN G (d + 2) kX4_loadAt [vr q, vi v0] NP F I Q := by
  refine CallN_in (fun hok hA => CallN_out ?_)
  have iv0 : -2147483648 ≤ v0 ∧ v0 < 2147483648 := hok (vi v0) (by simp)
  refine Call_wp (lv := [some (vr q), some (vi v0), none]) (by decide) ckX4_loadAt [] rfl rfl ?_
  refine ⟨fun (c1 : ((v0 : Int) < 0)) => ?_, fun (c1 : (¬ ((v0 : Int) < 0))) => ?_⟩
  ·
    exact ⟨rfl, fun hv hA' => hQ _ (hv _ rfl)⟩
  ·
    refine ⟨⟨_, hp.1.1, (by have := hp.2; show _ < 254; omega)⟩, ?_⟩
    refine Call_wp (lv := [some (vr q)]) (by decide) ckX4_lastStretch [] rfl rfl ?_
    refine ⟨_, hp.1.1, (by have := hp.2; show _ < 254; omega), ?_⟩
    refine ⟨rfl, ?_⟩
    have a2 : -2147483648 ≤ (I q 4) ∧ (I q 4) < 2147483648 := hA.1 _ _
    have n3 : -2147483648 ≤ (wr ((I q 4) - 1)) ∧ (wr ((I q 4) - 1)) < 2147483648 := wr_R _
    have n4 : -2147483648 ≤ (wr (10 * (wr ((I q 4) - 1)))) ∧ (wr (10 * (wr ((I q 4) - 1)))) < 2147483648 := wr_R _
    refine ⟨fun (c5 : ((v0 : Int) ≤ (wr (10 * (wr ((I q 4) - 1)))))) => ?_, fun (c5 : (¬ ((v0 : Int) ≤ (wr (10 * (wr ((I q 4) - 1))))))) => ?_⟩
    ·
      refine ⟨⟨_, hp.1.1, (by have := hp.2; show _ < 254; omega)⟩, ?_⟩
      refine c_answerAt (v0 := v0) hF hR hp (fun vr6 hr7 => ?_)
      have hr7 : -2147483648 ≤ vr6 ∧ vr6 < 2147483648 := hr7
      refine ⟨_, hp.1.1, (by have := hp.2; show _ < 254; omega), ?_⟩
      refine ⟨(by decide), ?_⟩
      refine ⟨⟨_, hp.1.1, (by have := hp.2; show _ < 254; omega)⟩, ?_⟩
      refine c_isOf (v0 := 2) hF hR hp (fun vr8 hr9 q10 => ?_)
      have hr9 : -2147483648 ≤ vr8 ∧ vr8 < 2147483648 := hr9
      have q10 : 0 ≤ vr8 ∧ vr8 ≤ 1 := q10
      refine ⟨fun (c11 : ((vr8 : Int) = 0)) => ?_, fun (c11 : (¬ ((vr8 : Int) = 0))) => ?_⟩
      ·
        refine ⟨_, hp.1.1, (by have := hp.2; show _ < 254; omega), ?_⟩
        have a12 : -2147483648 ≤ (I q 0) ∧ (I q 0) < 2147483648 := hA.1 _ _
        refine ⟨fun (c13 : (¬ ((I q 0) : Int) = 5)) => ?_, fun (c13 : (((I q 0) : Int) = 5)) => ?_⟩
        ·
          exact ⟨rfl, fun hv hA' => hQ _ (hv _ rfl)⟩
        ·
          have a14 : -2147483648 ≤ (I q 2) ∧ (I q 2) < 2147483648 := hA.1 _ _
          have n15 : -2147483648 ≤ (wr (vr6 * (I q 2))) ∧ (wr (vr6 * (I q 2))) < 2147483648 := wr_R _
          have n16 : -214748364 ≤ (Int.tdiv (wr (vr6 * (I q 2))) 10) ∧ (Int.tdiv (wr (vr6 * (I q 2))) 10) ≤ 214748364 := td_b (by decide) (by decide) (by omega) (by omega)
          have n17 : (wr (Int.tdiv (wr (vr6 * (I q 2))) 10)) = (Int.tdiv (wr (vr6 * (I q 2))) 10) := wr_id (show -2147483648 ≤ ((Int.tdiv (wr (vr6 * (I q 2))) 10) : Int) ∧ ((Int.tdiv (wr (vr6 * (I q 2))) 10) : Int) < 2147483648 from by omega)
          have n18 : (wr ((wr (Int.tdiv (wr (vr6 * (I q 2))) 10)) - 5)) = (wr (Int.tdiv (wr (vr6 * (I q 2))) 10)) - 5 := wr_id (show -2147483648 ≤ ((wr (Int.tdiv (wr (vr6 * (I q 2))) 10)) - 5 : Int) ∧ ((wr (Int.tdiv (wr (vr6 * (I q 2))) 10)) - 5 : Int) < 2147483648 from by omega)
          refine j_max (fun w19 h20 h21 h22 => ?_)
          exact ⟨rfl, fun hv hA' => hQ _ (hv _ rfl)⟩
      ·
        refine ⟨(by decide), ?_⟩
        refine ⟨_, hp.1.1, (by have := hp.2; show _ < 254; omega), ?_⟩
        have a23 : -2147483648 ≤ (I q 0) ∧ (I q 0) < 2147483648 := hA.1 _ _
        refine ⟨fun (c24 : (¬ ((I q 0) : Int) = 5)) => ?_, fun (c24 : (((I q 0) : Int) = 5)) => ?_⟩
        ·
          exact ⟨rfl, fun hv hA' => hQ _ (hv _ rfl)⟩
        ·
          have a25 : -2147483648 ≤ (I q 2) ∧ (I q 2) < 2147483648 := hA.1 _ _
          have n26 : -2147483648 ≤ (wr (vr6 * (I q 2))) ∧ (wr (vr6 * (I q 2))) < 2147483648 := wr_R _
          have n27 : -214748364 ≤ (Int.tdiv (wr (vr6 * (I q 2))) 10) ∧ (Int.tdiv (wr (vr6 * (I q 2))) 10) ≤ 214748364 := td_b (by decide) (by decide) (by omega) (by omega)
          have n28 : (wr (Int.tdiv (wr (vr6 * (I q 2))) 10)) = (Int.tdiv (wr (vr6 * (I q 2))) 10) := wr_id (show -2147483648 ≤ ((Int.tdiv (wr (vr6 * (I q 2))) 10) : Int) ∧ ((Int.tdiv (wr (vr6 * (I q 2))) 10) : Int) < 2147483648 from by omega)
          have n29 : -107374182 ≤ (Int.tdiv (wr (Int.tdiv (wr (vr6 * (I q 2))) 10)) 2) ∧ (Int.tdiv (wr (Int.tdiv (wr (vr6 * (I q 2))) 10)) 2) ≤ 107374182 := td_b (by decide) (by decide) (by omega) (by omega)
          have n30 : (wr (Int.tdiv (wr (Int.tdiv (wr (vr6 * (I q 2))) 10)) 2)) = (Int.tdiv (wr (Int.tdiv (wr (vr6 * (I q 2))) 10)) 2) := wr_id (show -2147483648 ≤ ((Int.tdiv (wr (Int.tdiv (wr (vr6 * (I q 2))) 10)) 2) : Int) ∧ ((Int.tdiv (wr (Int.tdiv (wr (vr6 * (I q 2))) 10)) 2) : Int) < 2147483648 from by omega)
          have n31 : (wr ((wr (Int.tdiv (wr (Int.tdiv (wr (vr6 * (I q 2))) 10)) 2)) - 5)) = (wr (Int.tdiv (wr (Int.tdiv (wr (vr6 * (I q 2))) 10)) 2)) - 5 := wr_id (show -2147483648 ≤ ((wr (Int.tdiv (wr (Int.tdiv (wr (vr6 * (I q 2))) 10)) 2)) - 5 : Int) ∧ ((wr (Int.tdiv (wr (Int.tdiv (wr (vr6 * (I q 2))) 10)) 2)) - 5 : Int) < 2147483648 from by omega)
          refine j_max (fun w32 h33 h34 h35 => ?_)
          exact ⟨rfl, fun hv hA' => hQ _ (hv _ rfl)⟩
    ·
      exact ⟨rfl, fun hv hA' => hQ _ (hv _ rfl)⟩
end CR
