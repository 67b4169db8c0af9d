/-! the reference finds the line, and where it yields. Own work (scripts laid by wip/pm/gen34.py). -/
section RL11
variable {G : pG} {d : Nat} {F : pF} {I : pI} {Q : Option pV → pF → pI → Prop}
theorem r_on11 (hF : FS F) (hR : Rg I) {v0 v1 v2 v3 : Int} (hp : 0 ≤ v0 ∧ v0 ≤ 13) {S L : Nat → Int} {N : Int} (hq : RDM I (Int.toNat v0) S L N) (h1 : 0 ≤ v1 ∧ v1 < N) (h2 : 0 ≤ v2 ∧ v2 < N) (h3 : 0 ≤ v3 ∧ v3 < N) (hQ : ∀ r : Int, iR r → ((r = 1 ∧ 0 ≤ L (Int.toNat v3) ∧ blF S L (Int.toNat v1) (Int.toNat v2) (Int.toNat v3) 0 = 0) ∨ (r = 0 ∧ ¬ (0 ≤ L (Int.toNat v3) ∧ blF S L (Int.toNat v1) (Int.toNat v2) (Int.toNat v3) 0 = 0))) → Q (some (vi r)) F I) : CallN G (d + 3) kX12_isOn [vr 235, vi v0, vi v1, vi v2, vi v3] NP F I Q := by
  refine CallN_in (fun hok hA => CallN_out ?_)
  have iv0 : -2147483648 ≤ v0 ∧ v0 < 2147483648 := hok (vi v0) (by simp)
  have iv1 : -2147483648 ≤ v1 ∧ v1 < 2147483648 := hok (vi v1) (by simp)
  have iv2 : -2147483648 ≤ v2 ∧ v2 < 2147483648 := hok (vi v2) (by simp)
  have iv3 : -2147483648 ≤ v3 ∧ v3 < 2147483648 := hok (vi v3) (by simp)
  have hN := hq.2.2.1
  refine Call_wp (lv := [some (vr 235), some (vi v0), some (vi v1), some (vi v2), some (vi v3), none, none, none, none]) (by decide) ckX12_isOn [] rfl rfl ?_
  refine ⟨⟨_, rfl, (by decide)⟩, ?_⟩
  refine r_st11 (v0 := v0) (v1 := v2) hF hR (by omega) hq (by omega) (fun vr1 hr2 qr3 => ?_)
  have hr2 : -2147483648 ≤ vr1 ∧ vr1 < 2147483648 := hr2
  have b4 : (0 : Int) ≤ vr1 ∧ vr1 ≤ 5100000 := by rw [qr3]; exact hq.2.2.2.1 _
  refine ⟨⟨_, rfl, (by decide)⟩, ?_⟩
  refine r_st11 (v0 := v0) (v1 := v1) hF hR (by omega) hq (by omega) (fun vr5 hr6 qr7 => ?_)
  have hr6 : -2147483648 ≤ vr5 ∧ vr5 < 2147483648 := hr6
  have b8 : (0 : Int) ≤ vr5 ∧ vr5 ≤ 5100000 := by rw [qr7]; exact hq.2.2.2.1 _
  refine ⟨⟨_, rfl, (by decide)⟩, ?_⟩
  refine r_ld11 (v0 := v0) (v1 := v2) hF hR (by omega) hq (by omega) (fun vr9 hr10 qr11 => ?_)
  have hr10 : -2147483648 ≤ vr9 ∧ vr9 < 2147483648 := hr10
  have b12 : (-200000 : Int) ≤ vr9 ∧ vr9 ≤ 200000 := by rw [qr11]; exact hq.2.2.2.2 _
  refine ⟨⟨_, rfl, (by decide)⟩, ?_⟩
  refine r_ld11 (v0 := v0) (v1 := v1) hF hR (by omega) hq (by omega) (fun vr13 hr14 qr15 => ?_)
  have hr14 : -2147483648 ≤ vr13 ∧ vr13 < 2147483648 := hr14
  have b16 : (-200000 : Int) ≤ vr13 ∧ vr13 ≤ 200000 := by rw [qr15]; exact hq.2.2.2.2 _
  refine ⟨⟨_, rfl, (by decide)⟩, ?_⟩
  refine r_gd11 (v0 := v0) (v1 := v3) hF hR (by omega) hq (by omega) (fun vr17 hr18 qr19 => ?_)
  have hr18 : -2147483648 ≤ vr17 ∧ vr17 < 2147483648 := hr18
  refine ⟨fun (c20 : ((vr17 : Int) = 0)) => ?_, fun (c20 : (¬ ((vr17 : Int) = 0))) => ?_⟩
  ·
    exact ⟨rfl, (by decide), fun hv hA' => hQ _ (hv _ rfl) ((by
                              have e := bl_v (S := S) (L := L) (i := Int.toNat v1) (j := Int.toNat v2) (k := Int.toNat v3) (o := 0)
                              omega))⟩
  ·
    refine ⟨⟨_, rfl, (by decide)⟩, ?_⟩
    refine r_ld11 (v0 := v0) (v1 := v3) hF hR (by omega) hq (by omega) (fun vr21 hr22 qr23 => ?_)
    have hr22 : -2147483648 ≤ vr21 ∧ vr21 < 2147483648 := hr22
    have b24 : (-200000 : Int) ≤ vr21 ∧ vr21 ≤ 200000 := by rw [qr23]; exact hq.2.2.2.2 _
    refine ⟨⟨_, rfl, (by decide)⟩, ?_⟩
    refine r_ld11 (v0 := v0) (v1 := v1) hF hR (by omega) hq (by omega) (fun vr25 hr26 qr27 => ?_)
    have hr26 : -2147483648 ≤ vr25 ∧ vr25 < 2147483648 := hr26
    have b28 : (-200000 : Int) ≤ vr25 ∧ vr25 ≤ 200000 := by rw [qr27]; exact hq.2.2.2.2 _
    refine ⟨⟨_, rfl, (by decide)⟩, ?_⟩
    refine r_st11 (v0 := v0) (v1 := v3) hF hR (by omega) hq (by omega) (fun vr29 hr30 qr31 => ?_)
    have hr30 : -2147483648 ≤ vr29 ∧ vr29 < 2147483648 := hr30
    have b32 : (0 : Int) ≤ vr29 ∧ vr29 ≤ 5100000 := by rw [qr31]; exact hq.2.2.2.1 _
    refine ⟨⟨_, rfl, (by decide)⟩, ?_⟩
    refine r_st11 (v0 := v0) (v1 := v1) hF hR (by omega) hq (by omega) (fun vr33 hr34 qr35 => ?_)
    have hr34 : -2147483648 ≤ vr33 ∧ vr33 < 2147483648 := hr34
    have b36 : (0 : Int) ≤ vr33 ∧ vr33 ≤ 5100000 := by rw [qr35]; exact hq.2.2.2.1 _
    have n37 : (wr (vr1 - vr5)) = vr1 - vr5 := wr_id (show -2147483648 ≤ (vr1 - vr5 : Int) ∧ (vr1 - vr5 : Int) < 2147483648 from by omega)
    have n38 : (wr (vr21 - vr25)) = vr21 - vr25 := wr_id (show -2147483648 ≤ (vr21 - vr25 : Int) ∧ (vr21 - vr25 : Int) < 2147483648 from by omega)
    have p39 := wlB hq.2.2.2 (i := Int.toNat v1) (j := Int.toNat v2) (k := Int.toNat v3) (o := 0) (x := (wr (vr21 - vr25))) (y := (wr (vr1 - vr5))) (by omega) (by omega) (by omega)
    have n40 : (wr (vr9 - vr13)) = vr9 - vr13 := wr_id (show -2147483648 ≤ (vr9 - vr13 : Int) ∧ (vr9 - vr13 : Int) < 2147483648 from by omega)
    have n41 : (wr (vr29 - vr33)) = vr29 - vr33 := wr_id (show -2147483648 ≤ (vr29 - vr33 : Int) ∧ (vr29 - vr33 : Int) < 2147483648 from by omega)
    have p42 := wlA hq.2.2.2 (i := Int.toNat v1) (j := Int.toNat v2) (k := Int.toNat v3) (x := (wr (vr9 - vr13))) (y := (wr (vr29 - vr33))) (by omega) (by omega)
    refine ⟨fun c43 => ?_, fun c43 => ?_⟩
    ·
      have c43 : (¬ ((wl ((wr (vr1 - vr5)) * (wr (vr21 - vr25)))) : Int) = (wl ((wr (vr9 - vr13)) * (wr (vr29 - vr33))))) := fun e => c43 (lcm_eq.2 e)
      exact ⟨rfl, (by decide), fun hv hA' => hQ _ (hv _ rfl) ((by
                              have e := bl_v (S := S) (L := L) (i := Int.toNat v1) (j := Int.toNat v2) (k := Int.toNat v3) (o := 0)
                              omega))⟩
    ·
      have c43 : (((wl ((wr (vr1 - vr5)) * (wr (vr21 - vr25)))) : Int) = (wl ((wr (vr9 - vr13)) * (wr (vr29 - vr33))))) := lcm_eq.1 c43
      exact ⟨rfl, (by decide), fun hv hA' => hQ _ (hv _ rfl) ((by
                              have e := bl_v (S := S) (L := L) (i := Int.toNat v1) (j := Int.toNat v2) (k := Int.toNat v3) (o := 0)
                              omega))⟩
theorem r_fnd11_l3 (hF : FS F) (hR : Rg I) {i j v0 : Int} (hp : 0 ≤ v0 ∧ v0 ≤ 13) {S L : Nat → Int} {N : Int} (hq : RDM I (Int.toNat v0) S L N) (hi : 0 ≤ i ∧ i < N) (hj : 0 ≤ j ∧ j < N) (hK : ∀ (n : Int) , ((0 : Int) ≤ n) → ((n : Int) ≤ 24) → (n = lyF S L (Int.toNat i) (Int.toNat j) (Int.toNat N)) → GoN G (d + 4) kX12_findLine NP NP 106 [some (vr 235), some (vi v0), some (vi i), some (vi j), some (vi n), none] [] F I Q) : ∀ (mz : Nat) (n k : Int) , ((0 : Int) ≤ n) → ((n : Int) ≤ 24) → ((0 : Int) ≤ k) → ((k : Int) ≤ 24) → (k ≤ N) → (n ≤ k) → (n = lyF S L (Int.toNat i) (Int.toNat j) (Int.toNat k)) → (N - k).toNat < mz → GoN G (d + 4) kX12_findLine NP NP 68 [some (vr 235), some (vi v0), some (vi i), some (vi j), some (vi n), some (vi k)] [] F I Q := by
  intro mz
  induction mz with
  | zero => intro n k _ _ _ _ _ _ _ h; exact absurd h (Nat.not_lt_zero _)
  | succ mz ih =>
    intro n k cc100 cc101 cc102 cc103 cc104 cc105 cc106 hm
    refine GoN_in (fun hok hA => ?_)
    have iiv0 : -2147483648 ≤ v0 ∧ v0 < 2147483648 := hok 1 _ rfl
    have iii : -2147483648 ≤ i ∧ i < 2147483648 := hok 2 _ rfl
    have iij : -2147483648 ≤ j ∧ j < 2147483648 := hok 3 _ rfl
    have iin : -2147483648 ≤ n ∧ n < 2147483648 := hok 4 _ rfl
    have iik : -2147483648 ≤ k ∧ k < 2147483648 := hok 5 _ rfl
    have hN := hq.2.2.1
    refine Go_wp (by decide) ckX12_findLine [68, 106] ?_
    refine ⟨⟨_, rfl, (by decide)⟩, ?_⟩
    refine r_many11 (v0 := v0) hF hR (by omega) hq (fun vr1 hr2 qr3 => ?_)
    have hr2 : -2147483648 ≤ vr1 ∧ vr1 < 2147483648 := hr2
    refine ⟨fun (c4 : ((vr1 : Int) ≤ k)) => ?_, fun (c4 : (¬ ((vr1 : Int) ≤ k))) => ?_⟩
    ·
      refine GoN_lv (lv' := [some (vr 235), some (vi v0), some (vi i), some (vi j), some (vi n), none]) (LvLe.k (LvLe.k (LvLe.k (LvLe.k (LvLe.k (LvLe.d LvLe.n)))))) ?_
      exact hK n  (show (0 : Int) ≤ n from by first | with_reducible assumption | omega | (simp only [wr, wl] at *; omega)) (show (n : Int) ≤ 24 from by first | with_reducible assumption | omega | (simp only [wr, wl] at *; omega)) (show n = lyF S L (Int.toNat i) (Int.toNat j) (Int.toNat N) from (by
                              rw [show Int.toNat N = Int.toNat k from by omega]
                              omega))
    ·
      refine ⟨⟨_, rfl, (by decide)⟩, ?_⟩
      refine r_on11 (v0 := v0) (v1 := i) (v2 := j) (v3 := k) hF hR (by omega) hq (by omega) (by omega) (by omega) (fun vr5 hr6 qr7 => ?_)
      have hr6 : -2147483648 ≤ vr5 ∧ vr5 < 2147483648 := hr6
      refine ⟨fun (c8 : ((vr5 : Int) = 0)) => ?_, fun (c8 : (¬ ((vr5 : Int) = 0))) => ?_⟩
      ·
        have n9 : (wr (n + 0)) = n + 0 := wr_id (show -2147483648 ≤ (n + 0 : Int) ∧ (n + 0 : Int) < 2147483648 from by omega)
        have n10 : (wr (k + 1)) = k + 1 := wr_id (show -2147483648 ≤ (k + 1 : Int) ∧ (k + 1 : Int) < 2147483648 from by omega)
        exact ih (wr (n + 0)) (wr (k + 1))  (show (0 : Int) ≤ (wr (n + 0)) from by first | with_reducible assumption | omega | (simp only [wr, wl] at *; omega)) (show ((wr (n + 0)) : Int) ≤ 24 from by first | with_reducible assumption | omega | (simp only [wr, wl] at *; omega)) (show (0 : Int) ≤ (wr (k + 1)) from by first | with_reducible assumption | omega | (simp only [wr, wl] at *; omega)) (show ((wr (k + 1)) : Int) ≤ 24 from by first | with_reducible assumption | omega | (simp only [wr, wl] at *; omega)) (show (wr (k + 1)) ≤ N from by first | with_reducible assumption | omega | (simp only [wr, wl] at *; omega)) (show (wr (n + 0)) ≤ (wr (k + 1)) from by first | with_reducible assumption | omega | (simp only [wr, wl] at *; omega)) (show (wr (n + 0)) = lyF S L (Int.toNat i) (Int.toNat j) (Int.toNat (wr (k + 1))) from (by
                              have ks := lyF_s (S := S) (L := L) (i := Int.toNat i) (j := Int.toNat j) (k := Int.toNat k)
                              rw [show Int.toNat (wr (k + 1)) = Int.toNat k + 1 from by omega]
                              first
                                | (rw [ks.1 (by omega) (by omega)]; omega)
                                | (rw [ks.2 (by omega)]; omega))) (show (N - (wr (k + 1))).toNat < mz from by omega)
      ·
        have n11 : (wr (n + 1)) = n + 1 := wr_id (show -2147483648 ≤ (n + 1 : Int) ∧ (n + 1 : Int) < 2147483648 from by omega)
        have n12 : (wr (k + 1)) = k + 1 := wr_id (show -2147483648 ≤ (k + 1 : Int) ∧ (k + 1 : Int) < 2147483648 from by omega)
        exact ih (wr (n + 1)) (wr (k + 1))  (show (0 : Int) ≤ (wr (n + 1)) from by first | with_reducible assumption | omega | (simp only [wr, wl] at *; omega)) (show ((wr (n + 1)) : Int) ≤ 24 from by first | with_reducible assumption | omega | (simp only [wr, wl] at *; omega)) (show (0 : Int) ≤ (wr (k + 1)) from by first | with_reducible assumption | omega | (simp only [wr, wl] at *; omega)) (show ((wr (k + 1)) : Int) ≤ 24 from by first | with_reducible assumption | omega | (simp only [wr, wl] at *; omega)) (show (wr (k + 1)) ≤ N from by first | with_reducible assumption | omega | (simp only [wr, wl] at *; omega)) (show (wr (n + 1)) ≤ (wr (k + 1)) from by first | with_reducible assumption | omega | (simp only [wr, wl] at *; omega)) (show (wr (n + 1)) = lyF S L (Int.toNat i) (Int.toNat j) (Int.toNat (wr (k + 1))) from (by
                              have ks := lyF_s (S := S) (L := L) (i := Int.toNat i) (j := Int.toNat j) (k := Int.toNat k)
                              rw [show Int.toNat (wr (k + 1)) = Int.toNat k + 1 from by omega]
                              first
                                | (rw [ks.1 (by omega) (by omega)]; omega)
                                | (rw [ks.2 (by omega)]; omega))) (show (N - (wr (k + 1))).toNat < mz from by omega)
theorem r_fnd11_l2 (hF : FS F) (hR : Rg I) {i v0 : Int} (hp : 0 ≤ v0 ∧ v0 ≤ 13) {S L : Nat → Int} {N : Int} (hq : RDM I (Int.toNat v0) S L N) (hi : 0 ≤ i ∧ i < N) (hK : ∀ (J : pI), Rg J → (∀ k j, ¬ ((k = 235 ∧ 22 ≤ j ∧ j ≤ 24)) → J k j = I k j) → (∃ T, LNM J T ∧ otF S L (Int.toNat N) (Int.toNat (N - (i + 1))) (Int.toNat (i + 1)) T = LT S L (Int.toNat N)) → GoN G (d + 4) kX12_findLine NP NP 137 [some (vr 235), some (vi v0), some (vi i), none, none, none] [] F J Q) : ∀ (mz : Nat) (j : Int) (J : pI), Rg J → (∀ k j, ¬ ((k = 235 ∧ 22 ≤ j ∧ j ≤ 24)) → J k j = I k j) → ((1 : Int) ≤ j) → ((j : Int) ≤ 24) → (j ≤ N) → (∃ T, LNM J T ∧ otF S L (Int.toNat N) (Int.toNat (N - (i + 1))) (Int.toNat (i + 1)) (inF S L (Int.toNat N) (Int.toNat i) (Int.toNat (N - j)) (Int.toNat j) T) = LT S L (Int.toNat N)) → (N - j).toNat < mz → GoN G (d + 4) kX12_findLine NP NP 20 [some (vr 235), some (vi v0), some (vi i), some (vi j), none, none] [] F J Q := by
  intro mz
  induction mz with
  | zero => intro j J hJ hV _ _ _ _ h; exact absurd h (Nat.not_lt_zero _)
  | succ mz ih =>
    intro j J hJ hV cc100 cc101 cc102 cc103 hm
    refine GoN_in (fun hok hA => ?_)
    have iiv0 : -2147483648 ≤ v0 ∧ v0 < 2147483648 := hok 1 _ rfl
    have iii : -2147483648 ≤ i ∧ i < 2147483648 := hok 2 _ rfl
    have iij : -2147483648 ≤ j ∧ j < 2147483648 := hok 3 _ rfl
    have hN := hq.2.2.1
    obtain ⟨T, hT1, hT2⟩ := cc103
    refine Go_wp (by decide) ckX12_findLine [20, 68, 137] ?_
    refine ⟨⟨_, rfl, (by decide)⟩, ?_⟩
    refine r_many11 (v0 := v0) hF hJ (by omega) (RDM_f hq (fun j => hV 236 j (by omega))) (fun vr1 hr2 qr3 => ?_)
    have hr2 : -2147483648 ≤ vr1 ∧ vr1 < 2147483648 := hr2
    refine ⟨fun (c4 : ((vr1 : Int) ≤ j)) => ?_, fun (c4 : (¬ ((vr1 : Int) ≤ j))) => ?_⟩
    ·
      refine GoN_lv (lv' := [some (vr 235), some (vi v0), some (vi i), none, none, none]) (LvLe.k (LvLe.k (LvLe.k (LvLe.d (LvLe.k (LvLe.k LvLe.n)))))) ?_
      exact hK  J hJ (fun ka ja hk => (hV ka ja (by omega))) (show ∃ T, LNM J T ∧ otF S L (Int.toNat N) (Int.toNat (N - (i + 1))) (Int.toNat (i + 1)) T = LT S L (Int.toNat N) from (by
                              have q := in_z (S := S) (L := L) (n := Int.toNat N) (i := Int.toNat i) (j := Int.toNat j) (T := T) (N := N) (k := j) (by omega)
                              rw [q] at hT2
                              exact ⟨T, hT1, hT2⟩))
    ·
      refine ⟨⟨_, rfl, (by decide)⟩, ?_⟩
      refine r_gd11 (v0 := v0) (v1 := i) hF hJ (by omega) (RDM_f hq (fun j => hV 236 j (by omega))) (by omega) (fun vr5 hr6 qr7 => ?_)
      have hr6 : -2147483648 ≤ vr5 ∧ vr5 < 2147483648 := hr6
      refine ⟨fun (c8 : ((vr5 : Int) = 0)) => ?_, fun (c8 : (¬ ((vr5 : Int) = 0))) => ?_⟩
      ·
        have n9 : (wr (j + 1)) = j + 1 := wr_id (show -2147483648 ≤ (j + 1 : Int) ∧ (j + 1 : Int) < 2147483648 from by omega)
        exact ih (wr (j + 1)) J hJ (fun ka ja hk => (hV ka ja (by omega))) (show (1 : Int) ≤ (wr (j + 1)) from by first | with_reducible assumption | omega | (simp only [wr, wl] at *; omega)) (show ((wr (j + 1)) : Int) ≤ 24 from by first | with_reducible assumption | omega | (simp only [wr, wl] at *; omega)) (show (wr (j + 1)) ≤ N from by first | with_reducible assumption | omega | (simp only [wr, wl] at *; omega)) (show ∃ T, LNM J T ∧ otF S L (Int.toNat N) (Int.toNat (N - (i + 1))) (Int.toNat (i + 1)) (inF S L (Int.toNat N) (Int.toNat i) (Int.toNat (N - (wr (j + 1)))) (Int.toNat (wr (j + 1))) T) = LT S L (Int.toNat N) from (by
                              have e := hT1.1
                              have q : trF S L (Int.toNat N) (Int.toNat i) (Int.toNat j) T = T := by
                                first
                                  | exact trF_0 (by omega)
                                  | exact trF_n (by omega)
                              refine ⟨trF S L (Int.toNat N) (Int.toNat i) (Int.toNat j) T, by rw [q]; exact hT1, ?_⟩
                              have s := in_s (S := S) (L := L) (n := (Int.toNat N)) (i := Int.toNat i) (j := Int.toNat j) (T := T) (N := N) (k := j) (by omega) (by omega) rfl
                              rw [s, show j + 1 = (wr (j + 1)) from by omega] at hT2
                              exact hT2)) (show (N - (wr (j + 1))).toNat < mz from by omega)
      ·
        refine ⟨⟨_, rfl, (by decide)⟩, ?_⟩
        refine r_gd11 (v0 := v0) (v1 := j) hF hJ (by omega) (RDM_f hq (fun j => hV 236 j (by omega))) (by omega) (fun vr10 hr11 qr12 => ?_)
        have hr11 : -2147483648 ≤ vr10 ∧ vr10 < 2147483648 := hr11
        refine ⟨fun (c13 : ((vr10 : Int) = 0)) => ?_, fun (c13 : (¬ ((vr10 : Int) = 0))) => ?_⟩
        ·
          have n14 : (wr (j + 1)) = j + 1 := wr_id (show -2147483648 ≤ (j + 1 : Int) ∧ (j + 1 : Int) < 2147483648 from by omega)
          exact ih (wr (j + 1)) J hJ (fun ka ja hk => (hV ka ja (by omega))) (show (1 : Int) ≤ (wr (j + 1)) from by first | with_reducible assumption | omega | (simp only [wr, wl] at *; omega)) (show ((wr (j + 1)) : Int) ≤ 24 from by first | with_reducible assumption | omega | (simp only [wr, wl] at *; omega)) (show (wr (j + 1)) ≤ N from by first | with_reducible assumption | omega | (simp only [wr, wl] at *; omega)) (show ∃ T, LNM J T ∧ otF S L (Int.toNat N) (Int.toNat (N - (i + 1))) (Int.toNat (i + 1)) (inF S L (Int.toNat N) (Int.toNat i) (Int.toNat (N - (wr (j + 1)))) (Int.toNat (wr (j + 1))) T) = LT S L (Int.toNat N) from (by
                              have e := hT1.1
                              have q : trF S L (Int.toNat N) (Int.toNat i) (Int.toNat j) T = T := by
                                first
                                  | exact trF_0 (by omega)
                                  | exact trF_n (by omega)
                              refine ⟨trF S L (Int.toNat N) (Int.toNat i) (Int.toNat j) T, by rw [q]; exact hT1, ?_⟩
                              have s := in_s (S := S) (L := L) (n := (Int.toNat N)) (i := Int.toNat i) (j := Int.toNat j) (T := T) (N := N) (k := j) (by omega) (by omega) rfl
                              rw [s, show j + 1 = (wr (j + 1)) from by omega] at hT2
                              exact hT2)) (show (N - (wr (j + 1))).toNat < mz from by omega)
        ·
          refine ⟨⟨_, rfl, (by decide)⟩, ?_⟩
          refine r_st11 (v0 := v0) (v1 := i) hF hJ (by omega) (RDM_f hq (fun j => hV 236 j (by omega))) (by omega) (fun vr15 hr16 qr17 => ?_)
          have hr16 : -2147483648 ≤ vr15 ∧ vr15 < 2147483648 := hr16
          have b18 : (0 : Int) ≤ vr15 ∧ vr15 ≤ 5100000 := by rw [qr17]; exact hq.2.2.2.1 _
          refine ⟨⟨_, rfl, (by decide)⟩, ?_⟩
          refine r_st11 (v0 := v0) (v1 := j) hF hJ (by omega) (RDM_f hq (fun j => hV 236 j (by omega))) (by omega) (fun vr19 hr20 qr21 => ?_)
          have hr20 : -2147483648 ≤ vr19 ∧ vr19 < 2147483648 := hr20
          have b22 : (0 : Int) ≤ vr19 ∧ vr19 ≤ 5100000 := by rw [qr21]; exact hq.2.2.2.1 _
          refine ⟨fun (c23 : ((vr15 : Int) = vr19)) => ?_, fun (c23 : (¬ ((vr15 : Int) = vr19))) => ?_⟩
          ·
            have n24 : (wr (j + 1)) = j + 1 := wr_id (show -2147483648 ≤ (j + 1 : Int) ∧ (j + 1 : Int) < 2147483648 from by omega)
            exact ih (wr (j + 1)) J hJ (fun ka ja hk => (hV ka ja (by omega))) (show (1 : Int) ≤ (wr (j + 1)) from by first | with_reducible assumption | omega | (simp only [wr, wl] at *; omega)) (show ((wr (j + 1)) : Int) ≤ 24 from by first | with_reducible assumption | omega | (simp only [wr, wl] at *; omega)) (show (wr (j + 1)) ≤ N from by first | with_reducible assumption | omega | (simp only [wr, wl] at *; omega)) (show ∃ T, LNM J T ∧ otF S L (Int.toNat N) (Int.toNat (N - (i + 1))) (Int.toNat (i + 1)) (inF S L (Int.toNat N) (Int.toNat i) (Int.toNat (N - (wr (j + 1)))) (Int.toNat (wr (j + 1))) T) = LT S L (Int.toNat N) from (by
                              have e := hT1.1
                              have q : trF S L (Int.toNat N) (Int.toNat i) (Int.toNat j) T = T := by
                                first
                                  | exact trF_0 (by omega)
                                  | exact trF_n (by omega)
                              refine ⟨trF S L (Int.toNat N) (Int.toNat i) (Int.toNat j) T, by rw [q]; exact hT1, ?_⟩
                              have s := in_s (S := S) (L := L) (n := (Int.toNat N)) (i := Int.toNat i) (j := Int.toNat j) (T := T) (N := N) (k := j) (by omega) (by omega) rfl
                              rw [s, show j + 1 = (wr (j + 1)) from by omega] at hT2
                              exact hT2)) (show (N - (wr (j + 1))).toNat < mz from by omega)
          ·
            refine r_fnd11_l3 hF hJ (by omega) (RDM_f hq (fun j => hV 236 j (by omega))) (by omega) (by omega) (fun y25 c26 c27 c28 => ?_) _ 0 0  (show (0 : Int) ≤ (0 : Int) from Int.le_refl _) (show ((0 : Int) : Int) ≤ 24 from by first | with_reducible assumption | omega | (simp only [wr, wl] at *; omega)) (show (0 : Int) ≤ (0 : Int) from Int.le_refl _) (show ((0 : Int) : Int) ≤ 24 from by first | with_reducible assumption | omega | (simp only [wr, wl] at *; omega)) (show (0 : Int) ≤ N from by first | with_reducible assumption | omega | (simp only [wr, wl] at *; omega)) (show (0 : Int) ≤ (0 : Int) from Int.le_refl _) (show (0 : Int) = lyF S L (Int.toNat i) (Int.toNat j) (Int.toNat (0 : Int)) from rfl) (Nat.lt_succ_self _)
            refine GoN_in (fun hok29 hA30 => ?_)
            have i31 : -2147483648 ≤ y25 ∧ y25 < 2147483648 := hok29 4 _ rfl
            refine Go_wp (by decide) ckX12_findLine [20, 68, 137] ?_
            refine ⟨_, rfl, (by decide), ?_⟩
            have a32 : -2147483648 ≤ (J 235 24) ∧ (J 235 24) < 2147483648 := hA.1 _ _
            refine ⟨fun (c33 : ((y25 : Int) ≤ (J 235 24))) => ?_, fun (c33 : (¬ ((y25 : Int) ≤ (J 235 24)))) => ?_⟩
            ·
              refine GoN_lv (lv' := [some (vr 235), some (vi v0), some (vi i), some (vi (wr (j + 1))), none, none]) (LvLe.k (LvLe.k (LvLe.k (LvLe.k (LvLe.d (LvLe.k LvLe.n)))))) ?_
              have n34 : (wr (j + 1)) = j + 1 := wr_id (show -2147483648 ≤ (j + 1 : Int) ∧ (j + 1 : Int) < 2147483648 from by omega)
              exact ih (wr (j + 1)) J hJ (fun ka ja hk => (hV ka ja (by omega))) (show (1 : Int) ≤ (wr (j + 1)) from by first | with_reducible assumption | omega | (simp only [wr, wl] at *; omega)) (show ((wr (j + 1)) : Int) ≤ 24 from by first | with_reducible assumption | omega | (simp only [wr, wl] at *; omega)) (show (wr (j + 1)) ≤ N from by first | with_reducible assumption | omega | (simp only [wr, wl] at *; omega)) (show ∃ T, LNM J T ∧ otF S L (Int.toNat N) (Int.toNat (N - (i + 1))) (Int.toNat (i + 1)) (inF S L (Int.toNat N) (Int.toNat i) (Int.toNat (N - (wr (j + 1)))) (Int.toNat (wr (j + 1))) T) = LT S L (Int.toNat N) from (by
                              have e := hT1.1
                              have q : trF S L (Int.toNat N) (Int.toNat i) (Int.toNat j) T = T := by
                                first
                                  | exact trF_0 (by omega)
                                  | exact trF_n (by omega)
                              refine ⟨trF S L (Int.toNat N) (Int.toNat i) (Int.toNat j) T, by rw [q]; exact hT1, ?_⟩
                              have s := in_s (S := S) (L := L) (n := (Int.toNat N)) (i := Int.toNat i) (j := Int.toNat j) (T := T) (N := N) (k := j) (by omega) (by omega) rfl
                              rw [s, show j + 1 = (wr (j + 1)) from by omega] at hT2
                              exact hT2)) (show (N - (wr (j + 1))).toNat < mz from by omega)
            ·
              refine ⟨_, rfl, (by decide), ?_⟩
              refine ⟨_, rfl, (by decide), ?_⟩
              have p35 : (0 : Int) ≤ i ∧ (i : Int) ≤ 23 := by first | omega | (simp only [wr, wl] at *; omega)
              refine ⟨_, rfl, (by decide), ?_⟩
              have p36 : (0 : Int) ≤ j ∧ (j : Int) ≤ 23 := by first | omega | (simp only [wr, wl] at *; omega)
              refine GoN_lv (lv' := [some (vr 235), some (vi v0), some (vi i), some (vi (wr (j + 1))), none, none]) (LvLe.k (LvLe.k (LvLe.k (LvLe.k (LvLe.d (LvLe.k LvLe.n)))))) ?_
              have n37 : (wr (j + 1)) = j + 1 := wr_id (show -2147483648 ≤ (j + 1 : Int) ∧ (j + 1 : Int) < 2147483648 from by omega)
              exact ih (wr (j + 1)) (uI (uI (uI J 235 24 y25) 235 22 i) 235 23 j) (Rg.u (Rg.u (Rg.u hJ (Pr_f rfl)) (Pr_x22 p35)) (Pr_x23 p36)) (fun ka ja hk => ((uI_o (show ¬ (ka = 235 ∧ ja = 23) from by first | (intro e; obtain ⟨rfl, rfl⟩ := e; exact hk (by decide)) | omega))).trans (((uI_o (show ¬ (ka = 235 ∧ ja = 22) from by first | (intro e; obtain ⟨rfl, rfl⟩ := e; exact hk (by decide)) | omega))).trans (((uI_o (show ¬ (ka = 235 ∧ ja = 24) from by first | (intro e; obtain ⟨rfl, rfl⟩ := e; exact hk (by decide)) | omega))).trans ((hV ka ja (by omega)))))) (show (1 : Int) ≤ (wr (j + 1)) from by first | with_reducible assumption | omega | (simp only [wr, wl] at *; omega)) (show ((wr (j + 1)) : Int) ≤ 24 from by first | with_reducible assumption | omega | (simp only [wr, wl] at *; omega)) (show (wr (j + 1)) ≤ N from by first | with_reducible assumption | omega | (simp only [wr, wl] at *; omega)) (show ∃ T, LNM (uI (uI (uI J 235 24 y25) 235 22 i) 235 23 j) T ∧ otF S L (Int.toNat N) (Int.toNat (N - (i + 1))) (Int.toNat (i + 1)) (inF S L (Int.toNat N) (Int.toNat i) (Int.toNat (N - (wr (j + 1)))) (Int.toNat (wr (j + 1))) T) = LT S L (Int.toNat N) from (by
                              have e := hT1.1
                              have q := trF_y (S := S) (L := L) (n := Int.toNat N) (i := Int.toNat i) (j := Int.toNat j) (T := T) ⟨by omega, by omega, by omega⟩ (by omega)
                              refine ⟨trF S L (Int.toNat N) (Int.toNat i) (Int.toNat j) T, ?_, ?_⟩
                              · rw [q]
                                exact ⟨((uJ_ne (show ¬ 24 = 23 from Nat.ne_of_beq_eq_false rfl)).trans ((uJ_ne (show ¬ 24 = 22 from Nat.ne_of_beq_eq_false rfl)).trans (uJ_eq))).trans (by show _ = lyF S L (Int.toNat i) (Int.toNat j) (Int.toNat N); omega), fun _ => ⟨((uJ_ne (show ¬ 22 = 23 from Nat.ne_of_beq_eq_false rfl)).trans (uJ_eq)).trans (by show i = ((Int.toNat i : Nat) : Int); omega), (uJ_eq).trans (by show j = ((Int.toNat j : Nat) : Int); omega)⟩⟩
                              · have s := in_s (S := S) (L := L) (n := (Int.toNat N)) (i := Int.toNat i) (j := Int.toNat j) (T := T) (N := N) (k := j) (by omega) (by omega) rfl
                                rw [s, show j + 1 = (wr (j + 1)) from by omega] at hT2
                                exact hT2)) (show (N - (wr (j + 1))).toNat < mz from by omega)
theorem r_fnd11_l1 (hF : FS F) (hR : Rg I) {v0 : Int} (hp : 0 ≤ v0 ∧ v0 ≤ 13) {S L : Nat → Int} {N : Int} (hq : RDM I (Int.toNat v0) S L N) (hQ : ∀ (r : Int) (I' : pI), Rg I' → (∀ k j, ¬ ((k = 235 ∧ 22 ≤ j ∧ j ≤ 24)) → I' k j = I k j) → (LNM I' (LT S L (Int.toNat N)) ∧ ((r = 1 ∧ 0 < (LT S L (Int.toNat N)).2.2) ∨ (r = 0 ∧ (LT S L (Int.toNat N)).2.2 ≤ 0))) → Q (some (vi r)) F I') : ∀ (mz : Nat) (i : Int) (J : pI), Rg J → (∀ k j, ¬ ((k = 235 ∧ 22 ≤ j ∧ j ≤ 24)) → J k j = I k j) → ((0 : Int) ≤ i) → ((i : Int) ≤ 24) → (i ≤ N) → (∃ T, LNM J T ∧ otF S L (Int.toNat N) (Int.toNat (N - i)) (Int.toNat i) T = LT S L (Int.toNat N)) → (N - i).toNat < mz → GoN G (d + 4) kX12_findLine NP NP 7 [some (vr 235), some (vi v0), some (vi i), none, none, none] [] F J Q := by
  intro mz
  induction mz with
  | zero => intro i J hJ hV _ _ _ _ h; exact absurd h (Nat.not_lt_zero _)
  | succ mz ih =>
    intro i J hJ hV cc100 cc101 cc102 cc103 hm
    refine GoN_in (fun hok hA => ?_)
    have iiv0 : -2147483648 ≤ v0 ∧ v0 < 2147483648 := hok 1 _ rfl
    have iii : -2147483648 ≤ i ∧ i < 2147483648 := hok 2 _ rfl
    have hN := hq.2.2.1
    obtain ⟨T, hT1, hT2⟩ := cc103
    refine Go_wp (by decide) ckX12_findLine [7, 20] ?_
    refine ⟨⟨_, rfl, (by decide)⟩, ?_⟩
    refine r_many11 (v0 := v0) hF hJ (by omega) (RDM_f hq (fun j => hV 236 j (by omega))) (fun vr1 hr2 qr3 => ?_)
    have hr2 : -2147483648 ≤ vr1 ∧ vr1 < 2147483648 := hr2
    refine ⟨fun (c4 : ((vr1 : Int) ≤ i)) => ?_, fun (c4 : (¬ ((vr1 : Int) ≤ i))) => ?_⟩
    ·
      refine ⟨_, rfl, (by decide), ?_⟩
      have a5 : -2147483648 ≤ (J 235 24) ∧ (J 235 24) < 2147483648 := hA.1 _ _
      refine ⟨fun (c6 : (((J 235 24) : Int) ≤ 0)) => ?_, fun (c6 : (¬ (((J 235 24) : Int) ≤ 0))) => ?_⟩
      ·
        exact ⟨rfl, (by decide), hQ _ _ hJ (fun ka ja hk => (hV ka ja (by omega))) ((by
                              have q := ot_z (S := S) (L := L) (n := Int.toNat N) (i := Int.toNat i) (T := T) (N := N) (k := i) (by omega)
                              rw [q] at hT2
                              rw [hT2] at hT1
                              exact ⟨hT1, by have e := hT1.1; omega⟩))⟩
      ·
        exact ⟨rfl, (by decide), hQ _ _ hJ (fun ka ja hk => (hV ka ja (by omega))) ((by
                              have q := ot_z (S := S) (L := L) (n := Int.toNat N) (i := Int.toNat i) (T := T) (N := N) (k := i) (by omega)
                              rw [q] at hT2
                              rw [hT2] at hT1
                              exact ⟨hT1, by have e := hT1.1; omega⟩))⟩
    ·
      have n7 : (wr (i + 1)) = i + 1 := wr_id (show -2147483648 ≤ (i + 1 : Int) ∧ (i + 1 : Int) < 2147483648 from by omega)
      refine r_fnd11_l2 hF hJ (by omega) (RDM_f hq (fun j => hV 236 j (by omega))) (by omega) (fun J8 hR9 hV11 c12 => ?_) _ (wr (i + 1)) J hJ (fun _ _ _ => rfl) (show (1 : Int) ≤ (wr (i + 1)) from by first | with_reducible assumption | omega | (simp only [wr, wl] at *; omega)) (show ((wr (i + 1)) : Int) ≤ 24 from by first | with_reducible assumption | omega | (simp only [wr, wl] at *; omega)) (show (wr (i + 1)) ≤ N from by first | with_reducible assumption | omega | (simp only [wr, wl] at *; omega)) (show ∃ T, LNM J T ∧ otF S L (Int.toNat N) (Int.toNat (N - (i + 1))) (Int.toNat (i + 1)) (inF S L (Int.toNat N) (Int.toNat i) (Int.toNat (N - (wr (i + 1)))) (Int.toNat (wr (i + 1))) T) = LT S L (Int.toNat N) from (by
                              refine ⟨_, hT1, ?_⟩
                              have s := ot_s (S := S) (L := L) (n := (Int.toNat N)) (i := Int.toNat i) (T := T) (N := N) (k := i) (by omega) (by omega) rfl
                              rw [s, show (Int.toNat N) - (Int.toNat i + 1) = Int.toNat (N - (wr (i + 1))) from by omega, show Int.toNat i + 1 = Int.toNat (wr (i + 1)) from by omega] at hT2
                              exact hT2)) (Nat.lt_succ_self _)
      refine GoN_in (fun hok13 hA10 => ?_)
      refine Go_wp (by decide) ckX12_findLine [7, 20] ?_
      exact ih (wr (i + 1)) J8 hR9 (fun ka ja hk => ((hV11 ka ja (by omega))).trans ((hV ka ja (by omega)))) (show (0 : Int) ≤ (wr (i + 1)) from by first | with_reducible assumption | omega | (simp only [wr, wl] at *; omega)) (show ((wr (i + 1)) : Int) ≤ 24 from by first | with_reducible assumption | omega | (simp only [wr, wl] at *; omega)) (show (wr (i + 1)) ≤ N from by first | with_reducible assumption | omega | (simp only [wr, wl] at *; omega)) (show ∃ T, LNM J8 T ∧ otF S L (Int.toNat N) (Int.toNat (N - (wr (i + 1)))) (Int.toNat (wr (i + 1))) T = LT S L (Int.toNat N) from (by
                              obtain ⟨T2, a2, b2⟩ := c12
                              exact ⟨T2, a2, by rw [show (wr (i + 1)) = i + 1 from by omega]; exact b2⟩)) (show (N - (wr (i + 1))).toNat < mz from by omega)
theorem r_fnd11 (hF : FS F) (hR : Rg I) {v0 : Int} (hp : 0 ≤ v0 ∧ v0 ≤ 13) {S L : Nat → Int} {N : Int} (hq : RDM I (Int.toNat v0) S L N) (hQ : ∀ (r : Int) (I' : pI), Rg I' → AR I' → iR r → (∀ k j, ¬ ((k = 235 ∧ 22 ≤ j ∧ j ≤ 24)) → I' k j = I k j) → (LNM I' (LT S L (Int.toNat N)) ∧ ((r = 1 ∧ 0 < (LT S L (Int.toNat N)).2.2) ∨ (r = 0 ∧ (LT S L (Int.toNat N)).2.2 ≤ 0))) → Q (some (vi r)) F I') : CallN G (d + 4) kX12_findLine [vr 235, vi v0] NP F I Q := by
  refine CallN_in (fun hok hA => CallN_out ?_)
  have iv0 : -2147483648 ≤ v0 ∧ v0 < 2147483648 := hok (vi v0) (by simp)
  have hN := hq.2.2.1
  refine Call_wp (lv := [some (vr 235), some (vi v0), none, none, none, none]) (by decide) ckX12_findLine [7] rfl rfl ?_
  refine ⟨_, rfl, (by decide), ?_⟩
  refine r_fnd11_l1 hF hR hp hq (fun r I' g1 g2 g3 hv hA' => hQ _ _ g1 hA' (hv _ rfl) g2 g3) _ 0 (uI I 235 24 0) (Rg.u hR (Pr_f rfl)) (fun ka ja hk => (uI_o (show ¬ (ka = 235 ∧ ja = 24) from by first | (intro e; obtain ⟨rfl, rfl⟩ := e; exact hk (by decide)) | omega))) (show (0 : Int) ≤ (0 : Int) from Int.le_refl _) (show ((0 : Int) : Int) ≤ 24 from by first | with_reducible assumption | omega | (simp only [wr, wl] at *; omega)) (show (0 : Int) ≤ N from by first | with_reducible assumption | omega | (simp only [wr, wl] at *; omega)) (show ∃ T, LNM (uI I 235 24 0) T ∧ otF S L (Int.toNat N) (Int.toNat (N - (0 : Int))) (Int.toNat (0 : Int)) T = LT S L (Int.toNat N) from ⟨(0, 0, 0), ⟨uJ_eq, fun h => absurd h (by show ¬ (0 : Int) < 0; decide)⟩, by rw [show Int.toNat (N - (0 : Int)) = Int.toNat N from by omega]; rfl⟩) (Nat.lt_succ_self _)
theorem r_yld11_l (hF : FS F) (hR : Rg I) {v0 v1 : Int} (hp : 0 ≤ v0 ∧ v0 ≤ 13) {S L : Nat → Int} {N : Int} (hq : RDM I (Int.toNat v0) S L N) (hT : LNM I (LT S L (Int.toNat N))) (hz : 0 < (LT S L (Int.toNat N)).2.2) (hv : 0 ≤ v1 ∧ v1 ≤ 999) (hQ : ∀ (r : Int) , (r = ydF S L (Int.toNat N) v1) → Q (some (vi r)) F I) : ∀ (mz : Nat) (dx dy k : Int) , ((0 : Int) ≤ k) → ((k : Int) ≤ 24) → (k ≤ N) → (dx = S (Int.toNat (I 235 23)) - S (Int.toNat (I 235 22))) → (dy = L (Int.toNat (I 235 23)) - L (Int.toNat (I 235 22))) → (ylF S L (Int.toNat (LT S L (Int.toNat N)).1) (Int.toNat (LT S L (Int.toNat N)).2.1) v1 (Int.toNat (N - k)) (Int.toNat k) = ydF S L (Int.toNat N) v1) → (N - k).toNat < mz → GoN G (d + 3) kX12_yieldOf NP NP 59 [some (vr 235), some (vi v0), some (vi v1), some (vl dx), none, some (vl dy), none, some (vi k), none, none] [] F I Q := by
  intro mz
  induction mz with
  | zero => intro dx dy k _ _ _ _ _ _ h; exact absurd h (Nat.not_lt_zero _)
  | succ mz ih =>
    intro dx dy k cc100 cc101 cc102 cc103 cc104 cc105 hm
    refine GoN_in (fun hok hA => ?_)
    have iiv0 : -2147483648 ≤ v0 ∧ v0 < 2147483648 := hok 1 _ rfl
    have iiv1 : -2147483648 ≤ v1 ∧ v1 < 2147483648 := hok 2 _ rfl
    have iidx : -9223372036854775808 ≤ dx ∧ dx < 9223372036854775808 := hok 3 _ rfl
    have iidy : -9223372036854775808 ≤ dy ∧ dy < 9223372036854775808 := hok 5 _ rfl
    have iik : -2147483648 ≤ k ∧ k < 2147483648 := hok 7 _ rfl
    have hN := hq.2.2.1
    have l1 := (hT.2 hz).1
    have l2 := (hT.2 hz).2
    have lt := LT_ok (S := S) (L := L) (n := (Int.toNat N))
    have ls := lt.2.2 hz
    rw [← l1, ← l2] at ls
    have s1 := hq.2.2.2.1 (Int.toNat (I 235 22))
    have s2 := hq.2.2.2.1 (Int.toNat (I 235 23))
    have s3 := hq.2.2.2.2 (Int.toNat (I 235 22))
    have s4 := hq.2.2.2.2 (Int.toNat (I 235 23))
    refine Go_wp (by decide) ckX12_yieldOf [59] ?_
    refine ⟨⟨_, rfl, (by decide)⟩, ?_⟩
    refine r_many11 (v0 := v0) hF hR (by omega) hq (fun vr1 hr2 qr3 => ?_)
    have hr2 : -2147483648 ≤ vr1 ∧ vr1 < 2147483648 := hr2
    refine ⟨fun (c4 : ((vr1 : Int) ≤ k)) => ?_, fun (c4 : (¬ ((vr1 : Int) ≤ k))) => ?_⟩
    ·
      exact ⟨rfl, hQ _ ((by
                              have h := cc105
                              have q := yl_z (S := S) (L := L) (i := Int.toNat (LT S L (Int.toNat N)).1) (j := Int.toNat (LT S L (Int.toNat N)).2.1) (o := v1) (N := N) (k := k) (by omega)
                              rw [q] at h
                              exact h))⟩
    ·
      refine ⟨⟨_, rfl, (by decide)⟩, ?_⟩
      refine r_st11 (v0 := v0) (v1 := k) hF hR (by omega) hq (by omega) (fun vr5 hr6 qr7 => ?_)
      have hr6 : -2147483648 ≤ vr5 ∧ vr5 < 2147483648 := hr6
      have b8 : (0 : Int) ≤ vr5 ∧ vr5 ≤ 5100000 := by rw [qr7]; exact hq.2.2.2.1 _
      refine ⟨_, rfl, (by decide), ?_⟩
      have r9 : 0 ≤ (I 235 22) ∧ (I 235 22) ≤ 23 := Rg.f22 hR
      refine ⟨⟨_, rfl, (by decide)⟩, ?_⟩
      refine r_st11 (v0 := v0) (v1 := (I 235 22)) hF hR (by omega) hq (by omega) (fun vr11 hr12 qr13 => ?_)
      have hr12 : -2147483648 ≤ vr11 ∧ vr11 < 2147483648 := hr12
      have b14 : (0 : Int) ≤ vr11 ∧ vr11 ≤ 5100000 := by rw [qr13]; exact hq.2.2.2.1 _
      refine ⟨⟨_, rfl, (by decide)⟩, ?_⟩
      refine r_ld11 (v0 := v0) (v1 := k) hF hR (by omega) hq (by omega) (fun vr15 hr16 qr17 => ?_)
      have hr16 : -2147483648 ≤ vr15 ∧ vr15 < 2147483648 := hr16
      have b18 : (-200000 : Int) ≤ vr15 ∧ vr15 ≤ 200000 := by rw [qr17]; exact hq.2.2.2.2 _
      refine ⟨_, rfl, (by decide), ?_⟩
      refine ⟨⟨_, rfl, (by decide)⟩, ?_⟩
      refine r_ld11 (v0 := v0) (v1 := (I 235 22)) hF hR (by omega) hq (by omega) (fun vr19 hr20 qr21 => ?_)
      have hr20 : -2147483648 ≤ vr19 ∧ vr19 < 2147483648 := hr20
      have b22 : (-200000 : Int) ≤ vr19 ∧ vr19 ≤ 200000 := by rw [qr21]; exact hq.2.2.2.2 _
      refine ⟨⟨_, rfl, (by decide)⟩, ?_⟩
      refine r_gd11 (v0 := v0) (v1 := k) hF hR (by omega) hq (by omega) (fun vr23 hr24 qr25 => ?_)
      have hr24 : -2147483648 ≤ vr23 ∧ vr23 < 2147483648 := hr24
      refine ⟨fun (c26 : ((vr23 : Int) = 0)) => ?_, fun (c26 : (¬ ((vr23 : Int) = 0))) => ?_⟩
      ·
        refine GoN_lv (lv' := [some (vr 235), some (vi v0), some (vi v1), some (vl dx), none, some (vl dy), none, some (vi (wr (k + 1))), none, none]) (LvLe.k (LvLe.k (LvLe.k (LvLe.k (LvLe.k (LvLe.k (LvLe.k (LvLe.k (LvLe.d (LvLe.k LvLe.n)))))))))) ?_
        have n27 : (wr (k + 1)) = k + 1 := wr_id (show -2147483648 ≤ (k + 1 : Int) ∧ (k + 1 : Int) < 2147483648 from by omega)
        exact ih dx dy (wr (k + 1))  (show (0 : Int) ≤ (wr (k + 1)) from by first | with_reducible assumption | omega | (simp only [wr, wl] at *; omega)) (show ((wr (k + 1)) : Int) ≤ 24 from by first | with_reducible assumption | omega | (simp only [wr, wl] at *; omega)) (show (wr (k + 1)) ≤ N from by first | with_reducible assumption | omega | (simp only [wr, wl] at *; omega)) (show dx = S (Int.toNat (I 235 23)) - S (Int.toNat (I 235 22)) from by first | omega | (simp only [wr, wl] at *; omega)) (show dy = L (Int.toNat (I 235 23)) - L (Int.toNat (I 235 22)) from by first | omega | (simp only [wr, wl] at *; omega)) (show ylF S L (Int.toNat (LT S L (Int.toNat N)).1) (Int.toNat (LT S L (Int.toNat N)).2.1) v1 (Int.toNat (N - (wr (k + 1)))) (Int.toNat (wr (k + 1))) = ydF S L (Int.toNat N) v1 from (by
                              have s := yl_s (S := S) (L := L) (i := Int.toNat (LT S L (Int.toNat N)).1) (j := Int.toNat (LT S L (Int.toNat N)).2.1) (o := v1) (N := N) (k := k) (by omega) (by omega)
                              have h := cc105
                              rw [s.2 (fun q => by first | (have e := q.1; omega) | (have e := q.2; rw [← l1, ← l2] at e; have e2 := bl_v (S := S) (L := L) (i := Int.toNat (I 235 22)) (j := Int.toNat (I 235 23)) (k := Int.toNat k) (o := v1); omega)), show k + 1 = (wr (k + 1)) from by omega] at h
                              exact h)) (show (N - (wr (k + 1))).toNat < mz from by omega)
      ·
        refine ⟨fun c28 => ?_, fun c28 => ?_⟩
        ·
          have c28 : ((dx : Int) ≤ 0) := lcm_le.1 c28
          have n29 : (wr (vr5 - vr11)) = vr5 - vr11 := wr_id (show -2147483648 ≤ (vr5 - vr11 : Int) ∧ (vr5 - vr11 : Int) < 2147483648 from by omega)
          have p30 := wlA hq.2.2.2 (i := Int.toNat (I 235 22)) (j := Int.toNat (I 235 23)) (k := Int.toNat k) (x := dy) (y := (wr (vr5 - vr11))) (by omega) (by omega)
          have n31 : (wr (vr15 - vr19)) = vr15 - vr19 := wr_id (show -2147483648 ≤ (vr15 - vr19 : Int) ∧ (vr15 - vr19 : Int) < 2147483648 from by omega)
          have n32 : (wr ((wr (vr15 - vr19)) + v1)) = (wr (vr15 - vr19)) + v1 := wr_id (show -2147483648 ≤ ((wr (vr15 - vr19)) + v1 : Int) ∧ ((wr (vr15 - vr19)) + v1 : Int) < 2147483648 from by omega)
          have p33 := wlB hq.2.2.2 (i := Int.toNat (I 235 22)) (j := Int.toNat (I 235 23)) (k := Int.toNat k) (o := v1) (x := (wr ((wr (vr15 - vr19)) + v1))) (y := dx) (by omega) (by omega) hv
          have n34 : (wl ((wl (dy * (wr (vr5 - vr11)))) - (wl (dx * (wr ((wr (vr15 - vr19)) + v1)))))) = (wl (dy * (wr (vr5 - vr11)))) - (wl (dx * (wr ((wr (vr15 - vr19)) + v1)))) := wl_id (show -9223372036854775808 ≤ ((wl (dy * (wr (vr5 - vr11)))) - (wl (dx * (wr ((wr (vr15 - vr19)) + v1)))) : Int) ∧ ((wl (dy * (wr (vr5 - vr11)))) - (wl (dx * (wr ((wr (vr15 - vr19)) + v1)))) : Int) < 9223372036854775808 from by omega)
          refine ⟨fun c35 => ?_, fun c35 => ?_⟩
          ·
            have c35 : ((0 : Int) ≤ (wl ((wl (dy * (wr (vr5 - vr11)))) - (wl (dx * (wr ((wr (vr15 - vr19)) + v1))))))) := lcm_ge.1 c35
            refine GoN_lv (lv' := [some (vr 235), some (vi v0), some (vi v1), some (vl dx), none, some (vl dy), none, some (vi (wr (k + 1))), none, none]) (LvLe.k (LvLe.k (LvLe.k (LvLe.k (LvLe.k (LvLe.k (LvLe.k (LvLe.k (LvLe.d (LvLe.k LvLe.n)))))))))) ?_
            have n36 : (wr (k + 1)) = k + 1 := wr_id (show -2147483648 ≤ (k + 1 : Int) ∧ (k + 1 : Int) < 2147483648 from by omega)
            exact ih dx dy (wr (k + 1))  (show (0 : Int) ≤ (wr (k + 1)) from by first | with_reducible assumption | omega | (simp only [wr, wl] at *; omega)) (show ((wr (k + 1)) : Int) ≤ 24 from by first | with_reducible assumption | omega | (simp only [wr, wl] at *; omega)) (show (wr (k + 1)) ≤ N from by first | with_reducible assumption | omega | (simp only [wr, wl] at *; omega)) (show dx = S (Int.toNat (I 235 23)) - S (Int.toNat (I 235 22)) from by first | omega | (simp only [wr, wl] at *; omega)) (show dy = L (Int.toNat (I 235 23)) - L (Int.toNat (I 235 22)) from by first | omega | (simp only [wr, wl] at *; omega)) (show ylF S L (Int.toNat (LT S L (Int.toNat N)).1) (Int.toNat (LT S L (Int.toNat N)).2.1) v1 (Int.toNat (N - (wr (k + 1)))) (Int.toNat (wr (k + 1))) = ydF S L (Int.toNat N) v1 from (by
                              have s := yl_s (S := S) (L := L) (i := Int.toNat (LT S L (Int.toNat N)).1) (j := Int.toNat (LT S L (Int.toNat N)).2.1) (o := v1) (N := N) (k := k) (by omega) (by omega)
                              have h := cc105
                              rw [s.2 (fun q => by first | (have e := q.1; omega) | (have e := q.2; rw [← l1, ← l2] at e; have e2 := bl_v (S := S) (L := L) (i := Int.toNat (I 235 22)) (j := Int.toNat (I 235 23)) (k := Int.toNat k) (o := v1); omega)), show k + 1 = (wr (k + 1)) from by omega] at h
                              exact h)) (show (N - (wr (k + 1))).toNat < mz from by omega)
          ·
            have c35 : (¬ ((0 : Int) ≤ (wl ((wl (dy * (wr (vr5 - vr11)))) - (wl (dx * (wr ((wr (vr15 - vr19)) + v1)))))))) := fun e => c35 (lcm_ge.2 e)
            exact ⟨rfl, hQ _ ((by
                              have h := cc105
                              have s := yl_s (S := S) (L := L) (i := Int.toNat (LT S L (Int.toNat N)).1) (j := Int.toNat (LT S L (Int.toNat N)).2.1) (o := v1) (N := N) (k := k) (by omega) (by omega)
                              rw [s.1 (by omega) (by rw [← l1, ← l2]; have e2 := bl_v (S := S) (L := L) (i := Int.toNat (I 235 22)) (j := Int.toNat (I 235 23)) (k := Int.toNat k) (o := v1); omega)] at h
                              exact h))⟩
        ·
          have c28 : (¬ ((dx : Int) ≤ 0)) := fun e => c28 (lcm_le.2 e)
          have n37 : (wr (vr5 - vr11)) = vr5 - vr11 := wr_id (show -2147483648 ≤ (vr5 - vr11 : Int) ∧ (vr5 - vr11 : Int) < 2147483648 from by omega)
          have p38 := wlA hq.2.2.2 (i := Int.toNat (I 235 22)) (j := Int.toNat (I 235 23)) (k := Int.toNat k) (x := dy) (y := (wr (vr5 - vr11))) (by omega) (by omega)
          have n39 : (wr (vr15 - vr19)) = vr15 - vr19 := wr_id (show -2147483648 ≤ (vr15 - vr19 : Int) ∧ (vr15 - vr19 : Int) < 2147483648 from by omega)
          have n40 : (wr ((wr (vr15 - vr19)) + v1)) = (wr (vr15 - vr19)) + v1 := wr_id (show -2147483648 ≤ ((wr (vr15 - vr19)) + v1 : Int) ∧ ((wr (vr15 - vr19)) + v1 : Int) < 2147483648 from by omega)
          have p41 := wlB hq.2.2.2 (i := Int.toNat (I 235 22)) (j := Int.toNat (I 235 23)) (k := Int.toNat k) (o := v1) (x := (wr ((wr (vr15 - vr19)) + v1))) (y := dx) (by omega) (by omega) hv
          have n42 : (wl ((wl (dy * (wr (vr5 - vr11)))) - (wl (dx * (wr ((wr (vr15 - vr19)) + v1)))))) = (wl (dy * (wr (vr5 - vr11)))) - (wl (dx * (wr ((wr (vr15 - vr19)) + v1)))) := wl_id (show -9223372036854775808 ≤ ((wl (dy * (wr (vr5 - vr11)))) - (wl (dx * (wr ((wr (vr15 - vr19)) + v1)))) : Int) ∧ ((wl (dy * (wr (vr5 - vr11)))) - (wl (dx * (wr ((wr (vr15 - vr19)) + v1)))) : Int) < 9223372036854775808 from by omega)
          refine ⟨fun c43 => ?_, fun c43 => ?_⟩
          ·
            have c43 : (((wl ((wl (dy * (wr (vr5 - vr11)))) - (wl (dx * (wr ((wr (vr15 - vr19)) + v1)))))) : Int) ≤ 0) := lcm_le.1 c43
            refine GoN_lv (lv' := [some (vr 235), some (vi v0), some (vi v1), some (vl dx), none, some (vl dy), none, some (vi (wr (k + 1))), none, none]) (LvLe.k (LvLe.k (LvLe.k (LvLe.k (LvLe.k (LvLe.k (LvLe.k (LvLe.k (LvLe.d (LvLe.k LvLe.n)))))))))) ?_
            have n44 : (wr (k + 1)) = k + 1 := wr_id (show -2147483648 ≤ (k + 1 : Int) ∧ (k + 1 : Int) < 2147483648 from by omega)
            exact ih dx dy (wr (k + 1))  (show (0 : Int) ≤ (wr (k + 1)) from by first | with_reducible assumption | omega | (simp only [wr, wl] at *; omega)) (show ((wr (k + 1)) : Int) ≤ 24 from by first | with_reducible assumption | omega | (simp only [wr, wl] at *; omega)) (show (wr (k + 1)) ≤ N from by first | with_reducible assumption | omega | (simp only [wr, wl] at *; omega)) (show dx = S (Int.toNat (I 235 23)) - S (Int.toNat (I 235 22)) from by first | omega | (simp only [wr, wl] at *; omega)) (show dy = L (Int.toNat (I 235 23)) - L (Int.toNat (I 235 22)) from by first | omega | (simp only [wr, wl] at *; omega)) (show ylF S L (Int.toNat (LT S L (Int.toNat N)).1) (Int.toNat (LT S L (Int.toNat N)).2.1) v1 (Int.toNat (N - (wr (k + 1)))) (Int.toNat (wr (k + 1))) = ydF S L (Int.toNat N) v1 from (by
                              have s := yl_s (S := S) (L := L) (i := Int.toNat (LT S L (Int.toNat N)).1) (j := Int.toNat (LT S L (Int.toNat N)).2.1) (o := v1) (N := N) (k := k) (by omega) (by omega)
                              have h := cc105
                              rw [s.2 (fun q => by first | (have e := q.1; omega) | (have e := q.2; rw [← l1, ← l2] at e; have e2 := bl_v (S := S) (L := L) (i := Int.toNat (I 235 22)) (j := Int.toNat (I 235 23)) (k := Int.toNat k) (o := v1); omega)), show k + 1 = (wr (k + 1)) from by omega] at h
                              exact h)) (show (N - (wr (k + 1))).toNat < mz from by omega)
          ·
            have c43 : (¬ (((wl ((wl (dy * (wr (vr5 - vr11)))) - (wl (dx * (wr ((wr (vr15 - vr19)) + v1)))))) : Int) ≤ 0)) := fun e => c43 (lcm_le.2 e)
            exact ⟨rfl, hQ _ ((by
                              have h := cc105
                              have s := yl_s (S := S) (L := L) (i := Int.toNat (LT S L (Int.toNat N)).1) (j := Int.toNat (LT S L (Int.toNat N)).2.1) (o := v1) (N := N) (k := k) (by omega) (by omega)
                              rw [s.1 (by omega) (by rw [← l1, ← l2]; have e2 := bl_v (S := S) (L := L) (i := Int.toNat (I 235 22)) (j := Int.toNat (I 235 23)) (k := Int.toNat k) (o := v1); omega)] at h
                              exact h))⟩
theorem r_yld11 (hF : FS F) (hR : Rg I) {v0 v1 : Int} (hp : 0 ≤ v0 ∧ v0 ≤ 13) {S L : Nat → Int} {N : Int} (hq : RDM I (Int.toNat v0) S L N) (hv : 0 ≤ v1 ∧ v1 ≤ 999) (hQ : ∀ (r : Int) (I' : pI), Rg I' → AR I' → iR r → (∀ k j, ¬ ((k = 235 ∧ 22 ≤ j ∧ j ≤ 24)) → I' k j = I k j) → (r = ydF S L (Int.toNat N) v1) → Q (some (vi r)) F I') : CallN G (d + 5) kX12_yieldOf [vr 235, vi v0, vi v1] NP F I Q := by
  refine CallN_in (fun hok hA => CallN_out ?_)
  have iv0 : -2147483648 ≤ v0 ∧ v0 < 2147483648 := hok (vi v0) (by simp)
  have iv1 : -2147483648 ≤ v1 ∧ v1 < 2147483648 := hok (vi v1) (by simp)
  have hN := hq.2.2.1
  refine Call_wp (lv := [some (vr 235), some (vi v0), some (vi v1), none, none, none, none, none, none, none]) (by decide) ckX12_yieldOf [59] rfl rfl ?_
  refine ⟨⟨_, rfl, (by decide)⟩, ?_⟩
  refine r_fnd11 (v0 := v0) hF hR (by omega) hq (fun vr1 I2 hR3 hA4 hr6 hW5 qr7 => ?_)
  have hr6 : -2147483648 ≤ vr1 ∧ vr1 < 2147483648 := hr6
  obtain ⟨hT8, hz9⟩ := qr7
  have ltb := LT_ok (S := S) (L := L) (n := (Int.toNat N))
  have ltc := ltb.2.2
  have ltd := hT8.2
  refine ⟨fun (c10 : (¬ (vr1 : Int) = 0)) => ?_, fun (c10 : ((vr1 : Int) = 0)) => ?_⟩
  ·
    refine ⟨_, rfl, (by decide), ?_⟩
    have r11 : 0 ≤ (I2 235 23) ∧ (I2 235 23) ≤ 23 := Rg.f23 hR3
    refine ⟨⟨_, rfl, (by decide)⟩, ?_⟩
    refine r_st11 (v0 := v0) (v1 := (I2 235 23)) hF hR3 (by omega) (RDM_f hq (fun j => hW5 236 j (by omega))) (by omega) (fun vr13 hr14 qr15 => ?_)
    have hr14 : -2147483648 ≤ vr13 ∧ vr13 < 2147483648 := hr14
    have b16 : (0 : Int) ≤ vr13 ∧ vr13 ≤ 5100000 := by rw [qr15]; exact hq.2.2.2.1 _
    refine ⟨_, rfl, (by decide), ?_⟩
    have r17 : 0 ≤ (I2 235 22) ∧ (I2 235 22) ≤ 23 := Rg.f22 hR3
    refine ⟨⟨_, rfl, (by decide)⟩, ?_⟩
    refine r_st11 (v0 := v0) (v1 := (I2 235 22)) hF hR3 (by omega) (RDM_f hq (fun j => hW5 236 j (by omega))) (by omega) (fun vr19 hr20 qr21 => ?_)
    have hr20 : -2147483648 ≤ vr19 ∧ vr19 < 2147483648 := hr20
    have b22 : (0 : Int) ≤ vr19 ∧ vr19 ≤ 5100000 := by rw [qr21]; exact hq.2.2.2.1 _
    refine ⟨_, rfl, (by decide), ?_⟩
    refine ⟨⟨_, rfl, (by decide)⟩, ?_⟩
    refine r_ld11 (v0 := v0) (v1 := (I2 235 23)) hF hR3 (by omega) (RDM_f hq (fun j => hW5 236 j (by omega))) (by omega) (fun vr23 hr24 qr25 => ?_)
    have hr24 : -2147483648 ≤ vr23 ∧ vr23 < 2147483648 := hr24
    have b26 : (-200000 : Int) ≤ vr23 ∧ vr23 ≤ 200000 := by rw [qr25]; exact hq.2.2.2.2 _
    refine ⟨_, rfl, (by decide), ?_⟩
    refine ⟨⟨_, rfl, (by decide)⟩, ?_⟩
    refine r_ld11 (v0 := v0) (v1 := (I2 235 22)) hF hR3 (by omega) (RDM_f hq (fun j => hW5 236 j (by omega))) (by omega) (fun vr27 hr28 qr29 => ?_)
    have hr28 : -2147483648 ≤ vr27 ∧ vr27 < 2147483648 := hr28
    have b30 : (-200000 : Int) ≤ vr27 ∧ vr27 ≤ 200000 := by rw [qr29]; exact hq.2.2.2.2 _
    refine ⟨_, rfl, (by decide), ?_⟩
    have n31 : (wr (vr13 - vr19)) = vr13 - vr19 := wr_id (show -2147483648 ≤ (vr13 - vr19 : Int) ∧ (vr13 - vr19 : Int) < 2147483648 from by omega)
    have n32 : (wr (vr23 - vr27)) = vr23 - vr27 := wr_id (show -2147483648 ≤ (vr23 - vr27 : Int) ∧ (vr23 - vr27 : Int) < 2147483648 from by omega)
    refine r_yld11_l hF hR3 (by omega) (RDM_f hq (fun j => hW5 236 j (by omega))) hT8 (by omega) (by omega) (fun r g3 hv hA' => hQ _ _ hR3 hA' (hv _ rfl) (fun ka ja hk => (hW5 ka ja (by omega))) g3) _ (wr (vr13 - vr19)) (wr (vr23 - vr27)) (I2 235 23)  (show (0 : Int) ≤ (I2 235 23) from by first | with_reducible assumption | omega | (simp only [wr, wl] at *; omega)) (show ((I2 235 23) : Int) ≤ 24 from by first | with_reducible assumption | omega | (simp only [wr, wl] at *; omega)) (show (I2 235 23) ≤ N from by first | with_reducible assumption | omega | (simp only [wr, wl] at *; omega)) (show (wr (vr13 - vr19)) = S (Int.toNat (I2 235 23)) - S (Int.toNat (I2 235 22)) from by first | omega | (simp only [wr, wl] at *; omega)) (show (wr (vr23 - vr27)) = L (Int.toNat (I2 235 23)) - L (Int.toNat (I2 235 22)) from by first | omega | (simp only [wr, wl] at *; omega)) (show ylF S L (Int.toNat (LT S L (Int.toNat N)).1) (Int.toNat (LT S L (Int.toNat N)).2.1) v1 (Int.toNat (N - (I2 235 23))) (Int.toNat (I2 235 23)) = ydF S L (Int.toNat N) v1 from (by
                              have h := ydF_y (S := S) (L := L) (n := (Int.toNat N)) (o := v1) (by omega)
                              have l2 := (hT8.2 (by omega)).2
                              have lt := LT_ok (S := S) (L := L) (n := (Int.toNat N))
                              have ls := lt.2.2 (by omega)
                              rw [show (Int.toNat N) - Int.toNat (LT S L (Int.toNat N)).2.1 = Int.toNat (N - (I2 235 23)) from by omega] at h
                              rw [h, show Int.toNat (I2 235 23) = Int.toNat (LT S L (Int.toNat N)).2.1 from by omega])) (Nat.lt_succ_self _)
  ·
    exact ⟨rfl, fun hv hA' => hQ _ _ hR3 hA' (hv _ rfl) (fun ka ja hk => (hW5 ka ja (by omega))) ((by
                              have q := ydF_n (S := S) (L := L) (n := Int.toNat N) (o := v1) (by omega)
                              exact q.symm))⟩
end RL11
