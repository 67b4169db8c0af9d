/-! the reference's laws, from any state. Own work (scripts laid by wip/pm/gen30.py). -/
section RL
variable {G : pG} {d : Nat} {F : pF} {I : pI} {Q : Option pV → pF → pI → Prop}
theorem r_line_l3 (hF : FS F) (hR : Rg I) {i j v0 : Int} (hp : 0 ≤ v0 ∧ v0 ≤ 13) (hi : 0 ≤ i ∧ i ≤ 23) (hj : 0 ≤ j ∧ j ≤ 23) (hK : ∀ (n : Int) , GoN G (d + 4) kX12_findLine NP NP 106 [some (vr 235), some (vi v0), some (vi i), some (vi j), some (vi n), none] [] F I Q) : ∀ (mz : Nat) (n k : Int) , ((0 : Int) ≤ k) → (24 - k).toNat < mz → GoN G (d + 4) kX12_findLine NP NP 68 [some (vr 235), some (vi v0), some (vi i), some (vi j), some (vi n), some (vi k)] [] F I Q := by
  intro mz
  induction mz with
  | zero => intro n k _ h; exact absurd h (Nat.not_lt_zero _)
  | succ mz ih =>
    intro n k c100 hm
    refine GoN_in (fun hok hA => ?_)
    have iiv0 : -2147483648 ≤ v0 ∧ v0 < 2147483648 := hok 1 _ rfl
    have iii : -2147483648 ≤ i ∧ i < 2147483648 := hok 2 _ rfl
    have iij : -2147483648 ≤ j ∧ j < 2147483648 := hok 3 _ rfl
    have iin : -2147483648 ≤ n ∧ n < 2147483648 := hok 4 _ rfl
    have iik : -2147483648 ≤ k ∧ k < 2147483648 := hok 5 _ rfl
    refine Go_wp (by decide) ckX12_findLine [68, 106] ?_
    refine ⟨⟨_, rfl, (by decide)⟩, ?_⟩
    refine Call_wp (lv := [some (vr 235), some (vi v0)]) (by decide) ckX12_many [] rfl rfl ?_
    refine ⟨⟨_, rfl, (by decide)⟩, ?_⟩
    refine r_of (p := v0) (f := 4) hF (j := (Int.toNat (308 + 66 * v0))) (by omega) (by omega) (by omega) (fun w1 hw2 => ?_)
    have r3 : 0 ≤ (I 236 (Int.toNat (308 + 66 * v0))) ∧ (I 236 (Int.toNat (308 + 66 * v0))) ≤ 24 := Pn_p4 (p := (Int.toNat v0)) (by omega) (by omega) (hR.n (Int.toNat (308 + 66 * v0)) (by omega))
    have hw2 : w1 = (I 236 (Int.toNat (308 + 66 * v0))) := hw2
    refine ⟨rfl, ?_⟩
    refine ⟨fun (c5 : ((w1 : Int) ≤ k)) => ?_, fun (c5 : (¬ ((w1 : Int) ≤ k))) => ?_⟩
    ·
      refine GoN_lv (lv' := [some (vr 235), some (vi v0), some (vi i), some (vi j), some (vi n), none]) (LvLe.k (LvLe.k (LvLe.k (LvLe.k (LvLe.k (LvLe.d LvLe.n)))))) ?_
      exact hK n  
    ·
      refine ⟨⟨_, rfl, (by decide)⟩, ?_⟩
      refine Call_wp (lv := [some (vr 235), some (vi v0), some (vi i), some (vi j), some (vi k), none, none, none, none]) (by decide) ckX12_isOn [] rfl rfl ?_
      refine ⟨⟨_, rfl, (by decide)⟩, ?_⟩
      refine Call_wp (lv := [some (vr 235), some (vi v0), some (vi j)]) (by decide) ckX12_stretch [] rfl rfl ?_
      refine ⟨⟨_, rfl, (by decide)⟩, ?_⟩
      have n6 : (wr (2 * j)) = 2 * j := wr_id (show -2147483648 ≤ (2 * j : Int) ∧ (2 * j : Int) < 2147483648 from by omega)
      have n7 : (wr (17 + (wr (2 * j)))) = 17 + (wr (2 * j)) := wr_id (show -2147483648 ≤ (17 + (wr (2 * j)) : Int) ∧ (17 + (wr (2 * j)) : Int) < 2147483648 from by omega)
      refine r_of (p := v0) (f := (wr (17 + (wr (2 * j))))) hF (j := (Int.toNat (321 + 2 * j + 66 * v0))) (by omega) (by omega) (by omega) (fun w8 hw9 => ?_)
      have hw9 : w8 = (I 236 (Int.toNat (321 + 2 * j + 66 * v0))) := hw9
      refine ⟨rfl, ?_⟩
      refine ⟨⟨_, rfl, (by decide)⟩, ?_⟩
      refine Call_wp (lv := [some (vr 235), some (vi v0), some (vi i)]) (by decide) ckX12_stretch [] rfl rfl ?_
      refine ⟨⟨_, rfl, (by decide)⟩, ?_⟩
      have n10 : (wr (2 * i)) = 2 * i := wr_id (show -2147483648 ≤ (2 * i : Int) ∧ (2 * i : Int) < 2147483648 from by omega)
      have n11 : (wr (17 + (wr (2 * i)))) = 17 + (wr (2 * i)) := wr_id (show -2147483648 ≤ (17 + (wr (2 * i)) : Int) ∧ (17 + (wr (2 * i)) : Int) < 2147483648 from by omega)
      refine r_of (p := v0) (f := (wr (17 + (wr (2 * i))))) hF (j := (Int.toNat (321 + 2 * i + 66 * v0))) (by omega) (by omega) (by omega) (fun w12 hw13 => ?_)
      have hw13 : w12 = (I 236 (Int.toNat (321 + 2 * i + 66 * v0))) := hw13
      refine ⟨rfl, ?_⟩
      refine ⟨⟨_, rfl, (by decide)⟩, ?_⟩
      refine Call_wp (lv := [some (vr 235), some (vi v0), some (vi j)]) (by decide) ckX12_load [] rfl rfl ?_
      refine ⟨⟨_, rfl, (by decide)⟩, ?_⟩
      have n14 : (wr ((wr (17 + (wr (2 * j)))) + 1)) = (wr (17 + (wr (2 * j)))) + 1 := wr_id (show -2147483648 ≤ ((wr (17 + (wr (2 * j)))) + 1 : Int) ∧ ((wr (17 + (wr (2 * j)))) + 1 : Int) < 2147483648 from by omega)
      refine r_of (p := v0) (f := (wr ((wr (17 + (wr (2 * j)))) + 1))) hF (j := (Int.toNat (322 + 2 * j + 66 * v0))) (by omega) (by omega) (by omega) (fun w15 hw16 => ?_)
      have hw16 : w15 = (I 236 (Int.toNat (322 + 2 * j + 66 * v0))) := hw16
      refine ⟨rfl, ?_⟩
      refine ⟨⟨_, rfl, (by decide)⟩, ?_⟩
      refine Call_wp (lv := [some (vr 235), some (vi v0), some (vi i)]) (by decide) ckX12_load [] rfl rfl ?_
      refine ⟨⟨_, rfl, (by decide)⟩, ?_⟩
      have n17 : (wr ((wr (17 + (wr (2 * i)))) + 1)) = (wr (17 + (wr (2 * i)))) + 1 := wr_id (show -2147483648 ≤ ((wr (17 + (wr (2 * i)))) + 1 : Int) ∧ ((wr (17 + (wr (2 * i)))) + 1 : Int) < 2147483648 from by omega)
      refine r_of (p := v0) (f := (wr ((wr (17 + (wr (2 * i)))) + 1))) hF (j := (Int.toNat (322 + 2 * i + 66 * v0))) (by omega) (by omega) (by omega) (fun w18 hw19 => ?_)
      have hw19 : w18 = (I 236 (Int.toNat (322 + 2 * i + 66 * v0))) := hw19
      refine ⟨rfl, ?_⟩
      refine ⟨⟨_, rfl, (by decide)⟩, ?_⟩
      refine Call_wp (lv := [some (vr 235), some (vi v0), some (vi k)]) (by decide) ckX12_isGood [] rfl rfl ?_
      refine ⟨⟨_, rfl, (by decide)⟩, ?_⟩
      refine Call_wp (lv := [some (vr 235), some (vi v0), some (vi k)]) (by decide) ckX12_load [] rfl rfl ?_
      refine ⟨⟨_, rfl, (by decide)⟩, ?_⟩
      have n20 : (wr (2 * k)) = 2 * k := wr_id (show -2147483648 ≤ (2 * k : Int) ∧ (2 * k : Int) < 2147483648 from by omega)
      have n21 : (wr (17 + (wr (2 * k)))) = 17 + (wr (2 * k)) := wr_id (show -2147483648 ≤ (17 + (wr (2 * k)) : Int) ∧ (17 + (wr (2 * k)) : Int) < 2147483648 from by omega)
      have n22 : (wr ((wr (17 + (wr (2 * k)))) + 1)) = (wr (17 + (wr (2 * k)))) + 1 := wr_id (show -2147483648 ≤ ((wr (17 + (wr (2 * k)))) + 1 : Int) ∧ ((wr (17 + (wr (2 * k)))) + 1 : Int) < 2147483648 from by omega)
      refine r_of (p := v0) (f := (wr ((wr (17 + (wr (2 * k)))) + 1))) hF (j := (Int.toNat (322 + 2 * k + 66 * v0))) (by omega) (by omega) (by omega) (fun w23 hw24 => ?_)
      have hw24 : w23 = (I 236 (Int.toNat (322 + 2 * k + 66 * v0))) := hw24
      refine ⟨rfl, ?_⟩
      have a25 : -2147483648 ≤ (I 236 (Int.toNat (322 + 2 * k + 66 * v0))) ∧ (I 236 (Int.toNat (322 + 2 * k + 66 * v0))) < 2147483648 := hA.1 _ _
      refine ⟨fun (c26 : ((w23 : Int) < 0)) => ?_, fun (c26 : (¬ ((w23 : Int) < 0))) => ?_⟩
      ·
        refine ⟨rfl, (by decide), ?_⟩
        refine ⟨fun _ => ?_, fun c => absurd (show ((0 : Int) = 0) from by decide) c⟩
        refine ⟨rfl, (by decide), ?_⟩
        refine ⟨fun _ => ?_, fun c => absurd (show ((0 : Int) = 0) from by decide) c⟩
        have n27 : (wr (n + 0)) = n + 0 := wr_id (show -2147483648 ≤ (n + 0 : Int) ∧ (n + 0 : Int) < 2147483648 from by omega)
        have n28 : (wr (k + 1)) = k + 1 := wr_id (show -2147483648 ≤ (k + 1 : Int) ∧ (k + 1 : Int) < 2147483648 from by omega)
        exact ih (wr (n + 0)) (wr (k + 1))  (show (0 : Int) ≤ (wr (k + 1)) from by first | with_reducible assumption | omega | (simp only [wr, wl] at *; omega)) (show (24 - (wr (k + 1))).toNat < mz from by omega)
      ·
        refine ⟨rfl, (by decide), ?_⟩
        refine ⟨fun c => absurd c (show (¬ ((1 : Int) = 0)) from by decide), fun _ => ?_⟩
        refine ⟨⟨_, rfl, (by decide)⟩, ?_⟩
        refine Call_wp (lv := [some (vr 235), some (vi v0), some (vi k)]) (by decide) ckX12_load [] rfl rfl ?_
        refine ⟨⟨_, rfl, (by decide)⟩, ?_⟩
        refine r_of (p := v0) (f := (wr ((wr (17 + (wr (2 * k)))) + 1))) hF (j := (Int.toNat (322 + 2 * k + 66 * v0))) (by omega) (by omega) (by omega) (fun w29 hw30 => ?_)
        have hw30 : w29 = (I 236 (Int.toNat (322 + 2 * k + 66 * v0))) := hw30
        obtain rfl : w23 = w29 := hw24.trans hw30.symm
        refine ⟨rfl, ?_⟩
        refine ⟨⟨_, rfl, (by decide)⟩, ?_⟩
        refine Call_wp (lv := [some (vr 235), some (vi v0), some (vi i)]) (by decide) ckX12_load [] rfl rfl ?_
        refine ⟨⟨_, rfl, (by decide)⟩, ?_⟩
        refine r_of (p := v0) (f := (wr ((wr (17 + (wr (2 * i)))) + 1))) hF (j := (Int.toNat (322 + 2 * i + 66 * v0))) (by omega) (by omega) (by omega) (fun w31 hw32 => ?_)
        have hw32 : w31 = (I 236 (Int.toNat (322 + 2 * i + 66 * v0))) := hw32
        obtain rfl : w18 = w31 := hw19.trans hw32.symm
        refine ⟨rfl, ?_⟩
        refine ⟨⟨_, rfl, (by decide)⟩, ?_⟩
        refine Call_wp (lv := [some (vr 235), some (vi v0), some (vi k)]) (by decide) ckX12_stretch [] rfl rfl ?_
        refine ⟨⟨_, rfl, (by decide)⟩, ?_⟩
        refine r_of (p := v0) (f := (wr (17 + (wr (2 * k))))) hF (j := (Int.toNat (321 + 2 * k + 66 * v0))) (by omega) (by omega) (by omega) (fun w33 hw34 => ?_)
        have hw34 : w33 = (I 236 (Int.toNat (321 + 2 * k + 66 * v0))) := hw34
        refine ⟨rfl, ?_⟩
        refine ⟨⟨_, rfl, (by decide)⟩, ?_⟩
        refine Call_wp (lv := [some (vr 235), some (vi v0), some (vi i)]) (by decide) ckX12_stretch [] rfl rfl ?_
        refine ⟨⟨_, rfl, (by decide)⟩, ?_⟩
        refine r_of (p := v0) (f := (wr (17 + (wr (2 * i))))) hF (j := (Int.toNat (321 + 2 * i + 66 * v0))) (by omega) (by omega) (by omega) (fun w35 hw36 => ?_)
        have hw36 : w35 = (I 236 (Int.toNat (321 + 2 * i + 66 * v0))) := hw36
        obtain rfl : w12 = w35 := hw13.trans hw36.symm
        refine ⟨rfl, ?_⟩
        have a37 : -2147483648 ≤ (I 236 (Int.toNat (321 + 2 * j + 66 * v0))) ∧ (I 236 (Int.toNat (321 + 2 * j + 66 * v0))) < 2147483648 := hA.1 _ _
        have a38 : -2147483648 ≤ (I 236 (Int.toNat (321 + 2 * i + 66 * v0))) ∧ (I 236 (Int.toNat (321 + 2 * i + 66 * v0))) < 2147483648 := hA.1 _ _
        have a39 : -2147483648 ≤ (I 236 (Int.toNat (322 + 2 * i + 66 * v0))) ∧ (I 236 (Int.toNat (322 + 2 * i + 66 * v0))) < 2147483648 := hA.1 _ _
        have n40 : -2147483648 ≤ (wr (w8 - w12)) ∧ (wr (w8 - w12)) < 2147483648 := wr_R _
        have n41 : -2147483648 ≤ (wr (w23 - w18)) ∧ (wr (w23 - w18)) < 2147483648 := wr_R _
        have a42 : -2147483648 ≤ (I 236 (Int.toNat (322 + 2 * j + 66 * v0))) ∧ (I 236 (Int.toNat (322 + 2 * j + 66 * v0))) < 2147483648 := hA.1 _ _
        have a43 : -2147483648 ≤ (I 236 (Int.toNat (321 + 2 * k + 66 * v0))) ∧ (I 236 (Int.toNat (321 + 2 * k + 66 * v0))) < 2147483648 := hA.1 _ _
        have n44 : -2147483648 ≤ (wr (w15 - w18)) ∧ (wr (w15 - w18)) < 2147483648 := wr_R _
        have n45 : -2147483648 ≤ (wr (w33 - w12)) ∧ (wr (w33 - w12)) < 2147483648 := wr_R _
        refine ⟨fun c46 => ?_, fun c46 => ?_⟩
        ·
          have c46 : (¬ ((wl ((wr (w8 - w12)) * (wr (w23 - w18)))) : Int) = (wl ((wr (w15 - w18)) * (wr (w33 - w12))))) := fun e => c46 (lcm_eq.2 e)
          refine ⟨rfl, (by decide), ?_⟩
          refine ⟨fun _ => ?_, fun c => absurd (show ((0 : Int) = 0) from by decide) c⟩
          have n47 : (wr (n + 0)) = n + 0 := wr_id (show -2147483648 ≤ (n + 0 : Int) ∧ (n + 0 : Int) < 2147483648 from by omega)
          have n48 : (wr (k + 1)) = k + 1 := wr_id (show -2147483648 ≤ (k + 1 : Int) ∧ (k + 1 : Int) < 2147483648 from by omega)
          exact ih (wr (n + 0)) (wr (k + 1))  (show (0 : Int) ≤ (wr (k + 1)) from by first | with_reducible assumption | omega | (simp only [wr, wl] at *; omega)) (show (24 - (wr (k + 1))).toNat < mz from by omega)
        ·
          have c46 : (((wl ((wr (w8 - w12)) * (wr (w23 - w18)))) : Int) = (wl ((wr (w15 - w18)) * (wr (w33 - w12))))) := lcm_eq.1 c46
          refine ⟨rfl, (by decide), ?_⟩
          refine ⟨fun c => absurd c (show (¬ ((1 : Int) = 0)) from by decide), fun _ => ?_⟩
          have n49 : -2147483648 ≤ (wr (n + 1)) ∧ (wr (n + 1)) < 2147483648 := wr_R _
          have n50 : (wr (k + 1)) = k + 1 := wr_id (show -2147483648 ≤ (k + 1 : Int) ∧ (k + 1 : Int) < 2147483648 from by omega)
          exact ih (wr (n + 1)) (wr (k + 1))  (show (0 : Int) ≤ (wr (k + 1)) from by first | with_reducible assumption | omega | (simp only [wr, wl] at *; omega)) (show (24 - (wr (k + 1))).toNat < mz from by omega)
theorem r_line_l2 (hF : FS F) (hR : Rg I) {i v0 : Int} (hp : 0 ≤ v0 ∧ v0 ≤ 13) (hi : 0 ≤ i ∧ i ≤ 23) (hK : ∀ (J : pI), Rg J → (∀ k j, ¬ ((k = 235 ∧ 22 ≤ j ∧ j ≤ 24)) → J k j = I k j) → GoN G (d + 4) kX12_findLine NP NP 137 [some (vr 235), some (vi v0), some (vi i), none, none, none] [] F J Q) : ∀ (mz : Nat) (j : Int) (J : pI), Rg J → (∀ k j, ¬ ((k = 235 ∧ 22 ≤ j ∧ j ≤ 24)) → J k j = I k j) → ((0 : Int) ≤ j) → (24 - j).toNat < mz → GoN G (d + 4) kX12_findLine NP NP 20 [some (vr 235), some (vi v0), some (vi i), some (vi j), none, none] [] F J Q := by
  intro mz
  induction mz with
  | zero => intro j J hJ hV _ h; exact absurd h (Nat.not_lt_zero _)
  | succ mz ih =>
    intro j J hJ hV c100 hm
    refine GoN_in (fun hok hA => ?_)
    have iiv0 : -2147483648 ≤ v0 ∧ v0 < 2147483648 := hok 1 _ rfl
    have iii : -2147483648 ≤ i ∧ i < 2147483648 := hok 2 _ rfl
    have iij : -2147483648 ≤ j ∧ j < 2147483648 := hok 3 _ rfl
    refine Go_wp (by decide) ckX12_findLine [20, 68, 137] ?_
    refine ⟨⟨_, rfl, (by decide)⟩, ?_⟩
    refine Call_wp (lv := [some (vr 235), some (vi v0)]) (by decide) ckX12_many [] rfl rfl ?_
    refine ⟨⟨_, rfl, (by decide)⟩, ?_⟩
    refine r_of (p := v0) (f := 4) hF (j := (Int.toNat (308 + 66 * v0))) (by omega) (by omega) (by omega) (fun w1 hw2 => ?_)
    have r3 : 0 ≤ (I 236 (Int.toNat (308 + 66 * v0))) ∧ (I 236 (Int.toNat (308 + 66 * v0))) ≤ 24 := Pn_p4 (p := (Int.toNat v0)) (by omega) (by omega) (hR.n (Int.toNat (308 + 66 * v0)) (by omega))
    have u4 : (J 236 (Int.toNat (308 + 66 * v0))) = (I 236 (Int.toNat (308 + 66 * v0))) := hV _ _ (by first | decide | omega)
    have a5 : -2147483648 ≤ (J 236 (Int.toNat (308 + 66 * v0))) ∧ (J 236 (Int.toNat (308 + 66 * v0))) < 2147483648 := hA.1 _ _
    have r6 : 0 ≤ (J 236 (Int.toNat (308 + 66 * v0))) ∧ (J 236 (Int.toNat (308 + 66 * v0))) ≤ 24 := Pn_p4 (p := (Int.toNat v0)) (by omega) (by omega) (hJ.n (Int.toNat (308 + 66 * v0)) (by omega))
    have hw2 : w1 = (J 236 (Int.toNat (308 + 66 * v0))) := hw2
    refine ⟨rfl, ?_⟩
    refine ⟨fun (c8 : ((w1 : Int) ≤ j)) => ?_, fun (c8 : (¬ ((w1 : Int) ≤ j))) => ?_⟩
    ·
      refine GoN_lv (lv' := [some (vr 235), some (vi v0), some (vi i), none, none, none]) (LvLe.k (LvLe.k (LvLe.k (LvLe.d (LvLe.k (LvLe.k LvLe.n)))))) ?_
      exact hK  J hJ (fun ka ja hk => (hV ka ja (by omega))) 
    ·
      refine ⟨⟨_, rfl, (by decide)⟩, ?_⟩
      refine Call_wp (lv := [some (vr 235), some (vi v0), some (vi i)]) (by decide) ckX12_isGood [] rfl rfl ?_
      refine ⟨⟨_, rfl, (by decide)⟩, ?_⟩
      refine Call_wp (lv := [some (vr 235), some (vi v0), some (vi i)]) (by decide) ckX12_load [] rfl rfl ?_
      refine ⟨⟨_, rfl, (by decide)⟩, ?_⟩
      have n9 : (wr (2 * i)) = 2 * i := wr_id (show -2147483648 ≤ (2 * i : Int) ∧ (2 * i : Int) < 2147483648 from by omega)
      have n10 : (wr (17 + (wr (2 * i)))) = 17 + (wr (2 * i)) := wr_id (show -2147483648 ≤ (17 + (wr (2 * i)) : Int) ∧ (17 + (wr (2 * i)) : Int) < 2147483648 from by omega)
      have n11 : (wr ((wr (17 + (wr (2 * i)))) + 1)) = (wr (17 + (wr (2 * i)))) + 1 := wr_id (show -2147483648 ≤ ((wr (17 + (wr (2 * i)))) + 1 : Int) ∧ ((wr (17 + (wr (2 * i)))) + 1 : Int) < 2147483648 from by omega)
      refine r_of (p := v0) (f := (wr ((wr (17 + (wr (2 * i)))) + 1))) hF (j := (Int.toNat (322 + 2 * i + 66 * v0))) (by omega) (by omega) (by omega) (fun w12 hw13 => ?_)
      have u14 : (J 236 (Int.toNat (322 + 2 * i + 66 * v0))) = (I 236 (Int.toNat (322 + 2 * i + 66 * v0))) := hV _ _ (by first | decide | omega)
      have a15 : -2147483648 ≤ (J 236 (Int.toNat (322 + 2 * i + 66 * v0))) ∧ (J 236 (Int.toNat (322 + 2 * i + 66 * v0))) < 2147483648 := hA.1 _ _
      have hw13 : w12 = (J 236 (Int.toNat (322 + 2 * i + 66 * v0))) := hw13
      refine ⟨rfl, ?_⟩
      refine ⟨fun (c17 : ((w12 : Int) < 0)) => ?_, fun (c17 : (¬ ((w12 : Int) < 0))) => ?_⟩
      ·
        refine ⟨rfl, (by decide), ?_⟩
        refine ⟨fun _ => ?_, fun c => absurd (show ((0 : Int) = 0) from by decide) c⟩
        have n18 : (wr (j + 1)) = j + 1 := wr_id (show -2147483648 ≤ (j + 1 : Int) ∧ (j + 1 : Int) < 2147483648 from by omega)
        exact ih (wr (j + 1)) J hJ (fun ka ja hk => (hV ka ja (by omega))) (show (0 : Int) ≤ (wr (j + 1)) from by first | with_reducible assumption | omega | (simp only [wr, wl] at *; omega)) (show (24 - (wr (j + 1))).toNat < mz from by omega)
      ·
        refine ⟨rfl, (by decide), ?_⟩
        refine ⟨fun c => absurd c (show (¬ ((1 : Int) = 0)) from by decide), fun _ => ?_⟩
        refine ⟨⟨_, rfl, (by decide)⟩, ?_⟩
        refine Call_wp (lv := [some (vr 235), some (vi v0), some (vi j)]) (by decide) ckX12_isGood [] rfl rfl ?_
        refine ⟨⟨_, rfl, (by decide)⟩, ?_⟩
        refine Call_wp (lv := [some (vr 235), some (vi v0), some (vi j)]) (by decide) ckX12_load [] rfl rfl ?_
        refine ⟨⟨_, rfl, (by decide)⟩, ?_⟩
        have n19 : (wr (2 * j)) = 2 * j := wr_id (show -2147483648 ≤ (2 * j : Int) ∧ (2 * j : Int) < 2147483648 from by omega)
        have n20 : (wr (17 + (wr (2 * j)))) = 17 + (wr (2 * j)) := wr_id (show -2147483648 ≤ (17 + (wr (2 * j)) : Int) ∧ (17 + (wr (2 * j)) : Int) < 2147483648 from by omega)
        have n21 : (wr ((wr (17 + (wr (2 * j)))) + 1)) = (wr (17 + (wr (2 * j)))) + 1 := wr_id (show -2147483648 ≤ ((wr (17 + (wr (2 * j)))) + 1 : Int) ∧ ((wr (17 + (wr (2 * j)))) + 1 : Int) < 2147483648 from by omega)
        refine r_of (p := v0) (f := (wr ((wr (17 + (wr (2 * j)))) + 1))) hF (j := (Int.toNat (322 + 2 * j + 66 * v0))) (by omega) (by omega) (by omega) (fun w22 hw23 => ?_)
        have u24 : (J 236 (Int.toNat (322 + 2 * j + 66 * v0))) = (I 236 (Int.toNat (322 + 2 * j + 66 * v0))) := hV _ _ (by first | decide | omega)
        have a25 : -2147483648 ≤ (J 236 (Int.toNat (322 + 2 * j + 66 * v0))) ∧ (J 236 (Int.toNat (322 + 2 * j + 66 * v0))) < 2147483648 := hA.1 _ _
        have hw23 : w22 = (J 236 (Int.toNat (322 + 2 * j + 66 * v0))) := hw23
        refine ⟨rfl, ?_⟩
        refine ⟨fun (c27 : ((w22 : Int) < 0)) => ?_, fun (c27 : (¬ ((w22 : Int) < 0))) => ?_⟩
        ·
          refine ⟨rfl, (by decide), ?_⟩
          refine ⟨fun _ => ?_, fun c => absurd (show ((0 : Int) = 0) from by decide) c⟩
          have n28 : (wr (j + 1)) = j + 1 := wr_id (show -2147483648 ≤ (j + 1 : Int) ∧ (j + 1 : Int) < 2147483648 from by omega)
          exact ih (wr (j + 1)) J hJ (fun ka ja hk => (hV ka ja (by omega))) (show (0 : Int) ≤ (wr (j + 1)) from by first | with_reducible assumption | omega | (simp only [wr, wl] at *; omega)) (show (24 - (wr (j + 1))).toNat < mz from by omega)
        ·
          refine ⟨rfl, (by decide), ?_⟩
          refine ⟨fun c => absurd c (show (¬ ((1 : Int) = 0)) from by decide), fun _ => ?_⟩
          refine ⟨⟨_, rfl, (by decide)⟩, ?_⟩
          refine Call_wp (lv := [some (vr 235), some (vi v0), some (vi i)]) (by decide) ckX12_stretch [] rfl rfl ?_
          refine ⟨⟨_, rfl, (by decide)⟩, ?_⟩
          refine r_of (p := v0) (f := (wr (17 + (wr (2 * i))))) hF (j := (Int.toNat (321 + 2 * i + 66 * v0))) (by omega) (by omega) (by omega) (fun w29 hw30 => ?_)
          have u31 : (J 236 (Int.toNat (321 + 2 * i + 66 * v0))) = (I 236 (Int.toNat (321 + 2 * i + 66 * v0))) := hV _ _ (by first | decide | omega)
          have a32 : -2147483648 ≤ (J 236 (Int.toNat (321 + 2 * i + 66 * v0))) ∧ (J 236 (Int.toNat (321 + 2 * i + 66 * v0))) < 2147483648 := hA.1 _ _
          have hw30 : w29 = (J 236 (Int.toNat (321 + 2 * i + 66 * v0))) := hw30
          refine ⟨rfl, ?_⟩
          refine ⟨⟨_, rfl, (by decide)⟩, ?_⟩
          refine Call_wp (lv := [some (vr 235), some (vi v0), some (vi j)]) (by decide) ckX12_stretch [] rfl rfl ?_
          refine ⟨⟨_, rfl, (by decide)⟩, ?_⟩
          refine r_of (p := v0) (f := (wr (17 + (wr (2 * j))))) hF (j := (Int.toNat (321 + 2 * j + 66 * v0))) (by omega) (by omega) (by omega) (fun w33 hw34 => ?_)
          have u35 : (J 236 (Int.toNat (321 + 2 * j + 66 * v0))) = (I 236 (Int.toNat (321 + 2 * j + 66 * v0))) := hV _ _ (by first | decide | omega)
          have a36 : -2147483648 ≤ (J 236 (Int.toNat (321 + 2 * j + 66 * v0))) ∧ (J 236 (Int.toNat (321 + 2 * j + 66 * v0))) < 2147483648 := hA.1 _ _
          have hw34 : w33 = (J 236 (Int.toNat (321 + 2 * j + 66 * v0))) := hw34
          refine ⟨rfl, ?_⟩
          refine ⟨fun (c39 : ((w29 : Int) = w33)) => ?_, fun (c39 : (¬ ((w29 : Int) = w33))) => ?_⟩
          ·
            have n40 : (wr (j + 1)) = j + 1 := wr_id (show -2147483648 ≤ (j + 1 : Int) ∧ (j + 1 : Int) < 2147483648 from by omega)
            exact ih (wr (j + 1)) J hJ (fun ka ja hk => (hV ka ja (by omega))) (show (0 : Int) ≤ (wr (j + 1)) from by first | with_reducible assumption | omega | (simp only [wr, wl] at *; omega)) (show (24 - (wr (j + 1))).toNat < mz from by omega)
          ·
            refine r_line_l3 hF hJ (by omega) (by omega) (by omega) (fun y41 => ?_) _ 0 0  (show (0 : Int) ≤ (0 : Int) from Int.le_refl _) (Nat.lt_succ_self _)
            refine GoN_in (fun hok42 hA43 => ?_)
            have i44 : -2147483648 ≤ y41 ∧ y41 < 2147483648 := hok42 4 _ rfl
            refine Go_wp (by decide) ckX12_findLine [20, 68, 137] ?_
            refine ⟨_, rfl, (by decide), ?_⟩
            have a45 : -2147483648 ≤ (J 235 24) ∧ (J 235 24) < 2147483648 := hA.1 _ _
            refine ⟨fun (c46 : ((y41 : Int) ≤ (J 235 24))) => ?_, fun (c46 : (¬ ((y41 : Int) ≤ (J 235 24)))) => ?_⟩
            ·
              refine GoN_lv (lv' := [some (vr 235), some (vi v0), some (vi i), some (vi (wr (j + 1))), none, none]) (LvLe.k (LvLe.k (LvLe.k (LvLe.k (LvLe.d (LvLe.k LvLe.n)))))) ?_
              have n47 : (wr (j + 1)) = j + 1 := wr_id (show -2147483648 ≤ (j + 1 : Int) ∧ (j + 1 : Int) < 2147483648 from by omega)
              exact ih (wr (j + 1)) J hJ (fun ka ja hk => (hV ka ja (by omega))) (show (0 : Int) ≤ (wr (j + 1)) from by first | with_reducible assumption | omega | (simp only [wr, wl] at *; omega)) (show (24 - (wr (j + 1))).toNat < mz from by omega)
            ·
              refine ⟨_, rfl, (by decide), ?_⟩
              refine ⟨_, rfl, (by decide), ?_⟩
              have p48 : (0 : Int) ≤ i ∧ (i : Int) ≤ 23 := by first | omega | (simp only [wr, wl] at *; omega)
              refine ⟨_, rfl, (by decide), ?_⟩
              have p49 : (0 : Int) ≤ j ∧ (j : Int) ≤ 23 := by first | omega | (simp only [wr, wl] at *; omega)
              refine GoN_lv (lv' := [some (vr 235), some (vi v0), some (vi i), some (vi (wr (j + 1))), none, none]) (LvLe.k (LvLe.k (LvLe.k (LvLe.k (LvLe.d (LvLe.k LvLe.n)))))) ?_
              have n50 : (wr (j + 1)) = j + 1 := wr_id (show -2147483648 ≤ (j + 1 : Int) ∧ (j + 1 : Int) < 2147483648 from by omega)
              exact ih (wr (j + 1)) (uI (uI (uI J 235 24 y41) 235 22 i) 235 23 j) (Rg.u (Rg.u (Rg.u hJ (Pr_f rfl)) (Pr_x22 p48)) (Pr_x23 p49)) (fun ka ja hk => ((uI_o (show ¬ (ka = 235 ∧ ja = 23) from by first | (intro e; obtain ⟨rfl, rfl⟩ := e; exact hk (by decide)) | omega))).trans (((uI_o (show ¬ (ka = 235 ∧ ja = 22) from by first | (intro e; obtain ⟨rfl, rfl⟩ := e; exact hk (by decide)) | omega))).trans (((uI_o (show ¬ (ka = 235 ∧ ja = 24) from by first | (intro e; obtain ⟨rfl, rfl⟩ := e; exact hk (by decide)) | omega))).trans ((hV ka ja (by omega)))))) (show (0 : Int) ≤ (wr (j + 1)) from by first | with_reducible assumption | omega | (simp only [wr, wl] at *; omega)) (show (24 - (wr (j + 1))).toNat < mz from by omega)
theorem r_line_l1 (hF : FS F) (hR : Rg I) {v0 : Int} (hp : 0 ≤ v0 ∧ v0 ≤ 13) (hQ : ∀ (r : Int) (I' : pI), Rg I' → (∀ k j, ¬ ((k = 235 ∧ 22 ≤ j ∧ j ≤ 24)) → I' k j = I k j) → (0 ≤ r ∧ r ≤ 1) → Q (some (vi r)) F I') : ∀ (mz : Nat) (i : Int) (J : pI), Rg J → (∀ k j, ¬ ((k = 235 ∧ 22 ≤ j ∧ j ≤ 24)) → J k j = I k j) → ((0 : Int) ≤ i) → (24 - i).toNat < mz → GoN G (d + 4) kX12_findLine NP NP 7 [some (vr 235), some (vi v0), some (vi i), none, none, none] [] F J Q := by
  intro mz
  induction mz with
  | zero => intro i J hJ hV _ h; exact absurd h (Nat.not_lt_zero _)
  | succ mz ih =>
    intro i J hJ hV c100 hm
    refine GoN_in (fun hok hA => ?_)
    have iiv0 : -2147483648 ≤ v0 ∧ v0 < 2147483648 := hok 1 _ rfl
    have iii : -2147483648 ≤ i ∧ i < 2147483648 := hok 2 _ rfl
    refine Go_wp (by decide) ckX12_findLine [7, 20] ?_
    refine ⟨⟨_, rfl, (by decide)⟩, ?_⟩
    refine Call_wp (lv := [some (vr 235), some (vi v0)]) (by decide) ckX12_many [] rfl rfl ?_
    refine ⟨⟨_, rfl, (by decide)⟩, ?_⟩
    refine r_of (p := v0) (f := 4) hF (j := (Int.toNat (308 + 66 * v0))) (by omega) (by omega) (by omega) (fun w1 hw2 => ?_)
    have r3 : 0 ≤ (I 236 (Int.toNat (308 + 66 * v0))) ∧ (I 236 (Int.toNat (308 + 66 * v0))) ≤ 24 := Pn_p4 (p := (Int.toNat v0)) (by omega) (by omega) (hR.n (Int.toNat (308 + 66 * v0)) (by omega))
    have u4 : (J 236 (Int.toNat (308 + 66 * v0))) = (I 236 (Int.toNat (308 + 66 * v0))) := hV _ _ (by first | decide | omega)
    have a5 : -2147483648 ≤ (J 236 (Int.toNat (308 + 66 * v0))) ∧ (J 236 (Int.toNat (308 + 66 * v0))) < 2147483648 := hA.1 _ _
    have r6 : 0 ≤ (J 236 (Int.toNat (308 + 66 * v0))) ∧ (J 236 (Int.toNat (308 + 66 * v0))) ≤ 24 := Pn_p4 (p := (Int.toNat v0)) (by omega) (by omega) (hJ.n (Int.toNat (308 + 66 * v0)) (by omega))
    have hw2 : w1 = (J 236 (Int.toNat (308 + 66 * v0))) := hw2
    refine ⟨rfl, ?_⟩
    refine ⟨fun (c8 : ((w1 : Int) ≤ i)) => ?_, fun (c8 : (¬ ((w1 : Int) ≤ i))) => ?_⟩
    ·
      refine ⟨_, rfl, (by decide), ?_⟩
      have a9 : -2147483648 ≤ (J 235 24) ∧ (J 235 24) < 2147483648 := hA.1 _ _
      refine ⟨fun (c10 : (((J 235 24) : Int) ≤ 0)) => ?_, fun (c10 : (¬ (((J 235 24) : Int) ≤ 0))) => ?_⟩
      ·
        exact ⟨rfl, (by decide), hQ _ _ hJ (fun ka ja hk => (hV ka ja (by omega))) (show 0 ≤ 0 ∧ 0 ≤ 1 from by decide)⟩
      ·
        exact ⟨rfl, (by decide), hQ _ _ hJ (fun ka ja hk => (hV ka ja (by omega))) (show 0 ≤ 1 ∧ 1 ≤ 1 from by decide)⟩
    ·
      have n11 : (wr (i + 1)) = i + 1 := wr_id (show -2147483648 ≤ (i + 1 : Int) ∧ (i + 1 : Int) < 2147483648 from by omega)
      refine r_line_l2 hF hJ (by omega) (by omega) (fun J12 hR13 hV15 => ?_) _ (wr (i + 1)) J hJ (fun _ _ _ => rfl) (show (0 : Int) ≤ (wr (i + 1)) from by first | with_reducible assumption | omega | (simp only [wr, wl] at *; omega)) (Nat.lt_succ_self _)
      refine GoN_in (fun hok16 hA14 => ?_)
      refine Go_wp (by decide) ckX12_findLine [7, 20] ?_
      exact ih (wr (i + 1)) J12 hR13 (fun ka ja hk => ((hV15 ka ja (by omega))).trans ((hV ka ja (by omega)))) (show (0 : Int) ≤ (wr (i + 1)) from by first | with_reducible assumption | omega | (simp only [wr, wl] at *; omega)) (show (24 - (wr (i + 1))).toNat < mz from by omega)
theorem r_findLine (hF : FS F) (hR : Rg I) {v0 : Int} (hp : 0 ≤ v0 ∧ v0 ≤ 13) (hQ : ∀ (r : Int) (I' : pI), Rg I' → AR I' → iR r → (∀ k j, ¬ ((k = 235 ∧ 22 ≤ j ∧ j ≤ 24)) → I' k j = I k j) → (0 ≤ r ∧ r ≤ 1) → Q (some (vi r)) F I') : CallN G (d + 4) kX12_findLine [vr 235, vi v0] NP F I Q := by
  refine CallN_in (fun hok hA => CallN_out ?_)
  have iv0 : -2147483648 ≤ v0 ∧ v0 < 2147483648 := hok (vi v0) (by simp)
  refine Call_wp (lv := [some (vr 235), some (vi v0), none, none, none, none]) (by decide) ckX12_findLine [7] rfl rfl ?_
  refine ⟨_, rfl, (by decide), ?_⟩
  refine r_line_l1 hF hR (by omega) (fun r I' g1 g2 g3 hv hA' => hQ _ _ g1 hA' (hv _ rfl) g2 g3) _ 0 (uI I 235 24 0) (Rg.u hR (Pr_f rfl)) (fun ka ja hk => (uI_o (show ¬ (ka = 235 ∧ ja = 24) from by first | (intro e; obtain ⟨rfl, rfl⟩ := e; exact hk (by decide)) | omega))) (show (0 : Int) ≤ (0 : Int) from Int.le_refl _) (Nat.lt_succ_self _)
theorem r_line (hF : FS F) (hR : Rg I) {v0 v1 : Int}  (hQ : ∀ (r : Int) (I' : pI), Rg I' → AR I' → iR r → (∀ k j, ¬ (k = 238 ∨ (k = 235 ∧ 22 ≤ j ∧ j ≤ 24)) → I' k j = I k j) → Q (some (vi r)) F I') : CallN G (d + 5) kX12_line [vr 235, vi v0, vi v1] NP F I Q := by
  refine CallN_in (fun hok hA => CallN_out ?_)
  have iv0 : -2147483648 ≤ v0 ∧ v0 < 2147483648 := hok (vi v0) (by simp)
  have iv1 : -2147483648 ≤ v1 ∧ v1 < 2147483648 := hok (vi v1) (by simp)
  refine Call_wp (lv := [some (vr 235), some (vi v0), some (vi v1)]) (by decide) ckX12_line [] rfl rfl ?_
  refine ⟨⟨_, rfl, (by decide)⟩, ?_⟩
  have r1 : 0 ≤ (I 236 0) ∧ (I 236 0) ≤ 14 := Rg.n0 hR
  refine s_X12_is hF (w := 0) (by decide) (show 0 ≤ (I 236 0) ∧ (I 236 0) < 1000000 from by omega) (fun (w2 : (0 ≤ v0 ∧ v0 < (I 236 0))) => ?_) (fun (w2 : ¬ (0 ≤ v0 ∧ v0 < (I 236 0))) => ?_)
  ·
    refine ⟨fun c => absurd c (show (¬ ((1 : Int) = 0)) from by decide), fun _ => ?_⟩
    refine s_X12_within (fun (w3 : ((0 : Int) ≤ v1 ∧ (v1 : Int) ≤ 2)) => ?_) (fun (w3 : ¬ ((0 : Int) ≤ v1 ∧ (v1 : Int) ≤ 2)) => ?_)
    ·
      refine ⟨fun _ => ?_, fun c => absurd c (show (¬ (1 : Int) = 0) from by decide)⟩
      refine ⟨⟨_, rfl, (by decide)⟩, ?_⟩
      refine r_findLine (v0 := v0) hF hR (by omega) (fun vr4 I5 hR6 hA7 hr9 hW8 q10 => ?_)
      have hr9 : -2147483648 ≤ vr4 ∧ vr4 < 2147483648 := hr9
      have q10 : 0 ≤ vr4 ∧ vr4 ≤ 1 := q10
      refine ⟨fun (c11 : (¬ (vr4 : Int) = 0)) => ?_, fun (c11 : ((vr4 : Int) = 0)) => ?_⟩
      ·
        refine ⟨fun (c12 : (¬ (v1 : Int) = 0)) => ?_, fun (c12 : ((v1 : Int) = 0)) => ?_⟩
        ·
          refine ⟨fun (c13 : (¬ (v1 : Int) = 1)) => ?_, fun (c13 : ((v1 : Int) = 1)) => ?_⟩
          ·
            refine ⟨_, rfl, (by decide), ?_⟩
            exact ⟨rfl, fun hv hA' => hQ _ _ hR6 hA' (hv _ rfl) (fun ka ja hk => (hW8 ka ja (by omega)))⟩
          ·
            refine ⟨_, rfl, (by decide), ?_⟩
            have r14 : 0 ≤ (I5 235 23) ∧ (I5 235 23) ≤ 23 := Rg.f23 hR6
            exact ⟨rfl, fun hv hA' => hQ _ _ hR6 hA' (hv _ rfl) (fun ka ja hk => (hW8 ka ja (by omega)))⟩
        ·
          refine ⟨_, rfl, (by decide), ?_⟩
          have r15 : 0 ≤ (I5 235 22) ∧ (I5 235 22) ≤ 23 := Rg.f22 hR6
          exact ⟨rfl, fun hv hA' => hQ _ _ hR6 hA' (hv _ rfl) (fun ka ja hk => (hW8 ka ja (by omega)))⟩
      ·
        refine ⟨⟨_, rfl, (by decide)⟩, ?_⟩
        refine s_X12_finding hF (v := (-1000002)) (by decide) ?_
        have u16 : (I5 238 2) = (I 238 2) := hW8 _ _ (by first | decide | omega)
        have a17 : -2147483648 ≤ (I 238 2) ∧ (I 238 2) < 2147483648 := hA.1 _ _
        have a18 : -2147483648 ≤ (I5 238 2) ∧ (I5 238 2) < 2147483648 := hA7.1 _ _
        exact ⟨rfl, fun hv hA' => hQ _ _ (Rg.u hR6 (Pr_f rfl)) hA' (hv _ rfl) (fun ka ja hk => ((uI_o (show ¬ (ka = 238 ∧ ja = 2) from by first | (intro e; obtain ⟨rfl, rfl⟩ := e; exact hk (by decide)) | omega))).trans ((hW8 ka ja (by omega))))⟩
    ·
      refine ⟨fun c => absurd (show ((0 : Int) = 0) from by decide) c, fun _ => ?_⟩
      refine ⟨⟨_, rfl, (by decide)⟩, ?_⟩
      refine s_X12_finding hF (v := (-1000001)) (by decide) ?_
      exact ⟨rfl, fun hv hA' => hQ _ _ (Rg.u hR (Pr_f rfl)) hA' (hv _ rfl) (fun ka ja hk => (uI_o (show ¬ (ka = 238 ∧ ja = 1) from by first | (intro e; obtain ⟨rfl, rfl⟩ := e; exact hk (by decide)) | omega)))⟩
  ·
    refine ⟨fun _ => ?_, fun c => absurd (show ((0 : Int) = 0) from by decide) c⟩
    refine ⟨⟨_, rfl, (by decide)⟩, ?_⟩
    refine s_X12_finding hF (v := (-1000001)) (by decide) ?_
    exact ⟨rfl, fun hv hA' => hQ _ _ (Rg.u hR (Pr_f rfl)) hA' (hv _ rfl) (fun ka ja hk => (uI_o (show ¬ (ka = 238 ∧ ja = 1) from by first | (intro e; obtain ⟨rfl, rfl⟩ := e; exact hk (by decide)) | omega)))⟩
theorem r_yieldOf_l (hF : FS F) (hR : Rg I) {v0 v1 : Int} (hp : 0 ≤ v0 ∧ v0 ≤ 13) (hQ : ∀ (r : Int) , (-1 ≤ r ∧ r ≤ 23) → Q (some (vi r)) F I) : ∀ (mz : Nat) (dx dy k : Int) , ((0 : Int) ≤ k) → (24 - k).toNat < mz → GoN G (d + 3) kX12_yieldOf NP NP 59 [some (vr 235), some (vi v0), some (vi v1), some (vl dx), none, some (vl dy), none, some (vi k), none, none] [] F I Q := by
  intro mz
  induction mz with
  | zero => intro dx dy k _ h; exact absurd h (Nat.not_lt_zero _)
  | succ mz ih =>
    intro dx dy k c100 hm
    refine GoN_in (fun hok hA => ?_)
    have iiv0 : -2147483648 ≤ v0 ∧ v0 < 2147483648 := hok 1 _ rfl
    have iiv1 : -2147483648 ≤ v1 ∧ v1 < 2147483648 := hok 2 _ rfl
    have iidx : -9223372036854775808 ≤ dx ∧ dx < 9223372036854775808 := hok 3 _ rfl
    have iidy : -9223372036854775808 ≤ dy ∧ dy < 9223372036854775808 := hok 5 _ rfl
    have iik : -2147483648 ≤ k ∧ k < 2147483648 := hok 7 _ rfl
    refine Go_wp (by decide) ckX12_yieldOf [59] ?_
    refine ⟨⟨_, rfl, (by decide)⟩, ?_⟩
    refine Call_wp (lv := [some (vr 235), some (vi v0)]) (by decide) ckX12_many [] rfl rfl ?_
    refine ⟨⟨_, rfl, (by decide)⟩, ?_⟩
    refine r_of (p := v0) (f := 4) hF (j := (Int.toNat (308 + 66 * v0))) (by omega) (by omega) (by omega) (fun w1 hw2 => ?_)
    have r3 : 0 ≤ (I 236 (Int.toNat (308 + 66 * v0))) ∧ (I 236 (Int.toNat (308 + 66 * v0))) ≤ 24 := Pn_p4 (p := (Int.toNat v0)) (by omega) (by omega) (hR.n (Int.toNat (308 + 66 * v0)) (by omega))
    have hw2 : w1 = (I 236 (Int.toNat (308 + 66 * v0))) := hw2
    refine ⟨rfl, ?_⟩
    refine ⟨fun (c5 : ((w1 : Int) ≤ k)) => ?_, fun (c5 : (¬ ((w1 : Int) ≤ k))) => ?_⟩
    ·
      exact ⟨rfl, hQ _ (show -1 ≤ (-1) ∧ (-1) ≤ 23 from by first | omega | (simp only [wr, wl] at *; omega))⟩
    ·
      refine ⟨⟨_, rfl, (by decide)⟩, ?_⟩
      refine Call_wp (lv := [some (vr 235), some (vi v0), some (vi k)]) (by decide) ckX12_stretch [] rfl rfl ?_
      refine ⟨⟨_, rfl, (by decide)⟩, ?_⟩
      have n6 : (wr (2 * k)) = 2 * k := wr_id (show -2147483648 ≤ (2 * k : Int) ∧ (2 * k : Int) < 2147483648 from by omega)
      have n7 : (wr (17 + (wr (2 * k)))) = 17 + (wr (2 * k)) := wr_id (show -2147483648 ≤ (17 + (wr (2 * k)) : Int) ∧ (17 + (wr (2 * k)) : Int) < 2147483648 from by omega)
      refine r_of (p := v0) (f := (wr (17 + (wr (2 * k))))) hF (j := (Int.toNat (321 + 2 * k + 66 * v0))) (by omega) (by omega) (by omega) (fun w8 hw9 => ?_)
      have hw9 : w8 = (I 236 (Int.toNat (321 + 2 * k + 66 * v0))) := hw9
      refine ⟨rfl, ?_⟩
      refine ⟨_, rfl, (by decide), ?_⟩
      have r10 : 0 ≤ (I 235 22) ∧ (I 235 22) ≤ 23 := Rg.f22 hR
      refine ⟨⟨_, rfl, (by decide)⟩, ?_⟩
      refine Call_wp (lv := [some (vr 235), some (vi v0), some (vi (I 235 22))]) (by decide) ckX12_stretch [] rfl rfl ?_
      refine ⟨⟨_, rfl, (by decide)⟩, ?_⟩
      have n12 : (wr (2 * (I 235 22))) = 2 * (I 235 22) := wr_id (show -2147483648 ≤ (2 * (I 235 22) : Int) ∧ (2 * (I 235 22) : Int) < 2147483648 from by omega)
      have n13 : (wr (17 + (wr (2 * (I 235 22))))) = 17 + (wr (2 * (I 235 22))) := wr_id (show -2147483648 ≤ (17 + (wr (2 * (I 235 22))) : Int) ∧ (17 + (wr (2 * (I 235 22))) : Int) < 2147483648 from by omega)
      refine r_of (p := v0) (f := (wr (17 + (wr (2 * (I 235 22)))))) hF (j := (Int.toNat (321 + 2 * (I 235 22) + 66 * v0))) (by omega) (by omega) (by omega) (fun w14 hw15 => ?_)
      have hw15 : w14 = (I 236 (Int.toNat (321 + 2 * (I 235 22) + 66 * v0))) := hw15
      refine ⟨rfl, ?_⟩
      refine ⟨⟨_, rfl, (by decide)⟩, ?_⟩
      refine Call_wp (lv := [some (vr 235), some (vi v0), some (vi k)]) (by decide) ckX12_load [] rfl rfl ?_
      refine ⟨⟨_, rfl, (by decide)⟩, ?_⟩
      have n16 : (wr ((wr (17 + (wr (2 * k)))) + 1)) = (wr (17 + (wr (2 * k)))) + 1 := wr_id (show -2147483648 ≤ ((wr (17 + (wr (2 * k)))) + 1 : Int) ∧ ((wr (17 + (wr (2 * k)))) + 1 : Int) < 2147483648 from by omega)
      refine r_of (p := v0) (f := (wr ((wr (17 + (wr (2 * k)))) + 1))) hF (j := (Int.toNat (322 + 2 * k + 66 * v0))) (by omega) (by omega) (by omega) (fun w17 hw18 => ?_)
      have hw18 : w17 = (I 236 (Int.toNat (322 + 2 * k + 66 * v0))) := hw18
      refine ⟨rfl, ?_⟩
      refine ⟨_, rfl, (by decide), ?_⟩
      refine ⟨⟨_, rfl, (by decide)⟩, ?_⟩
      refine Call_wp (lv := [some (vr 235), some (vi v0), some (vi (I 235 22))]) (by decide) ckX12_load [] rfl rfl ?_
      refine ⟨⟨_, rfl, (by decide)⟩, ?_⟩
      have n19 : (wr ((wr (17 + (wr (2 * (I 235 22))))) + 1)) = (wr (17 + (wr (2 * (I 235 22))))) + 1 := wr_id (show -2147483648 ≤ ((wr (17 + (wr (2 * (I 235 22))))) + 1 : Int) ∧ ((wr (17 + (wr (2 * (I 235 22))))) + 1 : Int) < 2147483648 from by omega)
      refine r_of (p := v0) (f := (wr ((wr (17 + (wr (2 * (I 235 22))))) + 1))) hF (j := (Int.toNat (322 + 2 * (I 235 22) + 66 * v0))) (by omega) (by omega) (by omega) (fun w20 hw21 => ?_)
      have hw21 : w20 = (I 236 (Int.toNat (322 + 2 * (I 235 22) + 66 * v0))) := hw21
      refine ⟨rfl, ?_⟩
      refine ⟨⟨_, rfl, (by decide)⟩, ?_⟩
      refine Call_wp (lv := [some (vr 235), some (vi v0), some (vi k)]) (by decide) ckX12_isGood [] rfl rfl ?_
      refine ⟨⟨_, rfl, (by decide)⟩, ?_⟩
      refine Call_wp (lv := [some (vr 235), some (vi v0), some (vi k)]) (by decide) ckX12_load [] rfl rfl ?_
      refine ⟨⟨_, rfl, (by decide)⟩, ?_⟩
      refine r_of (p := v0) (f := (wr ((wr (17 + (wr (2 * k)))) + 1))) hF (j := (Int.toNat (322 + 2 * k + 66 * v0))) (by omega) (by omega) (by omega) (fun w22 hw23 => ?_)
      have hw23 : w22 = (I 236 (Int.toNat (322 + 2 * k + 66 * v0))) := hw23
      obtain rfl : w17 = w22 := hw18.trans hw23.symm
      refine ⟨rfl, ?_⟩
      have a24 : -2147483648 ≤ (I 236 (Int.toNat (322 + 2 * k + 66 * v0))) ∧ (I 236 (Int.toNat (322 + 2 * k + 66 * v0))) < 2147483648 := hA.1 _ _
      refine ⟨fun (c25 : ((w17 : Int) < 0)) => ?_, fun (c25 : (¬ ((w17 : Int) < 0))) => ?_⟩
      ·
        refine ⟨rfl, (by decide), ?_⟩
        refine ⟨fun _ => ?_, fun c => absurd (show ((0 : Int) = 0) from by decide) c⟩
        refine GoN_lv (lv' := [some (vr 235), some (vi v0), some (vi v1), some (vl dx), none, some (vl dy), none, some (vi (wr (k + 1))), none, none]) (LvLe.k (LvLe.k (LvLe.k (LvLe.k (LvLe.k (LvLe.k (LvLe.k (LvLe.k (LvLe.d (LvLe.k LvLe.n)))))))))) ?_
        have n26 : (wr (k + 1)) = k + 1 := wr_id (show -2147483648 ≤ (k + 1 : Int) ∧ (k + 1 : Int) < 2147483648 from by omega)
        exact ih dx dy (wr (k + 1))  (show (0 : Int) ≤ (wr (k + 1)) from by first | with_reducible assumption | omega | (simp only [wr, wl] at *; omega)) (show (24 - (wr (k + 1))).toNat < mz from by omega)
      ·
        refine ⟨rfl, (by decide), ?_⟩
        refine ⟨fun c => absurd c (show (¬ ((1 : Int) = 0)) from by decide), fun _ => ?_⟩
        refine ⟨fun c27 => ?_, fun c27 => ?_⟩
        ·
          have c27 : ((dx : Int) ≤ 0) := lcm_le.1 c27
          have a28 : -2147483648 ≤ (I 236 (Int.toNat (321 + 2 * k + 66 * v0))) ∧ (I 236 (Int.toNat (321 + 2 * k + 66 * v0))) < 2147483648 := hA.1 _ _
          have a29 : -2147483648 ≤ (I 236 (Int.toNat (321 + 2 * (I 235 22) + 66 * v0))) ∧ (I 236 (Int.toNat (321 + 2 * (I 235 22) + 66 * v0))) < 2147483648 := hA.1 _ _
          have a30 : -2147483648 ≤ (I 236 (Int.toNat (322 + 2 * (I 235 22) + 66 * v0))) ∧ (I 236 (Int.toNat (322 + 2 * (I 235 22) + 66 * v0))) < 2147483648 := hA.1 _ _
          have n31 : -2147483648 ≤ (wr (w8 - w14)) ∧ (wr (w8 - w14)) < 2147483648 := wr_R _
          have n32 : -2147483648 ≤ (wr (w17 - w20)) ∧ (wr (w17 - w20)) < 2147483648 := wr_R _
          have n33 : -2147483648 ≤ (wr ((wr (w17 - w20)) + v1)) ∧ (wr ((wr (w17 - w20)) + v1)) < 2147483648 := wr_R _
          refine ⟨fun c34 => ?_, fun c34 => ?_⟩
          ·
            have c34 : ((0 : Int) ≤ (wl ((wl (dy * (wr (w8 - w14)))) - (wl (dx * (wr ((wr (w17 - w20)) + v1))))))) := lcm_ge.1 c34
            refine GoN_lv (lv' := [some (vr 235), some (vi v0), some (vi v1), some (vl dx), none, some (vl dy), none, some (vi (wr (k + 1))), none, none]) (LvLe.k (LvLe.k (LvLe.k (LvLe.k (LvLe.k (LvLe.k (LvLe.k (LvLe.k (LvLe.d (LvLe.k LvLe.n)))))))))) ?_
            have n35 : (wr (k + 1)) = k + 1 := wr_id (show -2147483648 ≤ (k + 1 : Int) ∧ (k + 1 : Int) < 2147483648 from by omega)
            exact ih dx dy (wr (k + 1))  (show (0 : Int) ≤ (wr (k + 1)) from by first | with_reducible assumption | omega | (simp only [wr, wl] at *; omega)) (show (24 - (wr (k + 1))).toNat < mz from by omega)
          ·
            have c34 : (¬ ((0 : Int) ≤ (wl ((wl (dy * (wr (w8 - w14)))) - (wl (dx * (wr ((wr (w17 - w20)) + v1)))))))) := fun e => c34 (lcm_ge.2 e)
            exact ⟨rfl, hQ _ (show -1 ≤ k ∧ k ≤ 23 from by first | omega | (simp only [wr, wl] at *; omega))⟩
        ·
          have c27 : (¬ ((dx : Int) ≤ 0)) := fun e => c27 (lcm_le.2 e)
          have a36 : -2147483648 ≤ (I 236 (Int.toNat (321 + 2 * k + 66 * v0))) ∧ (I 236 (Int.toNat (321 + 2 * k + 66 * v0))) < 2147483648 := hA.1 _ _
          have a37 : -2147483648 ≤ (I 236 (Int.toNat (321 + 2 * (I 235 22) + 66 * v0))) ∧ (I 236 (Int.toNat (321 + 2 * (I 235 22) + 66 * v0))) < 2147483648 := hA.1 _ _
          have a38 : -2147483648 ≤ (I 236 (Int.toNat (322 + 2 * (I 235 22) + 66 * v0))) ∧ (I 236 (Int.toNat (322 + 2 * (I 235 22) + 66 * v0))) < 2147483648 := hA.1 _ _
          have n39 : -2147483648 ≤ (wr (w8 - w14)) ∧ (wr (w8 - w14)) < 2147483648 := wr_R _
          have n40 : -2147483648 ≤ (wr (w17 - w20)) ∧ (wr (w17 - w20)) < 2147483648 := wr_R _
          have n41 : -2147483648 ≤ (wr ((wr (w17 - w20)) + v1)) ∧ (wr ((wr (w17 - w20)) + v1)) < 2147483648 := wr_R _
          refine ⟨fun c42 => ?_, fun c42 => ?_⟩
          ·
            have c42 : (((wl ((wl (dy * (wr (w8 - w14)))) - (wl (dx * (wr ((wr (w17 - w20)) + v1)))))) : Int) ≤ 0) := lcm_le.1 c42
            refine GoN_lv (lv' := [some (vr 235), some (vi v0), some (vi v1), some (vl dx), none, some (vl dy), none, some (vi (wr (k + 1))), none, none]) (LvLe.k (LvLe.k (LvLe.k (LvLe.k (LvLe.k (LvLe.k (LvLe.k (LvLe.k (LvLe.d (LvLe.k LvLe.n)))))))))) ?_
            have n43 : (wr (k + 1)) = k + 1 := wr_id (show -2147483648 ≤ (k + 1 : Int) ∧ (k + 1 : Int) < 2147483648 from by omega)
            exact ih dx dy (wr (k + 1))  (show (0 : Int) ≤ (wr (k + 1)) from by first | with_reducible assumption | omega | (simp only [wr, wl] at *; omega)) (show (24 - (wr (k + 1))).toNat < mz from by omega)
          ·
            have c42 : (¬ (((wl ((wl (dy * (wr (w8 - w14)))) - (wl (dx * (wr ((wr (w17 - w20)) + v1)))))) : Int) ≤ 0)) := fun e => c42 (lcm_le.2 e)
            exact ⟨rfl, hQ _ (show -1 ≤ k ∧ k ≤ 23 from by first | omega | (simp only [wr, wl] at *; omega))⟩
theorem r_yieldOf (hF : FS F) (hR : Rg I) {v0 v1 : Int} (hp : 0 ≤ v0 ∧ v0 ≤ 13) (hQ : ∀ (r : Int) (I' : pI), Rg I' → AR I' → iR r → (∀ k j, ¬ ((k = 235 ∧ 22 ≤ j ∧ j ≤ 24)) → I' k j = I k j) → (-1 ≤ r ∧ r ≤ 23) → Q (some (vi r)) F I') : CallN G (d + 5) kX12_yieldOf [vr 235, vi v0, vi v1] NP F I Q := by
  refine CallN_in (fun hok hA => CallN_out ?_)
  have iv0 : -2147483648 ≤ v0 ∧ v0 < 2147483648 := hok (vi v0) (by simp)
  have iv1 : -2147483648 ≤ v1 ∧ v1 < 2147483648 := hok (vi v1) (by simp)
  refine Call_wp (lv := [some (vr 235), some (vi v0), some (vi v1), none, none, none, none, none, none, none]) (by decide) ckX12_yieldOf [59] rfl rfl ?_
  refine ⟨⟨_, rfl, (by decide)⟩, ?_⟩
  refine r_findLine (v0 := v0) hF hR (by omega) (fun vr1 I2 hR3 hA4 hr6 hW5 q7 => ?_)
  have hr6 : -2147483648 ≤ vr1 ∧ vr1 < 2147483648 := hr6
  have q7 : 0 ≤ vr1 ∧ vr1 ≤ 1 := q7
  refine ⟨fun (c8 : (¬ (vr1 : Int) = 0)) => ?_, fun (c8 : ((vr1 : Int) = 0)) => ?_⟩
  ·
    refine ⟨_, rfl, (by decide), ?_⟩
    have r9 : 0 ≤ (I2 235 23) ∧ (I2 235 23) ≤ 23 := Rg.f23 hR3
    refine ⟨⟨_, rfl, (by decide)⟩, ?_⟩
    refine Call_wp (lv := [some (vr 235), some (vi v0), some (vi (I2 235 23))]) (by decide) ckX12_stretch [] rfl rfl ?_
    refine ⟨⟨_, rfl, (by decide)⟩, ?_⟩
    have n11 : (wr (2 * (I2 235 23))) = 2 * (I2 235 23) := wr_id (show -2147483648 ≤ (2 * (I2 235 23) : Int) ∧ (2 * (I2 235 23) : Int) < 2147483648 from by omega)
    have n12 : (wr (17 + (wr (2 * (I2 235 23))))) = 17 + (wr (2 * (I2 235 23))) := wr_id (show -2147483648 ≤ (17 + (wr (2 * (I2 235 23))) : Int) ∧ (17 + (wr (2 * (I2 235 23))) : Int) < 2147483648 from by omega)
    refine r_of (p := v0) (f := (wr (17 + (wr (2 * (I2 235 23)))))) hF (j := (Int.toNat (321 + 2 * (I2 235 23) + 66 * v0))) (by omega) (by omega) (by omega) (fun w13 hw14 => ?_)
    have u15 : (I2 236 (Int.toNat (321 + 2 * (I2 235 23) + 66 * v0))) = (I 236 (Int.toNat (321 + 2 * (I2 235 23) + 66 * v0))) := hW5 _ _ (by first | decide | omega)
    have a16 : -2147483648 ≤ (I 236 (Int.toNat (321 + 2 * (I2 235 23) + 66 * v0))) ∧ (I 236 (Int.toNat (321 + 2 * (I2 235 23) + 66 * v0))) < 2147483648 := hA.1 _ _
    have a17 : -2147483648 ≤ (I2 236 (Int.toNat (321 + 2 * (I2 235 23) + 66 * v0))) ∧ (I2 236 (Int.toNat (321 + 2 * (I2 235 23) + 66 * v0))) < 2147483648 := hA4.1 _ _
    have hw14 : w13 = (I2 236 (Int.toNat (321 + 2 * (I2 235 23) + 66 * v0))) := hw14
    refine ⟨rfl, ?_⟩
    refine ⟨_, rfl, (by decide), ?_⟩
    have r18 : 0 ≤ (I2 235 22) ∧ (I2 235 22) ≤ 23 := Rg.f22 hR3
    refine ⟨⟨_, rfl, (by decide)⟩, ?_⟩
    refine Call_wp (lv := [some (vr 235), some (vi v0), some (vi (I2 235 22))]) (by decide) ckX12_stretch [] rfl rfl ?_
    refine ⟨⟨_, rfl, (by decide)⟩, ?_⟩
    have n20 : (wr (2 * (I2 235 22))) = 2 * (I2 235 22) := wr_id (show -2147483648 ≤ (2 * (I2 235 22) : Int) ∧ (2 * (I2 235 22) : Int) < 2147483648 from by omega)
    have n21 : (wr (17 + (wr (2 * (I2 235 22))))) = 17 + (wr (2 * (I2 235 22))) := wr_id (show -2147483648 ≤ (17 + (wr (2 * (I2 235 22))) : Int) ∧ (17 + (wr (2 * (I2 235 22))) : Int) < 2147483648 from by omega)
    refine r_of (p := v0) (f := (wr (17 + (wr (2 * (I2 235 22)))))) hF (j := (Int.toNat (321 + 2 * (I2 235 22) + 66 * v0))) (by omega) (by omega) (by omega) (fun w22 hw23 => ?_)
    have u24 : (I2 236 (Int.toNat (321 + 2 * (I2 235 22) + 66 * v0))) = (I 236 (Int.toNat (321 + 2 * (I2 235 22) + 66 * v0))) := hW5 _ _ (by first | decide | omega)
    have a25 : -2147483648 ≤ (I 236 (Int.toNat (321 + 2 * (I2 235 22) + 66 * v0))) ∧ (I 236 (Int.toNat (321 + 2 * (I2 235 22) + 66 * v0))) < 2147483648 := hA.1 _ _
    have a26 : -2147483648 ≤ (I2 236 (Int.toNat (321 + 2 * (I2 235 22) + 66 * v0))) ∧ (I2 236 (Int.toNat (321 + 2 * (I2 235 22) + 66 * v0))) < 2147483648 := hA4.1 _ _
    have hw23 : w22 = (I2 236 (Int.toNat (321 + 2 * (I2 235 22) + 66 * v0))) := hw23
    refine ⟨rfl, ?_⟩
    refine ⟨_, rfl, (by decide), ?_⟩
    refine ⟨⟨_, rfl, (by decide)⟩, ?_⟩
    refine Call_wp (lv := [some (vr 235), some (vi v0), some (vi (I2 235 23))]) (by decide) ckX12_load [] rfl rfl ?_
    refine ⟨⟨_, rfl, (by decide)⟩, ?_⟩
    have n27 : (wr ((wr (17 + (wr (2 * (I2 235 23))))) + 1)) = (wr (17 + (wr (2 * (I2 235 23))))) + 1 := wr_id (show -2147483648 ≤ ((wr (17 + (wr (2 * (I2 235 23))))) + 1 : Int) ∧ ((wr (17 + (wr (2 * (I2 235 23))))) + 1 : Int) < 2147483648 from by omega)
    refine r_of (p := v0) (f := (wr ((wr (17 + (wr (2 * (I2 235 23))))) + 1))) hF (j := (Int.toNat (322 + 2 * (I2 235 23) + 66 * v0))) (by omega) (by omega) (by omega) (fun w28 hw29 => ?_)
    have u30 : (I2 236 (Int.toNat (322 + 2 * (I2 235 23) + 66 * v0))) = (I 236 (Int.toNat (322 + 2 * (I2 235 23) + 66 * v0))) := hW5 _ _ (by first | decide | omega)
    have a31 : -2147483648 ≤ (I 236 (Int.toNat (322 + 2 * (I2 235 23) + 66 * v0))) ∧ (I 236 (Int.toNat (322 + 2 * (I2 235 23) + 66 * v0))) < 2147483648 := hA.1 _ _
    have a32 : -2147483648 ≤ (I2 236 (Int.toNat (322 + 2 * (I2 235 23) + 66 * v0))) ∧ (I2 236 (Int.toNat (322 + 2 * (I2 235 23) + 66 * v0))) < 2147483648 := hA4.1 _ _
    have hw29 : w28 = (I2 236 (Int.toNat (322 + 2 * (I2 235 23) + 66 * v0))) := hw29
    refine ⟨rfl, ?_⟩
    refine ⟨_, rfl, (by decide), ?_⟩
    refine ⟨⟨_, rfl, (by decide)⟩, ?_⟩
    refine Call_wp (lv := [some (vr 235), some (vi v0), some (vi (I2 235 22))]) (by decide) ckX12_load [] rfl rfl ?_
    refine ⟨⟨_, rfl, (by decide)⟩, ?_⟩
    have n33 : (wr ((wr (17 + (wr (2 * (I2 235 22))))) + 1)) = (wr (17 + (wr (2 * (I2 235 22))))) + 1 := wr_id (show -2147483648 ≤ ((wr (17 + (wr (2 * (I2 235 22))))) + 1 : Int) ∧ ((wr (17 + (wr (2 * (I2 235 22))))) + 1 : Int) < 2147483648 from by omega)
    refine r_of (p := v0) (f := (wr ((wr (17 + (wr (2 * (I2 235 22))))) + 1))) hF (j := (Int.toNat (322 + 2 * (I2 235 22) + 66 * v0))) (by omega) (by omega) (by omega) (fun w34 hw35 => ?_)
    have u36 : (I2 236 (Int.toNat (322 + 2 * (I2 235 22) + 66 * v0))) = (I 236 (Int.toNat (322 + 2 * (I2 235 22) + 66 * v0))) := hW5 _ _ (by first | decide | omega)
    have a37 : -2147483648 ≤ (I 236 (Int.toNat (322 + 2 * (I2 235 22) + 66 * v0))) ∧ (I 236 (Int.toNat (322 + 2 * (I2 235 22) + 66 * v0))) < 2147483648 := hA.1 _ _
    have a38 : -2147483648 ≤ (I2 236 (Int.toNat (322 + 2 * (I2 235 22) + 66 * v0))) ∧ (I2 236 (Int.toNat (322 + 2 * (I2 235 22) + 66 * v0))) < 2147483648 := hA4.1 _ _
    have hw35 : w34 = (I2 236 (Int.toNat (322 + 2 * (I2 235 22) + 66 * v0))) := hw35
    refine ⟨rfl, ?_⟩
    refine ⟨_, rfl, (by decide), ?_⟩
    have n41 : -2147483648 ≤ (wr (w13 - w22)) ∧ (wr (w13 - w22)) < 2147483648 := wr_R _
    have n44 : -2147483648 ≤ (wr (w28 - w34)) ∧ (wr (w28 - w34)) < 2147483648 := wr_R _
    refine r_yieldOf_l hF hR3 (by omega) (fun r g3 hv hA' => hQ _ _ hR3 hA' (hv _ rfl) (fun ka ja hk => (hW5 ka ja (by omega))) g3) _ (wr (w13 - w22)) (wr (w28 - w34)) (I2 235 23)  (show (0 : Int) ≤ (I2 235 23) from by first | with_reducible assumption | omega | (simp only [wr, wl] at *; omega)) (Nat.lt_succ_self _)
  ·
    exact ⟨rfl, fun hv hA' => hQ _ _ hR3 hA' (hv _ rfl) (fun ka ja hk => (hW5 ka ja (by omega))) (show -1 ≤ (-1) ∧ (-1) ≤ 23 from by first | omega | (simp only [wr, wl] at *; omega))⟩
theorem r_yields (hF : FS F) (hR : Rg I) {v0 v1 : Int}  (hQ : ∀ (r : Int) (I' : pI), Rg I' → AR I' → iR r → (∀ k j, ¬ (k = 238 ∨ (k = 235 ∧ 22 ≤ j ∧ j ≤ 24)) → I' k j = I k j) → Q (some (vi r)) F I') : CallN G (d + 6) kX12_yields [vr 235, vi v0, vi v1] NP F I Q := by
  refine CallN_in (fun hok hA => CallN_out ?_)
  have iv0 : -2147483648 ≤ v0 ∧ v0 < 2147483648 := hok (vi v0) (by simp)
  have iv1 : -2147483648 ≤ v1 ∧ v1 < 2147483648 := hok (vi v1) (by simp)
  refine Call_wp (lv := [some (vr 235), some (vi v0), some (vi v1), none]) (by decide) ckX12_yields [] rfl rfl ?_
  refine ⟨⟨_, rfl, (by decide)⟩, ?_⟩
  have r1 : 0 ≤ (I 236 0) ∧ (I 236 0) ≤ 14 := Rg.n0 hR
  refine s_X12_is hF (w := 0) (by decide) (show 0 ≤ (I 236 0) ∧ (I 236 0) < 1000000 from by omega) (fun (w2 : (0 ≤ v0 ∧ v0 < (I 236 0))) => ?_) (fun (w2 : ¬ (0 ≤ v0 ∧ v0 < (I 236 0))) => ?_)
  ·
    refine ⟨fun c => absurd c (show (¬ ((1 : Int) = 0)) from by decide), fun _ => ?_⟩
    refine s_X12_within (fun (w3 : ((0 : Int) ≤ v1 ∧ (v1 : Int) ≤ 999)) => ?_) (fun (w3 : ¬ ((0 : Int) ≤ v1 ∧ (v1 : Int) ≤ 999)) => ?_)
    ·
      refine ⟨fun _ => ?_, fun c => absurd c (show (¬ (1 : Int) = 0) from by decide)⟩
      refine ⟨⟨_, rfl, (by decide)⟩, ?_⟩
      refine r_yieldOf (v0 := v0) (v1 := v1) hF hR (by omega) (fun vr4 I5 hR6 hA7 hr9 hW8 q10 => ?_)
      have hr9 : -2147483648 ≤ vr4 ∧ vr4 < 2147483648 := hr9
      have q10 : -1 ≤ vr4 ∧ vr4 ≤ 23 := q10
      refine ⟨fun (c11 : ((0 : Int) ≤ vr4)) => ?_, fun (c11 : (¬ ((0 : Int) ≤ vr4))) => ?_⟩
      ·
        exact ⟨rfl, fun hv hA' => hQ _ _ hR6 hA' (hv _ rfl) (fun ka ja hk => (hW8 ka ja (by omega)))⟩
      ·
        refine ⟨⟨_, rfl, (by decide)⟩, ?_⟩
        refine s_X12_finding hF (v := (-1000002)) (by decide) ?_
        have u12 : (I5 238 2) = (I 238 2) := hW8 _ _ (by first | decide | omega)
        have a13 : -2147483648 ≤ (I 238 2) ∧ (I 238 2) < 2147483648 := hA.1 _ _
        have a14 : -2147483648 ≤ (I5 238 2) ∧ (I5 238 2) < 2147483648 := hA7.1 _ _
        exact ⟨rfl, fun hv hA' => hQ _ _ (Rg.u hR6 (Pr_f rfl)) hA' (hv _ rfl) (fun ka ja hk => ((uI_o (show ¬ (ka = 238 ∧ ja = 2) from by first | (intro e; obtain ⟨rfl, rfl⟩ := e; exact hk (by decide)) | omega))).trans ((hW8 ka ja (by omega))))⟩
    ·
      refine ⟨fun c => absurd (show ((0 : Int) = 0) from by decide) c, fun _ => ?_⟩
      refine ⟨⟨_, rfl, (by decide)⟩, ?_⟩
      refine s_X12_finding hF (v := (-1000001)) (by decide) ?_
      exact ⟨rfl, fun hv hA' => hQ _ _ (Rg.u hR (Pr_f rfl)) hA' (hv _ rfl) (fun ka ja hk => (uI_o (show ¬ (ka = 238 ∧ ja = 1) from by first | (intro e; obtain ⟨rfl, rfl⟩ := e; exact hk (by decide)) | omega)))⟩
  ·
    refine ⟨fun _ => ?_, fun c => absurd (show ((0 : Int) = 0) from by decide) c⟩
    refine ⟨⟨_, rfl, (by decide)⟩, ?_⟩
    refine s_X12_finding hF (v := (-1000001)) (by decide) ?_
    exact ⟨rfl, fun hv hA' => hQ _ _ (Rg.u hR (Pr_f rfl)) hA' (hv _ rfl) (fun ka ja hk => (uI_o (show ¬ (ka = 238 ∧ ja = 1) from by first | (intro e; obtain ⟨rfl, rfl⟩ := e; exact hk (by decide)) | omega)))⟩
theorem r_topOf_l (hF : FS F) (hR : Rg I) {v0 : Int} (hp : 0 ≤ v0 ∧ v0 ≤ 13) (hQ : ∀ (r : Int) , (-1 ≤ r ∧ r ≤ 23) → Q (some (vi r)) F I) : ∀ (mz : Nat) (b i : Int) , (((-1) : Int) ≤ b) → ((b : Int) ≤ 23) → ((0 : Int) ≤ i) → (24 - i).toNat < mz → GoN G (d + 3) kX12_topOf NP NP 4 [some (vr 235), some (vi v0), some (vi b), some (vi i)] [] F I Q := by
  intro mz
  induction mz with
  | zero => intro b i _ _ _ h; exact absurd h (Nat.not_lt_zero _)
  | succ mz ih =>
    intro b i c100 c101 c102 hm
    refine GoN_in (fun hok hA => ?_)
    have iiv0 : -2147483648 ≤ v0 ∧ v0 < 2147483648 := hok 1 _ rfl
    have iib : -2147483648 ≤ b ∧ b < 2147483648 := hok 2 _ rfl
    have iii : -2147483648 ≤ i ∧ i < 2147483648 := hok 3 _ rfl
    refine Go_wp (by decide) ckX12_topOf [4] ?_
    refine ⟨⟨_, rfl, (by decide)⟩, ?_⟩
    refine Call_wp (lv := [some (vr 235), some (vi v0)]) (by decide) ckX12_many [] rfl rfl ?_
    refine ⟨⟨_, rfl, (by decide)⟩, ?_⟩
    refine r_of (p := v0) (f := 4) hF (j := (Int.toNat (308 + 66 * v0))) (by omega) (by omega) (by omega) (fun w1 hw2 => ?_)
    have r3 : 0 ≤ (I 236 (Int.toNat (308 + 66 * v0))) ∧ (I 236 (Int.toNat (308 + 66 * v0))) ≤ 24 := Pn_p4 (p := (Int.toNat v0)) (by omega) (by omega) (hR.n (Int.toNat (308 + 66 * v0)) (by omega))
    have hw2 : w1 = (I 236 (Int.toNat (308 + 66 * v0))) := hw2
    refine ⟨rfl, ?_⟩
    refine ⟨fun (c5 : ((w1 : Int) ≤ i)) => ?_, fun (c5 : (¬ ((w1 : Int) ≤ i))) => ?_⟩
    ·
      exact ⟨rfl, hQ _ (show -1 ≤ b ∧ b ≤ 23 from by first | omega | (simp only [wr, wl] at *; omega))⟩
    ·
      refine ⟨⟨_, rfl, (by decide)⟩, ?_⟩
      refine Call_wp (lv := [some (vr 235), some (vi v0), some (vi i)]) (by decide) ckX12_isGood [] rfl rfl ?_
      refine ⟨⟨_, rfl, (by decide)⟩, ?_⟩
      refine Call_wp (lv := [some (vr 235), some (vi v0), some (vi i)]) (by decide) ckX12_load [] rfl rfl ?_
      refine ⟨⟨_, rfl, (by decide)⟩, ?_⟩
      have n6 : (wr (2 * i)) = 2 * i := wr_id (show -2147483648 ≤ (2 * i : Int) ∧ (2 * i : Int) < 2147483648 from by omega)
      have n7 : (wr (17 + (wr (2 * i)))) = 17 + (wr (2 * i)) := wr_id (show -2147483648 ≤ (17 + (wr (2 * i)) : Int) ∧ (17 + (wr (2 * i)) : Int) < 2147483648 from by omega)
      have n8 : (wr ((wr (17 + (wr (2 * i)))) + 1)) = (wr (17 + (wr (2 * i)))) + 1 := wr_id (show -2147483648 ≤ ((wr (17 + (wr (2 * i)))) + 1 : Int) ∧ ((wr (17 + (wr (2 * i)))) + 1 : Int) < 2147483648 from by omega)
      refine r_of (p := v0) (f := (wr ((wr (17 + (wr (2 * i)))) + 1))) hF (j := (Int.toNat (322 + 2 * i + 66 * v0))) (by omega) (by omega) (by omega) (fun w9 hw10 => ?_)
      have hw10 : w9 = (I 236 (Int.toNat (322 + 2 * i + 66 * v0))) := hw10
      refine ⟨rfl, ?_⟩
      have a11 : -2147483648 ≤ (I 236 (Int.toNat (322 + 2 * i + 66 * v0))) ∧ (I 236 (Int.toNat (322 + 2 * i + 66 * v0))) < 2147483648 := hA.1 _ _
      refine ⟨fun (c12 : ((w9 : Int) < 0)) => ?_, fun (c12 : (¬ ((w9 : Int) < 0))) => ?_⟩
      ·
        refine ⟨rfl, (by decide), ?_⟩
        refine ⟨fun _ => ?_, fun c => absurd (show ((0 : Int) = 0) from by decide) c⟩
        have n13 : (wr (i + 1)) = i + 1 := wr_id (show -2147483648 ≤ (i + 1 : Int) ∧ (i + 1 : Int) < 2147483648 from by omega)
        exact ih b (wr (i + 1))  (show ((-1) : Int) ≤ b from by first | with_reducible assumption | omega | (simp only [wr, wl] at *; omega)) (show (b : Int) ≤ 23 from by first | with_reducible assumption | omega | (simp only [wr, wl] at *; omega)) (show (0 : Int) ≤ (wr (i + 1)) from by first | with_reducible assumption | omega | (simp only [wr, wl] at *; omega)) (show (24 - (wr (i + 1))).toNat < mz from by omega)
      ·
        refine ⟨rfl, (by decide), ?_⟩
        refine ⟨fun c => absurd c (show (¬ ((1 : Int) = 0)) from by decide), fun _ => ?_⟩
        refine ⟨fun (c14 : ((b : Int) < 0)) => ?_, fun (c14 : (¬ ((b : Int) < 0))) => ?_⟩
        ·
          have n15 : (wr (i + 1)) = i + 1 := wr_id (show -2147483648 ≤ (i + 1 : Int) ∧ (i + 1 : Int) < 2147483648 from by omega)
          exact ih i (wr (i + 1))  (show ((-1) : Int) ≤ i from by first | with_reducible assumption | omega | (simp only [wr, wl] at *; omega)) (show (i : Int) ≤ 23 from by first | with_reducible assumption | omega | (simp only [wr, wl] at *; omega)) (show (0 : Int) ≤ (wr (i + 1)) from by first | with_reducible assumption | omega | (simp only [wr, wl] at *; omega)) (show (24 - (wr (i + 1))).toNat < mz from by omega)
        ·
          refine ⟨⟨_, rfl, (by decide)⟩, ?_⟩
          refine Call_wp (lv := [some (vr 235), some (vi v0), some (vi i)]) (by decide) ckX12_load [] rfl rfl ?_
          refine ⟨⟨_, rfl, (by decide)⟩, ?_⟩
          refine r_of (p := v0) (f := (wr ((wr (17 + (wr (2 * i)))) + 1))) hF (j := (Int.toNat (322 + 2 * i + 66 * v0))) (by omega) (by omega) (by omega) (fun w16 hw17 => ?_)
          have hw17 : w16 = (I 236 (Int.toNat (322 + 2 * i + 66 * v0))) := hw17
          obtain rfl : w9 = w16 := hw10.trans hw17.symm
          refine ⟨rfl, ?_⟩
          refine ⟨⟨_, rfl, (by decide)⟩, ?_⟩
          refine Call_wp (lv := [some (vr 235), some (vi v0), some (vi b)]) (by decide) ckX12_load [] rfl rfl ?_
          refine ⟨⟨_, rfl, (by decide)⟩, ?_⟩
          have n18 : (wr (2 * b)) = 2 * b := wr_id (show -2147483648 ≤ (2 * b : Int) ∧ (2 * b : Int) < 2147483648 from by omega)
          have n19 : (wr (17 + (wr (2 * b)))) = 17 + (wr (2 * b)) := wr_id (show -2147483648 ≤ (17 + (wr (2 * b)) : Int) ∧ (17 + (wr (2 * b)) : Int) < 2147483648 from by omega)
          have n20 : (wr ((wr (17 + (wr (2 * b)))) + 1)) = (wr (17 + (wr (2 * b)))) + 1 := wr_id (show -2147483648 ≤ ((wr (17 + (wr (2 * b)))) + 1 : Int) ∧ ((wr (17 + (wr (2 * b)))) + 1 : Int) < 2147483648 from by omega)
          refine r_of (p := v0) (f := (wr ((wr (17 + (wr (2 * b)))) + 1))) hF (j := (Int.toNat (322 + 2 * b + 66 * v0))) (by omega) (by omega) (by omega) (fun w21 hw22 => ?_)
          have hw22 : w21 = (I 236 (Int.toNat (322 + 2 * b + 66 * v0))) := hw22
          refine ⟨rfl, ?_⟩
          have a23 : -2147483648 ≤ (I 236 (Int.toNat (322 + 2 * b + 66 * v0))) ∧ (I 236 (Int.toNat (322 + 2 * b + 66 * v0))) < 2147483648 := hA.1 _ _
          refine ⟨fun (c24 : ((w9 : Int) ≤ w21)) => ?_, fun (c24 : (¬ ((w9 : Int) ≤ w21))) => ?_⟩
          ·
            have n25 : (wr (i + 1)) = i + 1 := wr_id (show -2147483648 ≤ (i + 1 : Int) ∧ (i + 1 : Int) < 2147483648 from by omega)
            exact ih b (wr (i + 1))  (show ((-1) : Int) ≤ b from by first | with_reducible assumption | omega | (simp only [wr, wl] at *; omega)) (show (b : Int) ≤ 23 from by first | with_reducible assumption | omega | (simp only [wr, wl] at *; omega)) (show (0 : Int) ≤ (wr (i + 1)) from by first | with_reducible assumption | omega | (simp only [wr, wl] at *; omega)) (show (24 - (wr (i + 1))).toNat < mz from by omega)
          ·
            have n26 : (wr (i + 1)) = i + 1 := wr_id (show -2147483648 ≤ (i + 1 : Int) ∧ (i + 1 : Int) < 2147483648 from by omega)
            exact ih i (wr (i + 1))  (show ((-1) : Int) ≤ i from by first | with_reducible assumption | omega | (simp only [wr, wl] at *; omega)) (show (i : Int) ≤ 23 from by first | with_reducible assumption | omega | (simp only [wr, wl] at *; omega)) (show (0 : Int) ≤ (wr (i + 1)) from by first | with_reducible assumption | omega | (simp only [wr, wl] at *; omega)) (show (24 - (wr (i + 1))).toNat < mz from by omega)
theorem r_topOf (hF : FS F) (hR : Rg I) {v0 : Int} (hp : 0 ≤ v0 ∧ v0 ≤ 13) (hQ : ∀ r : Int, iR r → (-1 ≤ r ∧ r ≤ 23) → Q (some (vi r)) F I) : CallN G (d + 3) kX12_topOf [vr 235, vi v0] NP F I Q := by
  refine CallN_in (fun hok hA => CallN_out ?_)
  have iv0 : -2147483648 ≤ v0 ∧ v0 < 2147483648 := hok (vi v0) (by simp)
  refine Call_wp (lv := [some (vr 235), some (vi v0), none, none]) (by decide) ckX12_topOf [4] rfl rfl ?_
  refine r_topOf_l hF hR (by omega) (fun r g3 hv hA' => hQ _ (hv _ rfl) g3) _ (-1) 0  (show ((-1) : Int) ≤ ((-1) : Int) from Int.le_refl _) (show (((-1) : Int) : Int) ≤ 23 from by first | with_reducible assumption | omega | (simp only [wr, wl] at *; omega)) (show (0 : Int) ≤ (0 : Int) from Int.le_refl _) (Nat.lt_succ_self _)
theorem r_top (hF : FS F) (hR : Rg I) {v0 : Int}  (hQ : ∀ (r : Int) (I' : pI), Rg I' → AR I' → iR r → (∀ k j, ¬ (k = 238) → I' k j = I k j) → Q (some (vi r)) F I') : CallN G (d + 4) kX12_top [vr 235, vi v0] NP F I Q := by
  refine CallN_in (fun hok hA => CallN_out ?_)
  have iv0 : -2147483648 ≤ v0 ∧ v0 < 2147483648 := hok (vi v0) (by simp)
  refine Call_wp (lv := [some (vr 235), some (vi v0), none]) (by decide) ckX12_top [] rfl rfl ?_
  refine ⟨⟨_, rfl, (by decide)⟩, ?_⟩
  have r1 : 0 ≤ (I 236 0) ∧ (I 236 0) ≤ 14 := Rg.n0 hR
  refine s_X12_is hF (w := 0) (by decide) (show 0 ≤ (I 236 0) ∧ (I 236 0) < 1000000 from by omega) (fun (w2 : (0 ≤ v0 ∧ v0 < (I 236 0))) => ?_) (fun (w2 : ¬ (0 ≤ v0 ∧ v0 < (I 236 0))) => ?_)
  ·
    refine ⟨fun _ => ?_, fun c => absurd c (show (¬ (1 : Int) = 0) from by decide)⟩
    refine ⟨⟨_, rfl, (by decide)⟩, ?_⟩
    refine r_topOf (v0 := v0) hF hR (by omega) (fun vr3 hr4 q5 => ?_)
    have hr4 : -2147483648 ≤ vr3 ∧ vr3 < 2147483648 := hr4
    have q5 : -1 ≤ vr3 ∧ vr3 ≤ 23 := q5
    refine ⟨fun (c6 : ((0 : Int) ≤ vr3)) => ?_, fun (c6 : (¬ ((0 : Int) ≤ vr3))) => ?_⟩
    ·
      refine ⟨⟨_, rfl, (by decide)⟩, ?_⟩
      refine Call_wp (lv := [some (vr 235), some (vi v0), some (vi vr3)]) (by decide) ckX12_load [] rfl rfl ?_
      refine ⟨⟨_, rfl, (by decide)⟩, ?_⟩
      have n7 : (wr (2 * vr3)) = 2 * vr3 := wr_id (show -2147483648 ≤ (2 * vr3 : Int) ∧ (2 * vr3 : Int) < 2147483648 from by omega)
      have n8 : (wr (17 + (wr (2 * vr3)))) = 17 + (wr (2 * vr3)) := wr_id (show -2147483648 ≤ (17 + (wr (2 * vr3)) : Int) ∧ (17 + (wr (2 * vr3)) : Int) < 2147483648 from by omega)
      have n9 : (wr ((wr (17 + (wr (2 * vr3)))) + 1)) = (wr (17 + (wr (2 * vr3)))) + 1 := wr_id (show -2147483648 ≤ ((wr (17 + (wr (2 * vr3)))) + 1 : Int) ∧ ((wr (17 + (wr (2 * vr3)))) + 1 : Int) < 2147483648 from by omega)
      refine r_of (p := v0) (f := (wr ((wr (17 + (wr (2 * vr3)))) + 1))) hF (j := (Int.toNat (322 + 66 * v0 + 2 * vr3))) (by omega) (by omega) (by omega) (fun w10 hw11 => ?_)
      have hw11 : w10 = (I 236 (Int.toNat (322 + 66 * v0 + 2 * vr3))) := hw11
      refine ⟨rfl, ?_⟩
      exact ⟨rfl, fun hv hA' => hQ _ _ hR hA' (hv _ rfl) (fun _ _ _ => rfl)⟩
    ·
      refine ⟨⟨_, rfl, (by decide)⟩, ?_⟩
      refine s_X12_finding hF (v := (-1000002)) (by decide) ?_
      exact ⟨rfl, fun hv hA' => hQ _ _ (Rg.u hR (Pr_f rfl)) hA' (hv _ rfl) (fun ka ja hk => (uI_o (show ¬ (ka = 238 ∧ ja = 2) from by first | (intro e; obtain ⟨rfl, rfl⟩ := e; exact hk (by decide)) | omega)))⟩
  ·
    refine ⟨fun c => absurd (show ((0 : Int) = 0) from by decide) c, fun _ => ?_⟩
    refine ⟨⟨_, rfl, (by decide)⟩, ?_⟩
    refine s_X12_finding hF (v := (-1000001)) (by decide) ?_
    exact ⟨rfl, fun hv hA' => hQ _ _ (Rg.u hR (Pr_f rfl)) hA' (hv _ rfl) (fun ka ja hk => (uI_o (show ¬ (ka = 238 ∧ ja = 1) from by first | (intro e; obtain ⟨rfl, rfl⟩ := e; exact hk (by decide)) | omega)))⟩
theorem r_breakOf_l (hF : FS F) (hR : Rg I) {v0 v1 : Int} (hp : 0 ≤ v0 ∧ v0 ≤ 13) (hQ : ∀ (r : Int) , (-1 ≤ r ∧ r ≤ 23) → Q (some (vi r)) F I) : ∀ (mz : Nat) (t i : Int) , (((-1) : Int) ≤ t) → ((t : Int) ≤ 23) → ((0 : Int) ≤ i) → (24 - i).toNat < mz → GoN G (d + 3) kX12_breakOf NP NP 11 [some (vr 235), some (vi v0), some (vi v1), some (vi t), some (vi i)] [] F I Q := by
  intro mz
  induction mz with
  | zero => intro t i _ _ _ h; exact absurd h (Nat.not_lt_zero _)
  | succ mz ih =>
    intro t i c100 c101 c102 hm
    refine GoN_in (fun hok hA => ?_)
    have iiv0 : -2147483648 ≤ v0 ∧ v0 < 2147483648 := hok 1 _ rfl
    have iiv1 : -2147483648 ≤ v1 ∧ v1 < 2147483648 := hok 2 _ rfl
    have iit : -2147483648 ≤ t ∧ t < 2147483648 := hok 3 _ rfl
    have iii : -2147483648 ≤ i ∧ i < 2147483648 := hok 4 _ rfl
    refine Go_wp (by decide) ckX12_breakOf [11] ?_
    refine ⟨⟨_, rfl, (by decide)⟩, ?_⟩
    refine Call_wp (lv := [some (vr 235), some (vi v0)]) (by decide) ckX12_many [] rfl rfl ?_
    refine ⟨⟨_, rfl, (by decide)⟩, ?_⟩
    refine r_of (p := v0) (f := 4) hF (j := (Int.toNat (308 + 66 * v0))) (by omega) (by omega) (by omega) (fun w1 hw2 => ?_)
    have r3 : 0 ≤ (I 236 (Int.toNat (308 + 66 * v0))) ∧ (I 236 (Int.toNat (308 + 66 * v0))) ≤ 24 := Pn_p4 (p := (Int.toNat v0)) (by omega) (by omega) (hR.n (Int.toNat (308 + 66 * v0)) (by omega))
    have hw2 : w1 = (I 236 (Int.toNat (308 + 66 * v0))) := hw2
    refine ⟨rfl, ?_⟩
    refine ⟨fun (c5 : ((w1 : Int) ≤ i)) => ?_, fun (c5 : (¬ ((w1 : Int) ≤ i))) => ?_⟩
    ·
      exact ⟨rfl, hQ _ (show -1 ≤ (-1) ∧ (-1) ≤ 23 from by first | omega | (simp only [wr, wl] at *; omega))⟩
    ·
      refine ⟨fun (c6 : ((t : Int) < 0)) => ?_, fun (c6 : (¬ ((t : Int) < 0))) => ?_⟩
      ·
        exact ⟨rfl, hQ _ (show -1 ≤ (-1) ∧ (-1) ≤ 23 from by first | omega | (simp only [wr, wl] at *; omega))⟩
      ·
        refine ⟨⟨_, rfl, (by decide)⟩, ?_⟩
        refine Call_wp (lv := [some (vr 235), some (vi v0), some (vi i)]) (by decide) ckX12_isGood [] rfl rfl ?_
        refine ⟨⟨_, rfl, (by decide)⟩, ?_⟩
        refine Call_wp (lv := [some (vr 235), some (vi v0), some (vi i)]) (by decide) ckX12_load [] rfl rfl ?_
        refine ⟨⟨_, rfl, (by decide)⟩, ?_⟩
        have n7 : (wr (2 * i)) = 2 * i := wr_id (show -2147483648 ≤ (2 * i : Int) ∧ (2 * i : Int) < 2147483648 from by omega)
        have n8 : (wr (17 + (wr (2 * i)))) = 17 + (wr (2 * i)) := wr_id (show -2147483648 ≤ (17 + (wr (2 * i)) : Int) ∧ (17 + (wr (2 * i)) : Int) < 2147483648 from by omega)
        have n9 : (wr ((wr (17 + (wr (2 * i)))) + 1)) = (wr (17 + (wr (2 * i)))) + 1 := wr_id (show -2147483648 ≤ ((wr (17 + (wr (2 * i)))) + 1 : Int) ∧ ((wr (17 + (wr (2 * i)))) + 1 : Int) < 2147483648 from by omega)
        refine r_of (p := v0) (f := (wr ((wr (17 + (wr (2 * i)))) + 1))) hF (j := (Int.toNat (322 + 2 * i + 66 * v0))) (by omega) (by omega) (by omega) (fun w10 hw11 => ?_)
        have hw11 : w10 = (I 236 (Int.toNat (322 + 2 * i + 66 * v0))) := hw11
        refine ⟨rfl, ?_⟩
        have a12 : -2147483648 ≤ (I 236 (Int.toNat (322 + 2 * i + 66 * v0))) ∧ (I 236 (Int.toNat (322 + 2 * i + 66 * v0))) < 2147483648 := hA.1 _ _
        refine ⟨fun (c13 : ((w10 : Int) < 0)) => ?_, fun (c13 : (¬ ((w10 : Int) < 0))) => ?_⟩
        ·
          refine ⟨rfl, (by decide), ?_⟩
          refine ⟨fun _ => ?_, fun c => absurd (show ((0 : Int) = 0) from by decide) c⟩
          have n14 : (wr (i + 1)) = i + 1 := wr_id (show -2147483648 ≤ (i + 1 : Int) ∧ (i + 1 : Int) < 2147483648 from by omega)
          exact ih t (wr (i + 1))  (show ((-1) : Int) ≤ t from by first | with_reducible assumption | omega | (simp only [wr, wl] at *; omega)) (show (t : Int) ≤ 23 from by first | with_reducible assumption | omega | (simp only [wr, wl] at *; omega)) (show (0 : Int) ≤ (wr (i + 1)) from by first | with_reducible assumption | omega | (simp only [wr, wl] at *; omega)) (show (24 - (wr (i + 1))).toNat < mz from by omega)
        ·
          refine ⟨rfl, (by decide), ?_⟩
          refine ⟨fun c => absurd c (show (¬ ((1 : Int) = 0)) from by decide), fun _ => ?_⟩
          refine ⟨⟨_, rfl, (by decide)⟩, ?_⟩
          refine Call_wp (lv := [some (vr 235), some (vi v0), some (vi i)]) (by decide) ckX12_load [] rfl rfl ?_
          refine ⟨⟨_, rfl, (by decide)⟩, ?_⟩
          refine r_of (p := v0) (f := (wr ((wr (17 + (wr (2 * i)))) + 1))) hF (j := (Int.toNat (322 + 2 * i + 66 * v0))) (by omega) (by omega) (by omega) (fun w15 hw16 => ?_)
          have hw16 : w15 = (I 236 (Int.toNat (322 + 2 * i + 66 * v0))) := hw16
          obtain rfl : w10 = w15 := hw11.trans hw16.symm
          refine ⟨rfl, ?_⟩
          refine ⟨⟨_, rfl, (by decide)⟩, ?_⟩
          refine Call_wp (lv := [some (vr 235), some (vi v0), some (vi t)]) (by decide) ckX12_load [] rfl rfl ?_
          refine ⟨⟨_, rfl, (by decide)⟩, ?_⟩
          have n17 : (wr (2 * t)) = 2 * t := wr_id (show -2147483648 ≤ (2 * t : Int) ∧ (2 * t : Int) < 2147483648 from by omega)
          have n18 : (wr (17 + (wr (2 * t)))) = 17 + (wr (2 * t)) := wr_id (show -2147483648 ≤ (17 + (wr (2 * t)) : Int) ∧ (17 + (wr (2 * t)) : Int) < 2147483648 from by omega)
          have n19 : (wr ((wr (17 + (wr (2 * t)))) + 1)) = (wr (17 + (wr (2 * t)))) + 1 := wr_id (show -2147483648 ≤ ((wr (17 + (wr (2 * t)))) + 1 : Int) ∧ ((wr (17 + (wr (2 * t)))) + 1 : Int) < 2147483648 from by omega)
          refine r_of (p := v0) (f := (wr ((wr (17 + (wr (2 * t)))) + 1))) hF (j := (Int.toNat (322 + 2 * t + 66 * v0))) (by omega) (by omega) (by omega) (fun w20 hw21 => ?_)
          have hw21 : w20 = (I 236 (Int.toNat (322 + 2 * t + 66 * v0))) := hw21
          refine ⟨rfl, ?_⟩
          have n22 : (wl (100 * w10)) = 100 * w10 := wl_id (show -9223372036854775808 ≤ (100 * w10 : Int) ∧ (100 * w10 : Int) < 9223372036854775808 from by omega)
          have a23 : -2147483648 ≤ (I 236 (Int.toNat (322 + 2 * t + 66 * v0))) ∧ (I 236 (Int.toNat (322 + 2 * t + 66 * v0))) < 2147483648 := hA.1 _ _
          have n24 : -2147483648 ≤ (wr (100 - v1)) ∧ (wr (100 - v1)) < 2147483648 := wr_R _
          refine ⟨fun c25 => ?_, fun c25 => ?_⟩
          ·
            have c25 : (((wl (w20 * (wr (100 - v1)))) : Int) ≤ (wl (100 * w10))) := lcm_ge.1 c25
            have n26 : (wr (i + 1)) = i + 1 := wr_id (show -2147483648 ≤ (i + 1 : Int) ∧ (i + 1 : Int) < 2147483648 from by omega)
            exact ih t (wr (i + 1))  (show ((-1) : Int) ≤ t from by first | with_reducible assumption | omega | (simp only [wr, wl] at *; omega)) (show (t : Int) ≤ 23 from by first | with_reducible assumption | omega | (simp only [wr, wl] at *; omega)) (show (0 : Int) ≤ (wr (i + 1)) from by first | with_reducible assumption | omega | (simp only [wr, wl] at *; omega)) (show (24 - (wr (i + 1))).toNat < mz from by omega)
          ·
            have c25 : (¬ (((wl (w20 * (wr (100 - v1)))) : Int) ≤ (wl (100 * w10)))) := fun e => c25 (lcm_ge.2 e)
            exact ⟨rfl, hQ _ (show -1 ≤ i ∧ i ≤ 23 from by first | omega | (simp only [wr, wl] at *; omega))⟩
theorem r_breakOf (hF : FS F) (hR : Rg I) {v0 v1 : Int} (hp : 0 ≤ v0 ∧ v0 ≤ 13) (hQ : ∀ r : Int, iR r → (-1 ≤ r ∧ r ≤ 23) → Q (some (vi r)) F I) : CallN G (d + 4) kX12_breakOf [vr 235, vi v0, vi v1] NP F I Q := by
  refine CallN_in (fun hok hA => CallN_out ?_)
  have iv0 : -2147483648 ≤ v0 ∧ v0 < 2147483648 := hok (vi v0) (by simp)
  have iv1 : -2147483648 ≤ v1 ∧ v1 < 2147483648 := hok (vi v1) (by simp)
  refine Call_wp (lv := [some (vr 235), some (vi v0), some (vi v1), none, none]) (by decide) ckX12_breakOf [11] rfl rfl ?_
  refine ⟨⟨_, rfl, (by decide)⟩, ?_⟩
  refine r_topOf (v0 := v0) hF hR (by omega) (fun vr1 hr2 q3 => ?_)
  have hr2 : -2147483648 ≤ vr1 ∧ vr1 < 2147483648 := hr2
  have q3 : -1 ≤ vr1 ∧ vr1 ≤ 23 := q3
  have n4 : (wr (vr1 + 1)) = vr1 + 1 := wr_id (show -2147483648 ≤ (vr1 + 1 : Int) ∧ (vr1 + 1 : Int) < 2147483648 from by omega)
  refine r_breakOf_l hF hR (by omega) (fun r g3 hv hA' => hQ _ (hv _ rfl) g3) _ vr1 (wr (vr1 + 1))  (show ((-1) : Int) ≤ vr1 from by first | with_reducible assumption | omega | (simp only [wr, wl] at *; omega)) (show (vr1 : Int) ≤ 23 from by first | with_reducible assumption | omega | (simp only [wr, wl] at *; omega)) (show (0 : Int) ≤ (wr (vr1 + 1)) from by first | with_reducible assumption | omega | (simp only [wr, wl] at *; omega)) (Nat.lt_succ_self _)
theorem r_breaks (hF : FS F) (hR : Rg I) {v0 v1 : Int}  (hQ : ∀ (r : Int) (I' : pI), Rg I' → AR I' → iR r → (∀ k j, ¬ (k = 238) → I' k j = I k j) → Q (some (vi r)) F I') : CallN G (d + 5) kX12_breaks [vr 235, vi v0, vi v1] NP F I Q := by
  refine CallN_in (fun hok hA => CallN_out ?_)
  have iv0 : -2147483648 ≤ v0 ∧ v0 < 2147483648 := hok (vi v0) (by simp)
  have iv1 : -2147483648 ≤ v1 ∧ v1 < 2147483648 := hok (vi v1) (by simp)
  refine Call_wp (lv := [some (vr 235), some (vi v0), some (vi v1), none]) (by decide) ckX12_breaks [] rfl rfl ?_
  refine ⟨⟨_, rfl, (by decide)⟩, ?_⟩
  have r1 : 0 ≤ (I 236 0) ∧ (I 236 0) ≤ 14 := Rg.n0 hR
  refine s_X12_is hF (w := 0) (by decide) (show 0 ≤ (I 236 0) ∧ (I 236 0) < 1000000 from by omega) (fun (w2 : (0 ≤ v0 ∧ v0 < (I 236 0))) => ?_) (fun (w2 : ¬ (0 ≤ v0 ∧ v0 < (I 236 0))) => ?_)
  ·
    refine ⟨fun c => absurd c (show (¬ ((1 : Int) = 0)) from by decide), fun _ => ?_⟩
    refine s_X12_within (fun (w3 : ((0 : Int) ≤ v1 ∧ (v1 : Int) ≤ 100)) => ?_) (fun (w3 : ¬ ((0 : Int) ≤ v1 ∧ (v1 : Int) ≤ 100)) => ?_)
    ·
      refine ⟨fun _ => ?_, fun c => absurd c (show (¬ (1 : Int) = 0) from by decide)⟩
      refine ⟨⟨_, rfl, (by decide)⟩, ?_⟩
      refine r_breakOf (v0 := v0) (v1 := v1) hF hR (by omega) (fun vr4 hr5 q6 => ?_)
      have hr5 : -2147483648 ≤ vr4 ∧ vr4 < 2147483648 := hr5
      have q6 : -1 ≤ vr4 ∧ vr4 ≤ 23 := q6
      refine ⟨fun (c7 : ((0 : Int) ≤ vr4)) => ?_, fun (c7 : (¬ ((0 : Int) ≤ vr4))) => ?_⟩
      ·
        exact ⟨rfl, fun hv hA' => hQ _ _ hR hA' (hv _ rfl) (fun _ _ _ => rfl)⟩
      ·
        refine ⟨⟨_, rfl, (by decide)⟩, ?_⟩
        refine s_X12_finding hF (v := (-1000002)) (by decide) ?_
        exact ⟨rfl, fun hv hA' => hQ _ _ (Rg.u hR (Pr_f rfl)) hA' (hv _ rfl) (fun ka ja hk => (uI_o (show ¬ (ka = 238 ∧ ja = 2) from by first | (intro e; obtain ⟨rfl, rfl⟩ := e; exact hk (by decide)) | omega)))⟩
    ·
      refine ⟨fun c => absurd (show ((0 : Int) = 0) from by decide) c, fun _ => ?_⟩
      refine ⟨⟨_, rfl, (by decide)⟩, ?_⟩
      refine s_X12_finding hF (v := (-1000001)) (by decide) ?_
      exact ⟨rfl, fun hv hA' => hQ _ _ (Rg.u hR (Pr_f rfl)) hA' (hv _ rfl) (fun ka ja hk => (uI_o (show ¬ (ka = 238 ∧ ja = 1) from by first | (intro e; obtain ⟨rfl, rfl⟩ := e; exact hk (by decide)) | omega)))⟩
  ·
    refine ⟨fun _ => ?_, fun c => absurd (show ((0 : Int) = 0) from by decide) c⟩
    refine ⟨⟨_, rfl, (by decide)⟩, ?_⟩
    refine s_X12_finding hF (v := (-1000001)) (by decide) ?_
    exact ⟨rfl, fun hv hA' => hQ _ _ (Rg.u hR (Pr_f rfl)) hA' (hv _ rfl) (fun ka ja hk => (uI_o (show ¬ (ka = 238 ∧ ja = 1) from by first | (intro e; obtain ⟨rfl, rfl⟩ := e; exact hk (by decide)) | omega)))⟩
theorem r_spentOf_l (hF : FS F) (hR : Rg I) {v0 v1 : Int} (hp : 0 ≤ v0 ∧ v0 ≤ 13) (hu : v1 ≤ 23) (hQ : ∀ (r : Int) , Q (some (vl r)) F I) : ∀ (mz : Nat) (su la i : Int) , (((-1) : Int) ≤ la) → ((la : Int) ≤ 23) → ((0 : Int) ≤ i) → (24 - i).toNat < mz → GoN G (d + 3) kX12_spentOf NP NP 8 [some (vr 235), some (vi v0), some (vi v1), some (vl su), none, some (vi la), some (vi i)] [] F I Q := by
  intro mz
  induction mz with
  | zero => intro su la i _ _ _ h; exact absurd h (Nat.not_lt_zero _)
  | succ mz ih =>
    intro su la i c100 c101 c102 hm
    refine GoN_in (fun hok hA => ?_)
    have iiv0 : -2147483648 ≤ v0 ∧ v0 < 2147483648 := hok 1 _ rfl
    have iiv1 : -2147483648 ≤ v1 ∧ v1 < 2147483648 := hok 2 _ rfl
    have iisu : -9223372036854775808 ≤ su ∧ su < 9223372036854775808 := hok 3 _ rfl
    have iila : -2147483648 ≤ la ∧ la < 2147483648 := hok 5 _ rfl
    have iii : -2147483648 ≤ i ∧ i < 2147483648 := hok 6 _ rfl
    refine Go_wp (by decide) ckX12_spentOf [8] ?_
    refine ⟨fun (c1 : ((v1 : Int) < i)) => ?_, fun (c1 : (¬ ((v1 : Int) < i))) => ?_⟩
    ·
      exact ⟨rfl, hQ _⟩
    ·
      refine ⟨⟨_, rfl, (by decide)⟩, ?_⟩
      refine Call_wp (lv := [some (vr 235), some (vi v0), some (vi i)]) (by decide) ckX12_isGood [] rfl rfl ?_
      refine ⟨⟨_, rfl, (by decide)⟩, ?_⟩
      refine Call_wp (lv := [some (vr 235), some (vi v0), some (vi i)]) (by decide) ckX12_load [] rfl rfl ?_
      refine ⟨⟨_, rfl, (by decide)⟩, ?_⟩
      have n2 : (wr (2 * i)) = 2 * i := wr_id (show -2147483648 ≤ (2 * i : Int) ∧ (2 * i : Int) < 2147483648 from by omega)
      have n3 : (wr (17 + (wr (2 * i)))) = 17 + (wr (2 * i)) := wr_id (show -2147483648 ≤ (17 + (wr (2 * i)) : Int) ∧ (17 + (wr (2 * i)) : Int) < 2147483648 from by omega)
      have n4 : (wr ((wr (17 + (wr (2 * i)))) + 1)) = (wr (17 + (wr (2 * i)))) + 1 := wr_id (show -2147483648 ≤ ((wr (17 + (wr (2 * i)))) + 1 : Int) ∧ ((wr (17 + (wr (2 * i)))) + 1 : Int) < 2147483648 from by omega)
      refine r_of (p := v0) (f := (wr ((wr (17 + (wr (2 * i)))) + 1))) hF (j := (Int.toNat (322 + 2 * i + 66 * v0))) (by omega) (by omega) (by omega) (fun w5 hw6 => ?_)
      have hw6 : w5 = (I 236 (Int.toNat (322 + 2 * i + 66 * v0))) := hw6
      refine ⟨rfl, ?_⟩
      have a7 : -2147483648 ≤ (I 236 (Int.toNat (322 + 2 * i + 66 * v0))) ∧ (I 236 (Int.toNat (322 + 2 * i + 66 * v0))) < 2147483648 := hA.1 _ _
      refine ⟨fun (c8 : ((w5 : Int) < 0)) => ?_, fun (c8 : (¬ ((w5 : Int) < 0))) => ?_⟩
      ·
        refine ⟨rfl, (by decide), ?_⟩
        refine ⟨fun _ => ?_, fun c => absurd (show ((0 : Int) = 0) from by decide) c⟩
        have n9 : (wr (i + 1)) = i + 1 := wr_id (show -2147483648 ≤ (i + 1 : Int) ∧ (i + 1 : Int) < 2147483648 from by omega)
        exact ih su la (wr (i + 1))  (show ((-1) : Int) ≤ la from by first | with_reducible assumption | omega | (simp only [wr, wl] at *; omega)) (show (la : Int) ≤ 23 from by first | with_reducible assumption | omega | (simp only [wr, wl] at *; omega)) (show (0 : Int) ≤ (wr (i + 1)) from by first | with_reducible assumption | omega | (simp only [wr, wl] at *; omega)) (show (24 - (wr (i + 1))).toNat < mz from by omega)
      ·
        refine ⟨rfl, (by decide), ?_⟩
        refine ⟨fun c => absurd c (show (¬ ((1 : Int) = 0)) from by decide), fun _ => ?_⟩
        refine ⟨fun (c10 : ((0 : Int) ≤ la)) => ?_, fun (c10 : (¬ ((0 : Int) ≤ la))) => ?_⟩
        ·
          refine ⟨⟨_, rfl, (by decide)⟩, ?_⟩
          refine Call_wp (lv := [some (vr 235), some (vi v0), some (vi la)]) (by decide) ckX12_load [] rfl rfl ?_
          refine ⟨⟨_, rfl, (by decide)⟩, ?_⟩
          have n11 : (wr (2 * la)) = 2 * la := wr_id (show -2147483648 ≤ (2 * la : Int) ∧ (2 * la : Int) < 2147483648 from by omega)
          have n12 : (wr (17 + (wr (2 * la)))) = 17 + (wr (2 * la)) := wr_id (show -2147483648 ≤ (17 + (wr (2 * la)) : Int) ∧ (17 + (wr (2 * la)) : Int) < 2147483648 from by omega)
          have n13 : (wr ((wr (17 + (wr (2 * la)))) + 1)) = (wr (17 + (wr (2 * la)))) + 1 := wr_id (show -2147483648 ≤ ((wr (17 + (wr (2 * la)))) + 1 : Int) ∧ ((wr (17 + (wr (2 * la)))) + 1 : Int) < 2147483648 from by omega)
          refine r_of (p := v0) (f := (wr ((wr (17 + (wr (2 * la)))) + 1))) hF (j := (Int.toNat (322 + 2 * la + 66 * v0))) (by omega) (by omega) (by omega) (fun w14 hw15 => ?_)
          have hw15 : w14 = (I 236 (Int.toNat (322 + 2 * la + 66 * v0))) := hw15
          refine ⟨rfl, ?_⟩
          refine ⟨⟨_, rfl, (by decide)⟩, ?_⟩
          refine Call_wp (lv := [some (vr 235), some (vi v0), some (vi i)]) (by decide) ckX12_load [] rfl rfl ?_
          refine ⟨⟨_, rfl, (by decide)⟩, ?_⟩
          refine r_of (p := v0) (f := (wr ((wr (17 + (wr (2 * i)))) + 1))) hF (j := (Int.toNat (322 + 2 * i + 66 * v0))) (by omega) (by omega) (by omega) (fun w16 hw17 => ?_)
          have hw17 : w16 = (I 236 (Int.toNat (322 + 2 * i + 66 * v0))) := hw17
          obtain rfl : w5 = w16 := hw6.trans hw17.symm
          refine ⟨rfl, ?_⟩
          refine ⟨⟨_, rfl, (by decide)⟩, ?_⟩
          refine Call_wp (lv := [some (vr 235), some (vi v0), some (vi i)]) (by decide) ckX12_stretch [] rfl rfl ?_
          refine ⟨⟨_, rfl, (by decide)⟩, ?_⟩
          refine r_of (p := v0) (f := (wr (17 + (wr (2 * i))))) hF (j := (Int.toNat (321 + 2 * i + 66 * v0))) (by omega) (by omega) (by omega) (fun w18 hw19 => ?_)
          have hw19 : w18 = (I 236 (Int.toNat (321 + 2 * i + 66 * v0))) := hw19
          refine ⟨rfl, ?_⟩
          refine ⟨⟨_, rfl, (by decide)⟩, ?_⟩
          refine Call_wp (lv := [some (vr 235), some (vi v0), some (vi la)]) (by decide) ckX12_stretch [] rfl rfl ?_
          refine ⟨⟨_, rfl, (by decide)⟩, ?_⟩
          refine r_of (p := v0) (f := (wr (17 + (wr (2 * la))))) hF (j := (Int.toNat (321 + 2 * la + 66 * v0))) (by omega) (by omega) (by omega) (fun w20 hw21 => ?_)
          have hw21 : w20 = (I 236 (Int.toNat (321 + 2 * la + 66 * v0))) := hw21
          refine ⟨rfl, ?_⟩
          have a22 : -2147483648 ≤ (I 236 (Int.toNat (321 + 2 * i + 66 * v0))) ∧ (I 236 (Int.toNat (321 + 2 * i + 66 * v0))) < 2147483648 := hA.1 _ _
          have a23 : -2147483648 ≤ (I 236 (Int.toNat (321 + 2 * la + 66 * v0))) ∧ (I 236 (Int.toNat (321 + 2 * la + 66 * v0))) < 2147483648 := hA.1 _ _
          have n24 : -2147483648 ≤ (wr (w18 - w20)) ∧ (wr (w18 - w20)) < 2147483648 := wr_R _
          refine j_max (fun w25 h26 h27 h28 => ?_)
          have a29 : -2147483648 ≤ (I 236 (Int.toNat (322 + 2 * la + 66 * v0))) ∧ (I 236 (Int.toNat (322 + 2 * la + 66 * v0))) < 2147483648 := hA.1 _ _
          have n30 : (wl (w14 + w5)) = w14 + w5 := wl_id (show -9223372036854775808 ≤ (w14 + w5 : Int) ∧ (w14 + w5 : Int) < 9223372036854775808 from by omega)
          have n31 : (wr (i + 1)) = i + 1 := wr_id (show -2147483648 ≤ (i + 1 : Int) ∧ (i + 1 : Int) < 2147483648 from by omega)
          exact ih (wl (su + (wl ((wl (w14 + w5)) * w25)))) i (wr (i + 1))  (show ((-1) : Int) ≤ i from by first | with_reducible assumption | omega | (simp only [wr, wl] at *; omega)) (show (i : Int) ≤ 23 from by first | with_reducible assumption | omega | (simp only [wr, wl] at *; omega)) (show (0 : Int) ≤ (wr (i + 1)) from by first | with_reducible assumption | omega | (simp only [wr, wl] at *; omega)) (show (24 - (wr (i + 1))).toNat < mz from by omega)
        ·
          have n32 : (wl (su + 0)) = su + 0 := wl_id (show -9223372036854775808 ≤ (su + 0 : Int) ∧ (su + 0 : Int) < 9223372036854775808 from by omega)
          have n33 : (wr (i + 1)) = i + 1 := wr_id (show -2147483648 ≤ (i + 1 : Int) ∧ (i + 1 : Int) < 2147483648 from by omega)
          exact ih (wl (su + 0)) i (wr (i + 1))  (show ((-1) : Int) ≤ i from by first | with_reducible assumption | omega | (simp only [wr, wl] at *; omega)) (show (i : Int) ≤ 23 from by first | with_reducible assumption | omega | (simp only [wr, wl] at *; omega)) (show (0 : Int) ≤ (wr (i + 1)) from by first | with_reducible assumption | omega | (simp only [wr, wl] at *; omega)) (show (24 - (wr (i + 1))).toNat < mz from by omega)
theorem r_spentOf (hF : FS F) (hR : Rg I) {v0 v1 : Int} (hp : 0 ≤ v0 ∧ v0 ≤ 13) (hu : v1 ≤ 23) (hQ : ∀ r : Int, lR r → Q (some (vl r)) F I) : CallN G (d + 3) kX12_spentOf [vr 235, vi v0, vi v1] NP F I Q := by
  refine CallN_in (fun hok hA => CallN_out ?_)
  have iv0 : -2147483648 ≤ v0 ∧ v0 < 2147483648 := hok (vi v0) (by simp)
  have iv1 : -2147483648 ≤ v1 ∧ v1 < 2147483648 := hok (vi v1) (by simp)
  refine Call_wp (lv := [some (vr 235), some (vi v0), some (vi v1), none, none, none, none]) (by decide) ckX12_spentOf [8] rfl rfl ?_
  refine r_spentOf_l hF hR (by omega) (by omega) (fun r hv hA' => hQ _ (hv _ rfl)) _ 0 (-1) 0  (show ((-1) : Int) ≤ ((-1) : Int) from Int.le_refl _) (show (((-1) : Int) : Int) ≤ 23 from by first | with_reducible assumption | omega | (simp only [wr, wl] at *; omega)) (show (0 : Int) ≤ (0 : Int) from Int.le_refl _) (Nat.lt_succ_self _)
theorem r_spent (hF : FS F) (hR : Rg I) {v0 v1 : Int}  (hQ : ∀ (r : Int) (I' : pI), Rg I' → AR I' → lR r → (∀ k j, ¬ (k = 238) → I' k j = I k j) → Q (some (vl r)) F I') : CallN G (d + 4) kX12_spent [vr 235, vi v0, vi v1] NP F I Q := by
  refine CallN_in (fun hok hA => CallN_out ?_)
  have iv0 : -2147483648 ≤ v0 ∧ v0 < 2147483648 := hok (vi v0) (by simp)
  have iv1 : -2147483648 ≤ v1 ∧ v1 < 2147483648 := hok (vi v1) (by simp)
  refine Call_wp (lv := [some (vr 235), some (vi v0), some (vi v1)]) (by decide) ckX12_spent [] rfl rfl ?_
  refine ⟨⟨_, rfl, (by decide)⟩, ?_⟩
  have r1 : 0 ≤ (I 236 0) ∧ (I 236 0) ≤ 14 := Rg.n0 hR
  refine s_X12_is hF (w := 0) (by decide) (show 0 ≤ (I 236 0) ∧ (I 236 0) < 1000000 from by omega) (fun (w2 : (0 ≤ v0 ∧ v0 < (I 236 0))) => ?_) (fun (w2 : ¬ (0 ≤ v0 ∧ v0 < (I 236 0))) => ?_)
  ·
    refine ⟨fun c => absurd c (show (¬ ((1 : Int) = 0)) from by decide), fun _ => ?_⟩
    refine ⟨⟨_, rfl, (by decide)⟩, ?_⟩
    refine Call_wp (lv := [some (vr 235), some (vi v0)]) (by decide) ckX12_many [] rfl rfl ?_
    refine ⟨⟨_, rfl, (by decide)⟩, ?_⟩
    refine r_of (p := v0) (f := 4) hF (j := (Int.toNat (308 + 66 * v0))) (by omega) (by omega) (by omega) (fun w3 hw4 => ?_)
    have r5 : 0 ≤ (I 236 (Int.toNat (308 + 66 * v0))) ∧ (I 236 (Int.toNat (308 + 66 * v0))) ≤ 24 := Pn_p4 (p := (Int.toNat v0)) (by omega) (by omega) (hR.n (Int.toNat (308 + 66 * v0)) (by omega))
    have hw4 : w3 = (I 236 (Int.toNat (308 + 66 * v0))) := hw4
    refine ⟨rfl, ?_⟩
    have n7 : (wr (w3 - 1)) = w3 - 1 := wr_id (show -2147483648 ≤ (w3 - 1 : Int) ∧ (w3 - 1 : Int) < 2147483648 from by omega)
    refine s_X12_within (fun (w8 : ((0 : Int) ≤ v1 ∧ (v1 : Int) ≤ (wr (w3 - 1)))) => ?_) (fun (w8 : ¬ ((0 : Int) ≤ v1 ∧ (v1 : Int) ≤ (wr (w3 - 1)))) => ?_)
    ·
      refine ⟨fun c => absurd c (show (¬ ((1 : Int) = 0)) from by decide), fun _ => ?_⟩
      refine ⟨⟨_, rfl, (by decide)⟩, ?_⟩
      refine r_spentOf (v0 := v0) (v1 := v1) hF hR (by omega) (by omega) (fun vr9 hr10 => ?_)
      have hr10 : -9223372036854775808 ≤ vr9 ∧ vr9 < 9223372036854775808 := hr10
      exact ⟨rfl, fun hv hA' => hQ _ _ hR hA' (hv _ rfl) (fun _ _ _ => rfl)⟩
    ·
      refine ⟨fun _ => ?_, fun c => absurd (show ((0 : Int) = 0) from by decide) c⟩
      refine ⟨⟨_, rfl, (by decide)⟩, ?_⟩
      refine s_X12_finding hF (v := (-1000001)) (by decide) ?_
      exact ⟨rfl, fun hv hA' => hQ _ _ (Rg.u hR (Pr_f rfl)) hA' (hv _ rfl) (fun ka ja hk => (uI_o (show ¬ (ka = 238 ∧ ja = 1) from by first | (intro e; obtain ⟨rfl, rfl⟩ := e; exact hk (by decide)) | omega)))⟩
  ·
    refine ⟨fun _ => ?_, fun c => absurd (show ((0 : Int) = 0) from by decide) c⟩
    refine ⟨⟨_, rfl, (by decide)⟩, ?_⟩
    refine s_X12_finding hF (v := (-1000001)) (by decide) ?_
    exact ⟨rfl, fun hv hA' => hQ _ _ (Rg.u hR (Pr_f rfl)) hA' (hv _ rfl) (fun ka ja hk => (uI_o (show ¬ (ka = 238 ∧ ja = 1) from by first | (intro e; obtain ⟨rfl, rfl⟩ := e; exact hk (by decide)) | omega)))⟩
theorem r_numberOf (hF : FS F) (hR : Rg I) {v0 v1 : Int} (hp : 0 ≤ v0 ∧ v0 ≤ 13) (hQ : ∀ (r : Int) (I' : pI), Rg I' → AR I' → iR r → (∀ k j, ¬ ((k = 235 ∧ 22 ≤ j ∧ j ≤ 24)) → I' k j = I k j) → Q (some (vi r)) F I') : CallN G (d + 6) kX12_numberOf [vr 235, vi v0, vi v1] NP F I Q := by
  refine CallN_in (fun hok hA => CallN_out ?_)
  have iv0 : -2147483648 ≤ v0 ∧ v0 < 2147483648 := hok (vi v0) (by simp)
  have iv1 : -2147483648 ≤ v1 ∧ v1 < 2147483648 := hok (vi v1) (by simp)
  refine Call_wp (lv := [some (vr 235), some (vi v0), some (vi v1), none, none]) (by decide) ckX12_numberOf [] rfl rfl ?_
  refine ⟨⟨_, rfl, (by decide)⟩, ?_⟩
  refine r_topOf (v0 := v0) hF hR (by omega) (fun vr1 hr2 q3 => ?_)
  have hr2 : -2147483648 ≤ vr1 ∧ vr1 < 2147483648 := hr2
  have q3 : -1 ≤ vr1 ∧ vr1 ≤ 23 := q3
  refine ⟨fun (c4 : (¬ (v1 : Int) = 1)) => ?_, fun (c4 : ((v1 : Int) = 1)) => ?_⟩
  ·
    refine ⟨fun (c5 : (¬ (v1 : Int) = 2)) => ?_, fun (c5 : ((v1 : Int) = 2)) => ?_⟩
    ·
      refine ⟨fun (c6 : ((0 : Int) ≤ vr1)) => ?_, fun (c6 : (¬ ((0 : Int) ≤ vr1))) => ?_⟩
      ·
        refine ⟨fun (c7 : (¬ (v1 : Int) = 0)) => ?_, fun (c7 : ((v1 : Int) = 0)) => ?_⟩
        ·
          refine ⟨fun (c8 : ((3 : Int) ≤ v1)) => ?_, fun (c8 : (¬ ((3 : Int) ≤ v1))) => ?_⟩
          ·
            refine ⟨⟨_, rfl, (by decide)⟩, ?_⟩
            refine Call_wp (lv := [some (vr 235), some (vi v0)]) (by decide) ckX12_many [] rfl rfl ?_
            refine ⟨⟨_, rfl, (by decide)⟩, ?_⟩
            refine r_of (p := v0) (f := 4) hF (j := (Int.toNat (308 + 66 * v0))) (by omega) (by omega) (by omega) (fun w9 hw10 => ?_)
            have r11 : 0 ≤ (I 236 (Int.toNat (308 + 66 * v0))) ∧ (I 236 (Int.toNat (308 + 66 * v0))) ≤ 24 := Pn_p4 (p := (Int.toNat v0)) (by omega) (by omega) (hR.n (Int.toNat (308 + 66 * v0)) (by omega))
            have hw10 : w9 = (I 236 (Int.toNat (308 + 66 * v0))) := hw10
            refine ⟨rfl, ?_⟩
            refine ⟨⟨_, rfl, (by decide)⟩, ?_⟩
            have n13 : (wr (w9 - 1)) = w9 - 1 := wr_id (show -2147483648 ≤ (w9 - 1 : Int) ∧ (w9 - 1 : Int) < 2147483648 from by omega)
            refine r_spentOf (v0 := v0) (v1 := (wr (w9 - 1))) hF hR (by omega) (by omega) (fun vr14 hr15 => ?_)
            have hr15 : -9223372036854775808 ≤ vr14 ∧ vr14 < 9223372036854775808 := hr15
            refine j_minL (fun w16 h17 h18 h19 => ?_)
            exact ⟨rfl, fun hv hA' => hQ _ _ hR hA' (hv _ rfl) (fun _ _ _ => rfl)⟩
          ·
            refine ⟨⟨_, rfl, (by decide)⟩, ?_⟩
            refine Call_wp (lv := [some (vr 235), some (vi v0), some (vi vr1)]) (by decide) ckX12_stretch [] rfl rfl ?_
            refine ⟨⟨_, rfl, (by decide)⟩, ?_⟩
            have n20 : (wr (2 * vr1)) = 2 * vr1 := wr_id (show -2147483648 ≤ (2 * vr1 : Int) ∧ (2 * vr1 : Int) < 2147483648 from by omega)
            have n21 : (wr (17 + (wr (2 * vr1)))) = 17 + (wr (2 * vr1)) := wr_id (show -2147483648 ≤ (17 + (wr (2 * vr1)) : Int) ∧ (17 + (wr (2 * vr1)) : Int) < 2147483648 from by omega)
            refine r_of (p := v0) (f := (wr (17 + (wr (2 * vr1))))) hF (j := (Int.toNat (321 + 66 * v0 + 2 * vr1))) (by omega) (by omega) (by omega) (fun w22 hw23 => ?_)
            have hw23 : w22 = (I 236 (Int.toNat (321 + 66 * v0 + 2 * vr1))) := hw23
            refine ⟨rfl, ?_⟩
            exact ⟨rfl, fun hv hA' => hQ _ _ hR hA' (hv _ rfl) (fun _ _ _ => rfl)⟩
        ·
          refine ⟨⟨_, rfl, (by decide)⟩, ?_⟩
          refine Call_wp (lv := [some (vr 235), some (vi v0), some (vi vr1)]) (by decide) ckX12_load [] rfl rfl ?_
          refine ⟨⟨_, rfl, (by decide)⟩, ?_⟩
          have n24 : (wr (2 * vr1)) = 2 * vr1 := wr_id (show -2147483648 ≤ (2 * vr1 : Int) ∧ (2 * vr1 : Int) < 2147483648 from by omega)
          have n25 : (wr (17 + (wr (2 * vr1)))) = 17 + (wr (2 * vr1)) := wr_id (show -2147483648 ≤ (17 + (wr (2 * vr1)) : Int) ∧ (17 + (wr (2 * vr1)) : Int) < 2147483648 from by omega)
          have n26 : (wr ((wr (17 + (wr (2 * vr1)))) + 1)) = (wr (17 + (wr (2 * vr1)))) + 1 := wr_id (show -2147483648 ≤ ((wr (17 + (wr (2 * vr1)))) + 1 : Int) ∧ ((wr (17 + (wr (2 * vr1)))) + 1 : Int) < 2147483648 from by omega)
          refine r_of (p := v0) (f := (wr ((wr (17 + (wr (2 * vr1)))) + 1))) hF (j := (Int.toNat (322 + 66 * v0 + 2 * vr1))) (by omega) (by omega) (by omega) (fun w27 hw28 => ?_)
          have hw28 : w27 = (I 236 (Int.toNat (322 + 66 * v0 + 2 * vr1))) := hw28
          refine ⟨rfl, ?_⟩
          exact ⟨rfl, fun hv hA' => hQ _ _ hR hA' (hv _ rfl) (fun _ _ _ => rfl)⟩
      ·
        exact ⟨rfl, fun hv hA' => hQ _ _ hR hA' (hv _ rfl) (fun _ _ _ => rfl)⟩
    ·
      refine ⟨⟨_, rfl, (by decide)⟩, ?_⟩
      refine r_breakOf (v0 := v0) (v1 := 20) hF hR (by omega) (fun vr29 hr30 q31 => ?_)
      have hr30 : -2147483648 ≤ vr29 ∧ vr29 < 2147483648 := hr30
      have q31 : -1 ≤ vr29 ∧ vr29 ≤ 23 := q31
      refine ⟨fun (c32 : ((0 : Int) ≤ vr29)) => ?_, fun (c32 : (¬ ((0 : Int) ≤ vr29))) => ?_⟩
      ·
        refine ⟨fun _ => ?_, fun c => absurd c (show (¬ (v1 : Int) = 0) from by first | omega | (simp only [wr, wl] at *; omega))⟩
        refine ⟨fun c => absurd c (show (¬ ((3 : Int) ≤ v1)) from by first | omega | (simp only [wr, wl] at *; omega)), fun _ => ?_⟩
        refine ⟨⟨_, rfl, (by decide)⟩, ?_⟩
        refine Call_wp (lv := [some (vr 235), some (vi v0), some (vi vr29)]) (by decide) ckX12_stretch [] rfl rfl ?_
        refine ⟨⟨_, rfl, (by decide)⟩, ?_⟩
        have n33 : (wr (2 * vr29)) = 2 * vr29 := wr_id (show -2147483648 ≤ (2 * vr29 : Int) ∧ (2 * vr29 : Int) < 2147483648 from by omega)
        have n34 : (wr (17 + (wr (2 * vr29)))) = 17 + (wr (2 * vr29)) := wr_id (show -2147483648 ≤ (17 + (wr (2 * vr29)) : Int) ∧ (17 + (wr (2 * vr29)) : Int) < 2147483648 from by omega)
        refine r_of (p := v0) (f := (wr (17 + (wr (2 * vr29))))) hF (j := (Int.toNat (321 + 66 * v0 + 2 * vr29))) (by omega) (by omega) (by omega) (fun w35 hw36 => ?_)
        have hw36 : w35 = (I 236 (Int.toNat (321 + 66 * v0 + 2 * vr29))) := hw36
        refine ⟨rfl, ?_⟩
        exact ⟨rfl, fun hv hA' => hQ _ _ hR hA' (hv _ rfl) (fun _ _ _ => rfl)⟩
      ·
        exact ⟨rfl, fun hv hA' => hQ _ _ hR hA' (hv _ rfl) (fun _ _ _ => rfl)⟩
  ·
    refine ⟨⟨_, rfl, (by decide)⟩, ?_⟩
    refine r_yieldOf (v0 := v0) (v1 := 2) hF hR (by omega) (fun vr37 I38 hR39 hA40 hr42 hW41 q43 => ?_)
    have hr42 : -2147483648 ≤ vr37 ∧ vr37 < 2147483648 := hr42
    have q43 : -1 ≤ vr37 ∧ vr37 ≤ 23 := q43
    refine ⟨fun (c44 : ((0 : Int) ≤ vr37)) => ?_, fun (c44 : (¬ ((0 : Int) ≤ vr37))) => ?_⟩
    ·
      refine ⟨fun _ => ?_, fun c => absurd c (show (¬ (v1 : Int) = 0) from by first | omega | (simp only [wr, wl] at *; omega))⟩
      refine ⟨fun c => absurd c (show (¬ ((3 : Int) ≤ v1)) from by first | omega | (simp only [wr, wl] at *; omega)), fun _ => ?_⟩
      refine ⟨⟨_, rfl, (by decide)⟩, ?_⟩
      refine Call_wp (lv := [some (vr 235), some (vi v0), some (vi vr37)]) (by decide) ckX12_stretch [] rfl rfl ?_
      refine ⟨⟨_, rfl, (by decide)⟩, ?_⟩
      have n45 : (wr (2 * vr37)) = 2 * vr37 := wr_id (show -2147483648 ≤ (2 * vr37 : Int) ∧ (2 * vr37 : Int) < 2147483648 from by omega)
      have n46 : (wr (17 + (wr (2 * vr37)))) = 17 + (wr (2 * vr37)) := wr_id (show -2147483648 ≤ (17 + (wr (2 * vr37)) : Int) ∧ (17 + (wr (2 * vr37)) : Int) < 2147483648 from by omega)
      refine r_of (p := v0) (f := (wr (17 + (wr (2 * vr37))))) hF (j := (Int.toNat (321 + 66 * v0 + 2 * vr37))) (by omega) (by omega) (by omega) (fun w47 hw48 => ?_)
      have u49 : (I38 236 (Int.toNat (321 + 66 * v0 + 2 * vr37))) = (I 236 (Int.toNat (321 + 66 * v0 + 2 * vr37))) := hW41 _ _ (by first | decide | omega)
      have a50 : -2147483648 ≤ (I 236 (Int.toNat (321 + 66 * v0 + 2 * vr37))) ∧ (I 236 (Int.toNat (321 + 66 * v0 + 2 * vr37))) < 2147483648 := hA.1 _ _
      have a51 : -2147483648 ≤ (I38 236 (Int.toNat (321 + 66 * v0 + 2 * vr37))) ∧ (I38 236 (Int.toNat (321 + 66 * v0 + 2 * vr37))) < 2147483648 := hA40.1 _ _
      have hw48 : w47 = (I38 236 (Int.toNat (321 + 66 * v0 + 2 * vr37))) := hw48
      refine ⟨rfl, ?_⟩
      exact ⟨rfl, fun hv hA' => hQ _ _ hR39 hA' (hv _ rfl) (fun ka ja hk => (hW41 ka ja (by omega)))⟩
    ·
      exact ⟨rfl, fun hv hA' => hQ _ _ hR39 hA' (hv _ rfl) (fun ka ja hk => (hW41 ka ja (by omega)))⟩
theorem r_number_ (hF : FS F) (hR : Rg I) {v0 v1 : Int}  (hQ : ∀ (r : Int) (I' : pI), Rg I' → AR I' → iR r → (∀ k j, ¬ (k = 238 ∨ (k = 235 ∧ 22 ≤ j ∧ j ≤ 24)) → I' k j = I k j) → Q (some (vi r)) F I') : CallN G (d + 7) kX12_number_ [vr 235, vi v0, vi v1] NP F I Q := by
  refine CallN_in (fun hok hA => CallN_out ?_)
  have iv0 : -2147483648 ≤ v0 ∧ v0 < 2147483648 := hok (vi v0) (by simp)
  have iv1 : -2147483648 ≤ v1 ∧ v1 < 2147483648 := hok (vi v1) (by simp)
  refine Call_wp (lv := [some (vr 235), some (vi v0), some (vi v1), none]) (by decide) ckX12_number_ [] rfl rfl ?_
  refine ⟨⟨_, rfl, (by decide)⟩, ?_⟩
  have r1 : 0 ≤ (I 236 0) ∧ (I 236 0) ≤ 14 := Rg.n0 hR
  refine s_X12_is hF (w := 0) (by decide) (show 0 ≤ (I 236 0) ∧ (I 236 0) < 1000000 from by omega) (fun (w2 : (0 ≤ v0 ∧ v0 < (I 236 0))) => ?_) (fun (w2 : ¬ (0 ≤ v0 ∧ v0 < (I 236 0))) => ?_)
  ·
    refine ⟨fun c => absurd c (show (¬ ((1 : Int) = 0)) from by decide), fun _ => ?_⟩
    refine s_X12_isLaw (fun (w3 : ((0 : Int) ≤ v1 ∧ (v1 : Int) ≤ 3)) => ?_) (fun (w3 : ¬ ((0 : Int) ≤ v1 ∧ (v1 : Int) ≤ 3)) => ?_)
    ·
      refine ⟨fun _ => ?_, fun c => absurd c (show (¬ (1 : Int) = 0) from by decide)⟩
      refine ⟨⟨_, rfl, (by decide)⟩, ?_⟩
      refine r_numberOf (v0 := v0) (v1 := v1) hF hR (by omega) (fun vr4 I5 hR6 hA7 hr9 hW8 => ?_)
      have hr9 : -2147483648 ≤ vr4 ∧ vr4 < 2147483648 := hr9
      refine ⟨fun (c10 : ((0 : Int) ≤ vr4)) => ?_, fun (c10 : (¬ ((0 : Int) ≤ vr4))) => ?_⟩
      ·
        exact ⟨rfl, fun hv hA' => hQ _ _ hR6 hA' (hv _ rfl) (fun ka ja hk => (hW8 ka ja (by omega)))⟩
      ·
        refine ⟨⟨_, rfl, (by decide)⟩, ?_⟩
        refine s_X12_finding hF (v := (-1000002)) (by decide) ?_
        have u11 : (I5 238 2) = (I 238 2) := hW8 _ _ (by first | decide | omega)
        have a12 : -2147483648 ≤ (I 238 2) ∧ (I 238 2) < 2147483648 := hA.1 _ _
        have a13 : -2147483648 ≤ (I5 238 2) ∧ (I5 238 2) < 2147483648 := hA7.1 _ _
        exact ⟨rfl, fun hv hA' => hQ _ _ (Rg.u hR6 (Pr_f rfl)) hA' (hv _ rfl) (fun ka ja hk => ((uI_o (show ¬ (ka = 238 ∧ ja = 2) from by first | (intro e; obtain ⟨rfl, rfl⟩ := e; exact hk (by decide)) | omega))).trans ((hW8 ka ja (by omega))))⟩
    ·
      refine ⟨fun c => absurd (show ((0 : Int) = 0) from by decide) c, fun _ => ?_⟩
      refine ⟨⟨_, rfl, (by decide)⟩, ?_⟩
      refine s_X12_finding hF (v := (-1000001)) (by decide) ?_
      exact ⟨rfl, fun hv hA' => hQ _ _ (Rg.u hR (Pr_f rfl)) hA' (hv _ rfl) (fun ka ja hk => (uI_o (show ¬ (ka = 238 ∧ ja = 1) from by first | (intro e; obtain ⟨rfl, rfl⟩ := e; exact hk (by decide)) | omega)))⟩
  ·
    refine ⟨fun _ => ?_, fun c => absurd (show ((0 : Int) = 0) from by decide) c⟩
    refine ⟨⟨_, rfl, (by decide)⟩, ?_⟩
    refine s_X12_finding hF (v := (-1000001)) (by decide) ?_
    exact ⟨rfl, fun hv hA' => hQ _ _ (Rg.u hR (Pr_f rfl)) hA' (hv _ rfl) (fun ka ja hk => (uI_o (show ¬ (ka = 238 ∧ ja = 1) from by first | (intro e; obtain ⟨rfl, rfl⟩ := e; exact hk (by decide)) | omega)))⟩
end RL
