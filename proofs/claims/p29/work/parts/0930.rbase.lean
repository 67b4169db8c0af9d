/-! small methods of the reference, from any state. Own work (scripts laid by wip/pm/gen30.py). -/
section RB
variable {G : pG} {d : Nat} {F : pF} {I : pI} {Q : Option pV → pF → pI → Prop}
theorem CallN_S {as : List pV} {k n : Nat} (h : (gS G = .inl none ∨ gS G = .inl (some (EXT + 4))) → CallN G d k as n F I Q) : CallN G d k as n F I Q := by
  by_cases hI : gS G = .inl none ∨ gS G = .inl (some (EXT + 4))
  · exact h hI
  · refine ⟨fun hok => ?_⟩
    intro p e ha hc hk s m args below hf hap hP hK
    exact absurd hP.2.1.sio hI
theorem j_check3 {i n : Int} {w : pV} {x : Option Nat} (hw : w = .inl x) (h : 0 ≤ i ∧ i < n) (hQ : Q (some (vi i)) F I) : CallN G d kJ3_checkIndex_8e157 [vi i, vi n, w] NP F I Q := by
  subst hw
  refine Call_wp (lv := [some (vi i), some (vi n), some (.inl x)]) (by decide) ckJ3_checkIndex_8e157 [] rfl rfl ?_
  refine ⟨fun c => absurd c (by omega), fun _ => ?_⟩
  refine ⟨fun _ => ?_, fun c => absurd h.2 c⟩
  exact ⟨rfl, hQ⟩
theorem j_check {i n : Int} (h : 0 ≤ i ∧ i < n) (hQ : Q none F I) : CallN G (d + 1) kJ0_checkIndex_df160 [vi i, vi n] NP F I Q := by
  refine CallN_S (fun hs => ?_)
  refine Call_wp (lv := [some (vi i), some (vi n)]) (by decide) ckJ0_checkIndex_df160 [] rfl rfl ?_
  rcases hs with e | e
  · refine j_check3 e h ?_
    exact ⟨rfl, hQ⟩
  · refine j_check3 e h ?_
    exact ⟨rfl, hQ⟩
theorem r_of (hF : FS F) {p f : Int} {j : Nat} (hp : 0 ≤ p ∧ p ≤ 13) (hf : 0 ≤ f ∧ f ≤ 65) (hj : (j : Int) = 304 + 66 * p + f) (hQ : ∀ w, w = I 236 j → Q (some (vi w)) F I) : CallN G d kX12_of [vr 235, vi p, vi f] NP F I Q := by
  refine Call_wp (lv := [some (vr 235), some (vi p), some (vi f)]) (by decide) ckX12_of [] rfl rfl ?_
  refine ⟨_, rfl, (by decide), ?_⟩
  refine fun w0 hw0 => ?_; obtain rfl : w0 = some 236 := hw0.symm.trans (FS.g hF rfl)
  have n1 : (wr (66 * p)) = 66 * p := wr_id (show -2147483648 ≤ (66 * p : Int) ∧ (66 * p : Int) < 2147483648 from by omega)
  have n2 : (wr (304 + (wr (66 * p)))) = 304 + (wr (66 * p)) := wr_id (show -2147483648 ≤ (304 + (wr (66 * p)) : Int) ∧ (304 + (wr (66 * p)) : Int) < 2147483648 from by omega)
  have n3 : (wr ((wr (304 + (wr (66 * p)))) + f)) = (wr (304 + (wr (66 * p)))) + f := wr_id (show -2147483648 ≤ ((wr (304 + (wr (66 * p)))) + f : Int) ∧ ((wr (304 + (wr (66 * p)))) + f : Int) < 2147483648 from by omega)
  refine ⟨_, rfl, (by decide), (show (0 : Int) ≤ (wr ((wr (304 + (wr (66 * p)))) + f)) from by first | with_reducible assumption | omega | (simp only [wr, wl] at *; omega)), (show (wr ((wr (304 + (wr (66 * p)))) + f)) < (1340 : Int) from by first | with_reducible assumption | omega | (simp only [wr, wl] at *; omega)), ?_⟩
  exact ⟨rfl, hQ _ (congrArg (I 236) (show Int.toNat (wr ((wr (304 + (wr (66 * p)))) + f)) = j by omega))⟩
theorem r_meter (hF : FS F) {p f : Int} {j : Nat} (hp : 0 ≤ p ∧ p ≤ 5) (hf : 0 ≤ f ∧ f ≤ 3) (hj : (j : Int) = 16 + 4 * p + f) (hQ : ∀ w, w = I 236 j → Q (some (vi w)) F I) : CallN G d kX12_meter [vr 235, vi p, vi f] NP F I Q := by
  refine Call_wp (lv := [some (vr 235), some (vi p), some (vi f)]) (by decide) ckX12_meter [] rfl rfl ?_
  refine ⟨_, rfl, (by decide), ?_⟩
  refine fun w0 hw0 => ?_; obtain rfl : w0 = some 236 := hw0.symm.trans (FS.g hF rfl)
  have n1 : (wr (4 * p)) = 4 * p := wr_id (show -2147483648 ≤ (4 * p : Int) ∧ (4 * p : Int) < 2147483648 from by omega)
  have n2 : (wr (16 + (wr (4 * p)))) = 16 + (wr (4 * p)) := wr_id (show -2147483648 ≤ (16 + (wr (4 * p)) : Int) ∧ (16 + (wr (4 * p)) : Int) < 2147483648 from by omega)
  have n3 : (wr ((wr (16 + (wr (4 * p)))) + f)) = (wr (16 + (wr (4 * p)))) + f := wr_id (show -2147483648 ≤ ((wr (16 + (wr (4 * p)))) + f : Int) ∧ ((wr (16 + (wr (4 * p)))) + f : Int) < 2147483648 from by omega)
  refine ⟨_, rfl, (by decide), (show (0 : Int) ≤ (wr ((wr (16 + (wr (4 * p)))) + f)) from by first | with_reducible assumption | omega | (simp only [wr, wl] at *; omega)), (show (wr ((wr (16 + (wr (4 * p)))) + f)) < (1340 : Int) from by first | with_reducible assumption | omega | (simp only [wr, wl] at *; omega)), ?_⟩
  exact ⟨rfl, hQ _ (congrArg (I 236) (show Int.toNat (wr ((wr (16 + (wr (4 * p)))) + f)) = j by omega))⟩
theorem r_entry (hF : FS F) {p f : Int} {j : Nat} (hp : 0 ≤ p ∧ p ≤ 19) (hf : 0 ≤ f ∧ f ≤ 5) (hj : (j : Int) = 184 + 6 * p + f) (hQ : ∀ w, w = I 236 j → Q (some (vi w)) F I) : CallN G d kX12_entry [vr 235, vi p, vi f] NP F I Q := by
  refine Call_wp (lv := [some (vr 235), some (vi p), some (vi f)]) (by decide) ckX12_entry [] rfl rfl ?_
  refine ⟨_, rfl, (by decide), ?_⟩
  refine fun w0 hw0 => ?_; obtain rfl : w0 = some 236 := hw0.symm.trans (FS.g hF rfl)
  have n1 : (wr (6 * p)) = 6 * p := wr_id (show -2147483648 ≤ (6 * p : Int) ∧ (6 * p : Int) < 2147483648 from by omega)
  have n2 : (wr (184 + (wr (6 * p)))) = 184 + (wr (6 * p)) := wr_id (show -2147483648 ≤ (184 + (wr (6 * p)) : Int) ∧ (184 + (wr (6 * p)) : Int) < 2147483648 from by omega)
  have n3 : (wr ((wr (184 + (wr (6 * p)))) + f)) = (wr (184 + (wr (6 * p)))) + f := wr_id (show -2147483648 ≤ ((wr (184 + (wr (6 * p)))) + f : Int) ∧ ((wr (184 + (wr (6 * p)))) + f : Int) < 2147483648 from by omega)
  refine ⟨_, rfl, (by decide), (show (0 : Int) ≤ (wr ((wr (184 + (wr (6 * p)))) + f)) from by first | with_reducible assumption | omega | (simp only [wr, wl] at *; omega)), (show (wr ((wr (184 + (wr (6 * p)))) + f)) < (1340 : Int) from by first | with_reducible assumption | omega | (simp only [wr, wl] at *; omega)), ?_⟩
  exact ⟨rfl, hQ _ (congrArg (I 236) (show Int.toNat (wr ((wr (184 + (wr (6 * p)))) + f)) = j by omega))⟩
theorem j_max {x y : Int} (hQ : ∀ w : Int, (w = x ∨ w = y) → x ≤ w → y ≤ w → Q (some (vi w)) F I) : CallN G d kJ9_max_7cf53 [vi x, vi y] NP F I Q := by
  refine Call_wp (lv := [some (vi x), some (vi y)]) (by decide) ckJ9_max_7cf53 [] rfl rfl ?_
  refine ⟨fun (c1 : ((x : Int) < y)) => ?_, fun (c1 : (¬ ((x : Int) < y))) => ?_⟩
  ·
    exact ⟨rfl, hQ _ (by omega) (by omega) (by omega)⟩
  ·
    exact ⟨rfl, hQ _ (by omega) (by omega) (by omega)⟩
theorem j_min {x y : Int} (hQ : ∀ w : Int, (w = x ∨ w = y) → w ≤ x → w ≤ y → Q (some (vi w)) F I) : CallN G d kJ9_min_7cf53 [vi x, vi y] NP F I Q := by
  refine Call_wp (lv := [some (vi x), some (vi y)]) (by decide) ckJ9_min_7cf53 [] rfl rfl ?_
  refine ⟨fun (c1 : ((y : Int) < x)) => ?_, fun (c1 : (¬ ((y : Int) < x))) => ?_⟩
  ·
    exact ⟨rfl, hQ _ (by omega) (by omega) (by omega)⟩
  ·
    exact ⟨rfl, hQ _ (by omega) (by omega) (by omega)⟩
theorem j_minL {x y : Int} (hQ : ∀ w : Int, (w = x ∨ w = y) → w ≤ x → w ≤ y → Q (some (vl w)) F I) : CallN G d kJ9_min_f86c9 [vl x, vl y] NP F I Q := by
  refine Call_wp (lv := [some (vl x), none, some (vl y), none]) (by decide) ckJ9_min_f86c9 [] rfl rfl ?_
  refine ⟨fun c1 => ?_, fun c1 => ?_⟩
  ·
    have c1 : ((y : Int) < x) := lcm_gt.1 c1
    exact ⟨rfl, hQ _ (by omega) (by omega) (by omega)⟩
  ·
    have c1 : (¬ ((y : Int) < x)) := fun e => c1 (lcm_gt.2 e)
    exact ⟨rfl, hQ _ (by omega) (by omega) (by omega)⟩
theorem r_answered (hF : FS F) (hR : Rg I) {v0 v1 : Int} (hp : 0 ≤ v0 ∧ v0 ≤ 13) (hx : 0 ≤ v1) (hQ : ∀ r : Int, iR r → Q (some (vi r)) F I) : CallN G (d + 2) kX12_answered [vr 235, vi v0, vi v1] NP F I Q := by
  refine CallN_in (fun hok hA => CallN_out ?_)
  have iv0 : -2147483648 ≤ v0 ∧ v0 < 2147483648 := hok (vi v0) (by simp)
  have iv1 : -2147483648 ≤ v1 ∧ v1 < 2147483648 := hok (vi v1) (by simp)
  refine Call_wp (lv := [some (vr 235), some (vi v0), some (vi v1), none, none, none, none]) (by decide) ckX12_answered [] rfl rfl ?_
  refine ⟨⟨_, rfl, (by decide)⟩, ?_⟩
  refine Call_wp (lv := [some (vr 235), some (vi v0)]) (by decide) ckX12_end [] rfl rfl ?_
  refine ⟨⟨_, rfl, (by decide)⟩, ?_⟩
  refine r_of (p := v0) (f := 3) hF (j := (Int.toNat (307 + 66 * v0))) (by omega) (by omega) (by omega) (fun w1 hw2 => ?_)
  have r3 : 0 ≤ (I 236 (Int.toNat (307 + 66 * v0))) ∧ (I 236 (Int.toNat (307 + 66 * v0))) ≤ 12 := Pn_p3 (p := (Int.toNat v0)) (by omega) (by omega) (hR.n (Int.toNat (307 + 66 * v0)) (by omega))
  have hw2 : w1 = (I 236 (Int.toNat (307 + 66 * v0))) := hw2
  refine ⟨rfl, ?_⟩
  have n5 : (wr (w1 - 1)) = w1 - 1 := wr_id (show -2147483648 ≤ (w1 - 1 : Int) ∧ (w1 - 1 : Int) < 2147483648 from by omega)
  have n6 : (wr (10 * (wr (w1 - 1)))) = 10 * (wr (w1 - 1)) := wr_id (show -2147483648 ≤ (10 * (wr (w1 - 1)) : Int) ∧ (10 * (wr (w1 - 1)) : Int) < 2147483648 from by omega)
  refine ⟨fun (c7 : ((v1 : Int) ≤ (wr (10 * (wr (w1 - 1)))))) => ?_, fun (c7 : (¬ ((v1 : Int) ≤ (wr (10 * (wr (w1 - 1))))))) => ?_⟩
  ·
    refine ⟨(by decide), ?_⟩
    refine ⟨⟨_, rfl, (by decide)⟩, ?_⟩
    have n8 : (Int.tdiv v1 10) = (v1 : Int) / 10 := Int.tdiv_eq_ediv_of_nonneg (by omega)
    have n9 : (wr (Int.tdiv v1 10)) = (Int.tdiv v1 10) := wr_id (show -2147483648 ≤ ((Int.tdiv v1 10) : Int) ∧ ((Int.tdiv v1 10) : Int) < 2147483648 from by omega)
    have n10 : (wr (5 + (wr (Int.tdiv v1 10)))) = 5 + (wr (Int.tdiv v1 10)) := wr_id (show -2147483648 ≤ (5 + (wr (Int.tdiv v1 10)) : Int) ∧ (5 + (wr (Int.tdiv v1 10)) : Int) < 2147483648 from by omega)
    refine r_of (p := v0) (f := (wr (5 + (wr (Int.tdiv v1 10))))) hF (j := (Int.toNat (309 + (wr (Int.tdiv v1 10)) + 66 * v0))) (by omega) (by omega) (by omega) (fun w11 hw12 => ?_)
    have hw12 : w11 = (I 236 (Int.toNat (309 + (wr (Int.tdiv v1 10)) + 66 * v0))) := hw12
    refine ⟨⟨_, rfl, (by decide)⟩, ?_⟩
    refine Call_wp (lv := [some (vr 235), some (vi v0)]) (by decide) ckX12_end [] rfl rfl ?_
    refine ⟨⟨_, rfl, (by decide)⟩, ?_⟩
    refine r_of (p := v0) (f := 3) hF (j := (Int.toNat (307 + 66 * v0))) (by omega) (by omega) (by omega) (fun w13 hw14 => ?_)
    have hw14 : w13 = (I 236 (Int.toNat (307 + 66 * v0))) := hw14
    obtain rfl : w1 = w13 := hw2.trans hw14.symm
    refine ⟨rfl, ?_⟩
    refine ⟨fun (c15 : (¬ (v1 : Int) = (wr (10 * (wr (w1 - 1)))))) => ?_, fun (c15 : ((v1 : Int) = (wr (10 * (wr (w1 - 1)))))) => ?_⟩
    ·
      refine ⟨(by decide), ?_⟩
      refine ⟨⟨_, rfl, (by decide)⟩, ?_⟩
      have n16 : (wr ((wr (5 + (wr (Int.tdiv v1 10)))) + 1)) = (wr (5 + (wr (Int.tdiv v1 10)))) + 1 := wr_id (show -2147483648 ≤ ((wr (5 + (wr (Int.tdiv v1 10)))) + 1 : Int) ∧ ((wr (5 + (wr (Int.tdiv v1 10)))) + 1 : Int) < 2147483648 from by omega)
      refine r_of (p := v0) (f := (wr ((wr (5 + (wr (Int.tdiv v1 10)))) + 1))) hF (j := (Int.toNat (310 + (wr (Int.tdiv v1 10)) + 66 * v0))) (by omega) (by omega) (by omega) (fun w17 hw18 => ?_)
      have hw18 : w17 = (I 236 (Int.toNat (310 + (wr (Int.tdiv v1 10)) + 66 * v0))) := hw18
      refine ⟨(by decide), ?_⟩
      refine ⟨(by decide), ?_⟩
      refine ⟨⟨_, rfl, (by decide)⟩, ?_⟩
      refine r_of (p := v0) (f := 2) hF (j := (Int.toNat (306 + 66 * v0))) (by omega) (by omega) (by omega) (fun w19 hw20 => ?_)
      have hw20 : w19 = (I 236 (Int.toNat (306 + 66 * v0))) := hw20
      refine ⟨(by decide), ?_⟩
      refine ⟨⟨_, rfl, (by decide)⟩, ?_⟩
      refine r_of (p := v0) (f := 0) hF (j := (Int.toNat (304 + 66 * v0))) (by omega) (by omega) (by omega) (fun w21 hw22 => ?_)
      have r23 : 0 ≤ (I 236 (Int.toNat (304 + 66 * v0))) ∧ (I 236 (Int.toNat (304 + 66 * v0))) ≤ 5 := Pn_p0 (p := (Int.toNat v0)) (by omega) (by omega) (hR.n (Int.toNat (304 + 66 * v0)) (by omega))
      have hw22 : w21 = (I 236 (Int.toNat (304 + 66 * v0))) := hw22
      refine ⟨fun (c25 : (¬ (w21 : Int) = 2)) => ?_, fun (c25 : ((w21 : Int) = 2)) => ?_⟩
      ·
        refine ⟨fun (c26 : (¬ (w21 : Int) = 5)) => ?_, fun (c26 : ((w21 : Int) = 5)) => ?_⟩
        ·
          exact ⟨rfl, fun hv hA' => hQ _ (hv _ rfl)⟩
        ·
          refine ⟨(by decide), ?_⟩
          have a27 : -2147483648 ≤ (I 236 (Int.toNat (309 + (wr (Int.tdiv v1 10)) + 66 * v0))) ∧ (I 236 (Int.toNat (309 + (wr (Int.tdiv v1 10)) + 66 * v0))) < 2147483648 := hA.1 _ _
          have a28 : -2147483648 ≤ (I 236 (Int.toNat (310 + (wr (Int.tdiv v1 10)) + 66 * v0))) ∧ (I 236 (Int.toNat (310 + (wr (Int.tdiv v1 10)) + 66 * v0))) < 2147483648 := hA.1 _ _
          have a29 : -2147483648 ≤ (I 236 (Int.toNat (306 + 66 * v0))) ∧ (I 236 (Int.toNat (306 + 66 * v0))) < 2147483648 := hA.1 _ _
          have n30 : -2147483648 ≤ (wr (w17 - w11)) ∧ (wr (w17 - w11)) < 2147483648 := wr_R _
          have n31 : (Int.tmod v1 10) = (v1 : Int) % 10 := Int.tmod_eq_emod_of_nonneg (by omega)
          have n32 : -2147483648 ≤ (wr ((wr (w17 - w11)) * (Int.tmod v1 10))) ∧ (wr ((wr (w17 - w11)) * (Int.tmod v1 10))) < 2147483648 := wr_R _
          have n33 : -214748364 ≤ (Int.tdiv (wr ((wr (w17 - w11)) * (Int.tmod v1 10))) 10) ∧ (Int.tdiv (wr ((wr (w17 - w11)) * (Int.tmod v1 10))) 10) ≤ 214748364 := td_b (by decide) (by decide) (by omega) (by omega)
          have n34 : (wr (Int.tdiv (wr ((wr (w17 - w11)) * (Int.tmod v1 10))) 10)) = (Int.tdiv (wr ((wr (w17 - w11)) * (Int.tmod v1 10))) 10) := wr_id (show -2147483648 ≤ ((Int.tdiv (wr ((wr (w17 - w11)) * (Int.tmod v1 10))) 10) : Int) ∧ ((Int.tdiv (wr ((wr (w17 - w11)) * (Int.tmod v1 10))) 10) : Int) < 2147483648 from by omega)
          have n35 : -2147483648 ≤ (wr (w11 + (wr (Int.tdiv (wr ((wr (w17 - w11)) * (Int.tmod v1 10))) 10)))) ∧ (wr (w11 + (wr (Int.tdiv (wr ((wr (w17 - w11)) * (Int.tmod v1 10))) 10)))) < 2147483648 := wr_R _
          have n36 : -2147483648 ≤ (wr ((wr (w11 + (wr (Int.tdiv (wr ((wr (w17 - w11)) * (Int.tmod v1 10))) 10)))) * w19)) ∧ (wr ((wr (w11 + (wr (Int.tdiv (wr ((wr (w17 - w11)) * (Int.tmod v1 10))) 10)))) * w19)) < 2147483648 := wr_R _
          have n37 : -214748364 ≤ (Int.tdiv (wr ((wr (w11 + (wr (Int.tdiv (wr ((wr (w17 - w11)) * (Int.tmod v1 10))) 10)))) * w19)) 10) ∧ (Int.tdiv (wr ((wr (w11 + (wr (Int.tdiv (wr ((wr (w17 - w11)) * (Int.tmod v1 10))) 10)))) * w19)) 10) ≤ 214748364 := td_b (by decide) (by decide) (by omega) (by omega)
          have n38 : (wr (Int.tdiv (wr ((wr (w11 + (wr (Int.tdiv (wr ((wr (w17 - w11)) * (Int.tmod v1 10))) 10)))) * w19)) 10)) = (Int.tdiv (wr ((wr (w11 + (wr (Int.tdiv (wr ((wr (w17 - w11)) * (Int.tmod v1 10))) 10)))) * w19)) 10) := wr_id (show -2147483648 ≤ ((Int.tdiv (wr ((wr (w11 + (wr (Int.tdiv (wr ((wr (w17 - w11)) * (Int.tmod v1 10))) 10)))) * w19)) 10) : Int) ∧ ((Int.tdiv (wr ((wr (w11 + (wr (Int.tdiv (wr ((wr (w17 - w11)) * (Int.tmod v1 10))) 10)))) * w19)) 10) : Int) < 2147483648 from by omega)
          have n39 : -107374182 ≤ (Int.tdiv (wr (Int.tdiv (wr ((wr (w11 + (wr (Int.tdiv (wr ((wr (w17 - w11)) * (Int.tmod v1 10))) 10)))) * w19)) 10)) 2) ∧ (Int.tdiv (wr (Int.tdiv (wr ((wr (w11 + (wr (Int.tdiv (wr ((wr (w17 - w11)) * (Int.tmod v1 10))) 10)))) * w19)) 10)) 2) ≤ 107374182 := td_b (by decide) (by decide) (by omega) (by omega)
          have n40 : (wr (Int.tdiv (wr (Int.tdiv (wr ((wr (w11 + (wr (Int.tdiv (wr ((wr (w17 - w11)) * (Int.tmod v1 10))) 10)))) * w19)) 10)) 2)) = (Int.tdiv (wr (Int.tdiv (wr ((wr (w11 + (wr (Int.tdiv (wr ((wr (w17 - w11)) * (Int.tmod v1 10))) 10)))) * w19)) 10)) 2) := wr_id (show -2147483648 ≤ ((Int.tdiv (wr (Int.tdiv (wr ((wr (w11 + (wr (Int.tdiv (wr ((wr (w17 - w11)) * (Int.tmod v1 10))) 10)))) * w19)) 10)) 2) : Int) ∧ ((Int.tdiv (wr (Int.tdiv (wr ((wr (w11 + (wr (Int.tdiv (wr ((wr (w17 - w11)) * (Int.tmod v1 10))) 10)))) * w19)) 10)) 2) : Int) < 2147483648 from by omega)
          have n41 : (wr ((wr (Int.tdiv (wr (Int.tdiv (wr ((wr (w11 + (wr (Int.tdiv (wr ((wr (w17 - w11)) * (Int.tmod v1 10))) 10)))) * w19)) 10)) 2)) - 5)) = (wr (Int.tdiv (wr (Int.tdiv (wr ((wr (w11 + (wr (Int.tdiv (wr ((wr (w17 - w11)) * (Int.tmod v1 10))) 10)))) * w19)) 10)) 2)) - 5 := wr_id (show -2147483648 ≤ ((wr (Int.tdiv (wr (Int.tdiv (wr ((wr (w11 + (wr (Int.tdiv (wr ((wr (w17 - w11)) * (Int.tmod v1 10))) 10)))) * w19)) 10)) 2)) - 5 : Int) ∧ ((wr (Int.tdiv (wr (Int.tdiv (wr ((wr (w11 + (wr (Int.tdiv (wr ((wr (w17 - w11)) * (Int.tmod v1 10))) 10)))) * w19)) 10)) 2)) - 5 : Int) < 2147483648 from by omega)
          refine j_max (fun w42 h43 h44 h45 => ?_)
          exact ⟨rfl, fun hv hA' => hQ _ (hv _ rfl)⟩
      ·
        refine ⟨(by decide), ?_⟩
        exact ⟨rfl, fun hv hA' => hQ _ (hv _ rfl)⟩
    ·
      refine ⟨⟨_, rfl, (by decide)⟩, ?_⟩
      refine r_of (p := v0) (f := 2) hF (j := (Int.toNat (306 + 66 * v0))) (by omega) (by omega) (by omega) (fun w46 hw47 => ?_)
      have hw47 : w46 = (I 236 (Int.toNat (306 + 66 * v0))) := hw47
      refine ⟨(by decide), ?_⟩
      refine ⟨⟨_, rfl, (by decide)⟩, ?_⟩
      refine r_of (p := v0) (f := 0) hF (j := (Int.toNat (304 + 66 * v0))) (by omega) (by omega) (by omega) (fun w48 hw49 => ?_)
      have r50 : 0 ≤ (I 236 (Int.toNat (304 + 66 * v0))) ∧ (I 236 (Int.toNat (304 + 66 * v0))) ≤ 5 := Pn_p0 (p := (Int.toNat v0)) (by omega) (by omega) (hR.n (Int.toNat (304 + 66 * v0)) (by omega))
      have hw49 : w48 = (I 236 (Int.toNat (304 + 66 * v0))) := hw49
      refine ⟨fun (c52 : (¬ (w48 : Int) = 2)) => ?_, fun (c52 : ((w48 : Int) = 2)) => ?_⟩
      ·
        refine ⟨fun (c53 : (¬ (w48 : Int) = 5)) => ?_, fun (c53 : ((w48 : Int) = 5)) => ?_⟩
        ·
          exact ⟨rfl, fun hv hA' => hQ _ (hv _ rfl)⟩
        ·
          refine ⟨(by decide), ?_⟩
          have a54 : -2147483648 ≤ (I 236 (Int.toNat (309 + (wr (Int.tdiv v1 10)) + 66 * v0))) ∧ (I 236 (Int.toNat (309 + (wr (Int.tdiv v1 10)) + 66 * v0))) < 2147483648 := hA.1 _ _
          have a55 : -2147483648 ≤ (I 236 (Int.toNat (306 + 66 * v0))) ∧ (I 236 (Int.toNat (306 + 66 * v0))) < 2147483648 := hA.1 _ _
          have n56 : (wr (w11 + 0)) = w11 + 0 := wr_id (show -2147483648 ≤ (w11 + 0 : Int) ∧ (w11 + 0 : Int) < 2147483648 from by omega)
          have n57 : -2147483648 ≤ (wr ((wr (w11 + 0)) * w46)) ∧ (wr ((wr (w11 + 0)) * w46)) < 2147483648 := wr_R _
          have n58 : -214748364 ≤ (Int.tdiv (wr ((wr (w11 + 0)) * w46)) 10) ∧ (Int.tdiv (wr ((wr (w11 + 0)) * w46)) 10) ≤ 214748364 := td_b (by decide) (by decide) (by omega) (by omega)
          have n59 : (wr (Int.tdiv (wr ((wr (w11 + 0)) * w46)) 10)) = (Int.tdiv (wr ((wr (w11 + 0)) * w46)) 10) := wr_id (show -2147483648 ≤ ((Int.tdiv (wr ((wr (w11 + 0)) * w46)) 10) : Int) ∧ ((Int.tdiv (wr ((wr (w11 + 0)) * w46)) 10) : Int) < 2147483648 from by omega)
          have n60 : -107374182 ≤ (Int.tdiv (wr (Int.tdiv (wr ((wr (w11 + 0)) * w46)) 10)) 2) ∧ (Int.tdiv (wr (Int.tdiv (wr ((wr (w11 + 0)) * w46)) 10)) 2) ≤ 107374182 := td_b (by decide) (by decide) (by omega) (by omega)
          have n61 : (wr (Int.tdiv (wr (Int.tdiv (wr ((wr (w11 + 0)) * w46)) 10)) 2)) = (Int.tdiv (wr (Int.tdiv (wr ((wr (w11 + 0)) * w46)) 10)) 2) := wr_id (show -2147483648 ≤ ((Int.tdiv (wr (Int.tdiv (wr ((wr (w11 + 0)) * w46)) 10)) 2) : Int) ∧ ((Int.tdiv (wr (Int.tdiv (wr ((wr (w11 + 0)) * w46)) 10)) 2) : Int) < 2147483648 from by omega)
          have n62 : (wr ((wr (Int.tdiv (wr (Int.tdiv (wr ((wr (w11 + 0)) * w46)) 10)) 2)) - 5)) = (wr (Int.tdiv (wr (Int.tdiv (wr ((wr (w11 + 0)) * w46)) 10)) 2)) - 5 := wr_id (show -2147483648 ≤ ((wr (Int.tdiv (wr (Int.tdiv (wr ((wr (w11 + 0)) * w46)) 10)) 2)) - 5 : Int) ∧ ((wr (Int.tdiv (wr (Int.tdiv (wr ((wr (w11 + 0)) * w46)) 10)) 2)) - 5 : Int) < 2147483648 from by omega)
          refine j_max (fun w63 h64 h65 h66 => ?_)
          exact ⟨rfl, fun hv hA' => hQ _ (hv _ rfl)⟩
      ·
        refine ⟨(by decide), ?_⟩
        exact ⟨rfl, fun hv hA' => hQ _ (hv _ rfl)⟩
  ·
    exact ⟨rfl, fun hv hA' => hQ _ (hv _ rfl)⟩
theorem r_pieceIs_l (hF : FS F) (hR : Rg I) {v0 v1 : Int} (hp : 0 ≤ v0 ∧ v0 ≤ 13) (hw : 0 ≤ v1 ∧ v1 ≤ 5) (hQ : ∀ (r : Int) , Q (some (vi r)) F I) : ∀ (mz : Nat) (g i : Int) , ((0 : Int) ≤ i) → (24 - i).toNat < mz → GoN G (d + 3) kX12_pieceIs NP NP 30 [some (vr 235), some (vi v0), some (vi v1), some (vi g), some (vi i)] [] F I Q := by
  intro mz
  induction mz with
  | zero => intro g i _ h; exact absurd h (Nat.not_lt_zero _)
  | succ mz ih =>
    intro g i c100 hm
    refine GoN_in (fun hok hA => ?_)
    have iiv0 : -2147483648 ≤ v0 ∧ v0 < 2147483648 := hok 1 _ rfl
    have iiv1 : -2147483648 ≤ v1 ∧ v1 < 2147483648 := hok 2 _ rfl
    have iig : -2147483648 ≤ g ∧ g < 2147483648 := hok 3 _ rfl
    have iii : -2147483648 ≤ i ∧ i < 2147483648 := hok 4 _ rfl
    refine Go_wp (by decide) ckX12_pieceIs [30] ?_
    refine ⟨⟨_, rfl, (by decide)⟩, ?_⟩
    refine Call_wp (lv := [some (vr 235), some (vi v0)]) (by decide) ckX12_many [] rfl rfl ?_
    refine ⟨⟨_, rfl, (by decide)⟩, ?_⟩
    refine r_of (p := v0) (f := 4) hF (j := (Int.toNat (308 + 66 * v0))) (by omega) (by omega) (by omega) (fun w1 hw2 => ?_)
    have r3 : 0 ≤ (I 236 (Int.toNat (308 + 66 * v0))) ∧ (I 236 (Int.toNat (308 + 66 * v0))) ≤ 24 := Pn_p4 (p := (Int.toNat v0)) (by omega) (by omega) (hR.n (Int.toNat (308 + 66 * v0)) (by omega))
    have hw2 : w1 = (I 236 (Int.toNat (308 + 66 * v0))) := hw2
    refine ⟨rfl, ?_⟩
    refine ⟨fun (c5 : ((w1 : Int) ≤ i)) => ?_, fun (c5 : (¬ ((w1 : Int) ≤ i))) => ?_⟩
    ·
      refine ⟨fun (c6 : ((5 : Int) ≤ v1)) => ?_, fun (c6 : (¬ ((5 : Int) ≤ v1))) => ?_⟩
      ·
        exact ⟨rfl, hQ _⟩
      ·
        refine ⟨⟨_, rfl, (by decide)⟩, ?_⟩
        refine r_of (p := v0) (f := v1) hF (j := (Int.toNat (304 + 66 * v0 + v1))) (by omega) (by omega) (by omega) (fun w7 hw8 => ?_)
        have hw8 : w7 = (I 236 (Int.toNat (304 + 66 * v0 + v1))) := hw8
        exact ⟨rfl, hQ _⟩
    ·
      refine ⟨⟨_, rfl, (by decide)⟩, ?_⟩
      refine Call_wp (lv := [some (vr 235), some (vi v0), some (vi i)]) (by decide) ckX12_isGood [] rfl rfl ?_
      refine ⟨⟨_, rfl, (by decide)⟩, ?_⟩
      refine Call_wp (lv := [some (vr 235), some (vi v0), some (vi i)]) (by decide) ckX12_load [] rfl rfl ?_
      refine ⟨⟨_, rfl, (by decide)⟩, ?_⟩
      have n9 : (wr (2 * i)) = 2 * i := wr_id (show -2147483648 ≤ (2 * i : Int) ∧ (2 * i : Int) < 2147483648 from by omega)
      have n10 : (wr (17 + (wr (2 * i)))) = 17 + (wr (2 * i)) := wr_id (show -2147483648 ≤ (17 + (wr (2 * i)) : Int) ∧ (17 + (wr (2 * i)) : Int) < 2147483648 from by omega)
      have n11 : (wr ((wr (17 + (wr (2 * i)))) + 1)) = (wr (17 + (wr (2 * i)))) + 1 := wr_id (show -2147483648 ≤ ((wr (17 + (wr (2 * i)))) + 1 : Int) ∧ ((wr (17 + (wr (2 * i)))) + 1 : Int) < 2147483648 from by omega)
      refine r_of (p := v0) (f := (wr ((wr (17 + (wr (2 * i)))) + 1))) hF (j := (Int.toNat (322 + 2 * i + 66 * v0))) (by omega) (by omega) (by omega) (fun w12 hw13 => ?_)
      have hw13 : w12 = (I 236 (Int.toNat (322 + 2 * i + 66 * v0))) := hw13
      refine ⟨rfl, ?_⟩
      have a14 : -2147483648 ≤ (I 236 (Int.toNat (322 + 2 * i + 66 * v0))) ∧ (I 236 (Int.toNat (322 + 2 * i + 66 * v0))) < 2147483648 := hA.1 _ _
      refine ⟨fun (c15 : ((w12 : Int) < 0)) => ?_, fun (c15 : (¬ ((w12 : Int) < 0))) => ?_⟩
      ·
        refine ⟨rfl, (by decide), ?_⟩
        refine ⟨fun _ => ?_, fun c => absurd (show ((0 : Int) = 0) from by decide) c⟩
        have n16 : (wr (g + 0)) = g + 0 := wr_id (show -2147483648 ≤ (g + 0 : Int) ∧ (g + 0 : Int) < 2147483648 from by omega)
        have n17 : (wr (i + 1)) = i + 1 := wr_id (show -2147483648 ≤ (i + 1 : Int) ∧ (i + 1 : Int) < 2147483648 from by omega)
        exact ih (wr (g + 0)) (wr (i + 1))  (show (0 : Int) ≤ (wr (i + 1)) from by first | with_reducible assumption | omega | (simp only [wr, wl] at *; omega)) (show (24 - (wr (i + 1))).toNat < mz from by omega)
      ·
        refine ⟨rfl, (by decide), ?_⟩
        refine ⟨fun c => absurd c (show (¬ ((1 : Int) = 0)) from by decide), fun _ => ?_⟩
        have n18 : -2147483648 ≤ (wr (g + 1)) ∧ (wr (g + 1)) < 2147483648 := wr_R _
        have n19 : (wr (i + 1)) = i + 1 := wr_id (show -2147483648 ≤ (i + 1 : Int) ∧ (i + 1 : Int) < 2147483648 from by omega)
        exact ih (wr (g + 1)) (wr (i + 1))  (show (0 : Int) ≤ (wr (i + 1)) from by first | with_reducible assumption | omega | (simp only [wr, wl] at *; omega)) (show (24 - (wr (i + 1))).toNat < mz from by omega)
theorem r_pieceIs (hF : FS F) (hR : Rg I) {v0 v1 : Int}  (hQ : ∀ (r : Int) (I' : pI), Rg I' → AR I' → iR r → (∀ k j, ¬ (k = 238) → I' k j = I k j) → Q (some (vi r)) F I') : CallN G (d + 3) kX12_pieceIs [vr 235, vi v0, vi v1] NP F I Q := by
  refine CallN_in (fun hok hA => CallN_out ?_)
  have iv0 : -2147483648 ≤ v0 ∧ v0 < 2147483648 := hok (vi v0) (by simp)
  have iv1 : -2147483648 ≤ v1 ∧ v1 < 2147483648 := hok (vi v1) (by simp)
  refine Call_wp (lv := [some (vr 235), some (vi v0), some (vi v1), none, none]) (by decide) ckX12_pieceIs [30] rfl rfl ?_
  refine ⟨⟨_, rfl, (by decide)⟩, ?_⟩
  have r1 : 0 ≤ (I 236 0) ∧ (I 236 0) ≤ 14 := Rg.n0 hR
  refine s_X12_is hF (w := 0) (by decide) (show 0 ≤ (I 236 0) ∧ (I 236 0) < 1000000 from by omega) (fun (w2 : (0 ≤ v0 ∧ v0 < (I 236 0))) => ?_) (fun (w2 : ¬ (0 ≤ v0 ∧ v0 < (I 236 0))) => ?_)
  ·
    refine ⟨fun c => absurd c (show (¬ ((1 : Int) = 0)) from by decide), fun _ => ?_⟩
    refine s_X12_within (fun (w3 : ((0 : Int) ≤ v1 ∧ (v1 : Int) ≤ 5)) => ?_) (fun (w3 : ¬ ((0 : Int) ≤ v1 ∧ (v1 : Int) ≤ 5)) => ?_)
    ·
      refine ⟨fun _ => ?_, fun c => absurd c (show (¬ (1 : Int) = 0) from by decide)⟩
      refine r_pieceIs_l hF hR (by omega) (by omega) (fun r hv hA' => hQ _ _ hR hA' (hv _ rfl) (fun _ _ _ => rfl)) _ 0 0  (show (0 : Int) ≤ (0 : Int) from Int.le_refl _) (Nat.lt_succ_self _)
    ·
      refine ⟨fun c => absurd (show ((0 : Int) = 0) from by decide) c, fun _ => ?_⟩
      refine ⟨⟨_, rfl, (by decide)⟩, ?_⟩
      refine s_X12_finding hF (v := (-1000001)) (by decide) ?_
      exact ⟨rfl, fun hv hA' => hQ _ _ (Rg.u hR (Pr_f rfl)) hA' (hv _ rfl) (fun ka ja hk => (uI_o (show ¬ (ka = 238 ∧ ja = 1) from by first | (intro e; obtain ⟨rfl, rfl⟩ := e; exact hk (by decide)) | omega)))⟩
  ·
    refine ⟨fun _ => ?_, fun c => absurd (show ((0 : Int) = 0) from by decide) c⟩
    refine ⟨⟨_, rfl, (by decide)⟩, ?_⟩
    refine s_X12_finding hF (v := (-1000001)) (by decide) ?_
    exact ⟨rfl, fun hv hA' => hQ _ _ (Rg.u hR (Pr_f rfl)) hA' (hv _ rfl) (fun ka ja hk => (uI_o (show ¬ (ka = 238 ∧ ja = 1) from by first | (intro e; obtain ⟨rfl, rfl⟩ := e; exact hk (by decide)) | omega)))⟩
theorem r_as_l (hF : FS F) (hR : Rg I) {v0 v1 : Int} (hp : 0 ≤ v0 ∧ v0 ≤ 13) (hw : 0 ≤ v1 ∧ v1 ≤ 5) (hQ : ∀ (r : Int) (I' : pI), Rg I' → (∀ k j, ¬ (k = 238) → I' k j = I k j) → Q (some (vi r)) F I') : ∀ (mz : Nat) (k : Int) (J : pI), Rg J → (∀ k j, ¬ (k = 238) → J k j = I k j) → (((-1) : Int) ≤ k) → ((k : Int) ≤ 5) → (k + 1).toNat < mz → GoN G (d + 1) kX12_as NP NP 32 [some (vr 235), some (vi v0), some (vi v1), some (vi k)] [] F J Q := by
  intro mz
  induction mz with
  | zero => intro k J hJ hV _ _ h; exact absurd h (Nat.not_lt_zero _)
  | succ mz ih =>
    intro k J hJ hV c100 c101 hm
    refine GoN_in (fun hok hA => ?_)
    have iiv0 : -2147483648 ≤ v0 ∧ v0 < 2147483648 := hok 1 _ rfl
    have iiv1 : -2147483648 ≤ v1 ∧ v1 < 2147483648 := hok 2 _ rfl
    have iik : -2147483648 ≤ k ∧ k < 2147483648 := hok 3 _ rfl
    refine Go_wp (by decide) ckX12_as [32] ?_
    refine ⟨fun (c1 : ((k : Int) < 0)) => ?_, fun (c1 : (¬ ((k : Int) < 0))) => ?_⟩
    ·
      refine ⟨fun c => absurd c (show (¬ ((0 : Int) ≤ k)) from by first | omega | (simp only [wr, wl] at *; omega)), fun _ => ?_⟩
      refine ⟨⟨_, rfl, (by decide)⟩, ?_⟩
      refine s_X12_finding hF (v := (-1000005)) (by decide) ?_
      exact ⟨rfl, hQ _ _ (Rg.u hJ (Pr_f rfl)) (fun ka ja hk => ((uI_o (show ¬ (ka = 238 ∧ ja = 5) from by first | (intro e; obtain ⟨rfl, rfl⟩ := e; exact hk (by decide)) | omega))).trans ((hV ka ja (by omega))))⟩
    ·
      refine ⟨fun (c2 : ((k : Int) = v1)) => ?_, fun (c2 : (¬ ((k : Int) = v1))) => ?_⟩
      ·
        refine ⟨fun _ => ?_, fun c => absurd (show ((0 : Int) ≤ k) from by first | with_reducible assumption | omega | (simp only [wr, wl] at *; omega)) c⟩
        refine ⟨⟨_, rfl, (by decide)⟩, ?_⟩
        refine r_of (p := v0) (f := 2) hF (j := (Int.toNat (306 + 66 * v0))) (by omega) (by omega) (by omega) (fun w3 hw4 => ?_)
        have u5 : (J 236 (Int.toNat (306 + 66 * v0))) = (I 236 (Int.toNat (306 + 66 * v0))) := hV _ _ (by first | decide | omega)
        have a6 : -2147483648 ≤ (J 236 (Int.toNat (306 + 66 * v0))) ∧ (J 236 (Int.toNat (306 + 66 * v0))) < 2147483648 := hA.1 _ _
        have hw4 : w3 = (J 236 (Int.toNat (306 + 66 * v0))) := hw4
        exact ⟨rfl, hQ _ _ hJ (fun ka ja hk => (hV ka ja (by omega)))⟩
      ·
        refine Call_wp (lv := [some (vi k)]) (by decide) ckX12_above [] rfl rfl ?_
        refine ⟨fun (c7 : (¬ (k : Int) = 0)) => ?_, fun (c7 : ((k : Int) = 0)) => ?_⟩
        ·
          refine ⟨fun (c8 : (¬ (k : Int) = 3)) => ?_, fun (c8 : ((k : Int) = 3)) => ?_⟩
          ·
            refine ⟨fun (c9 : (¬ (k : Int) = 5)) => ?_, fun (c9 : ((k : Int) = 5)) => ?_⟩
            ·
              refine ⟨rfl, ?_⟩
              exact ih 0 J hJ (fun ka ja hk => (hV ka ja (by omega))) (show ((-1) : Int) ≤ (0 : Int) from by first | with_reducible assumption | omega | (simp only [wr, wl] at *; omega)) (show ((0 : Int) : Int) ≤ 5 from by first | with_reducible assumption | omega | (simp only [wr, wl] at *; omega)) (show ((0 : Int) + 1).toNat < mz from by omega)
            ·
              refine ⟨rfl, ?_⟩
              exact ih 2 J hJ (fun ka ja hk => (hV ka ja (by omega))) (show ((-1) : Int) ≤ (2 : Int) from by first | with_reducible assumption | omega | (simp only [wr, wl] at *; omega)) (show ((2 : Int) : Int) ≤ 5 from by first | with_reducible assumption | omega | (simp only [wr, wl] at *; omega)) (show ((2 : Int) + 1).toNat < mz from by omega)
          ·
            refine ⟨rfl, ?_⟩
            exact ih 1 J hJ (fun ka ja hk => (hV ka ja (by omega))) (show ((-1) : Int) ≤ (1 : Int) from by first | with_reducible assumption | omega | (simp only [wr, wl] at *; omega)) (show ((1 : Int) : Int) ≤ 5 from by first | with_reducible assumption | omega | (simp only [wr, wl] at *; omega)) (show ((1 : Int) + 1).toNat < mz from by omega)
        ·
          refine ⟨rfl, ?_⟩
          exact ih (-1) J hJ (fun ka ja hk => (hV ka ja (by omega))) (show ((-1) : Int) ≤ ((-1) : Int) from Int.le_refl _) (show (((-1) : Int) : Int) ≤ 5 from by first | with_reducible assumption | omega | (simp only [wr, wl] at *; omega)) (show (((-1) : Int) + 1).toNat < mz from by omega)
theorem r_as (hF : FS F) (hR : Rg I) {v0 v1 : Int}  (hQ : ∀ (r : Int) (I' : pI), Rg I' → AR I' → iR r → (∀ k j, ¬ (k = 238) → I' k j = I k j) → Q (some (vi r)) F I') : CallN G (d + 2) kX12_as [vr 235, vi v0, vi v1] NP F I Q := by
  refine CallN_in (fun hok hA => CallN_out ?_)
  have iv0 : -2147483648 ≤ v0 ∧ v0 < 2147483648 := hok (vi v0) (by simp)
  have iv1 : -2147483648 ≤ v1 ∧ v1 < 2147483648 := hok (vi v1) (by simp)
  refine Call_wp (lv := [some (vr 235), some (vi v0), some (vi v1), none]) (by decide) ckX12_as [32] rfl rfl ?_
  refine ⟨⟨_, rfl, (by decide)⟩, ?_⟩
  have r1 : 0 ≤ (I 236 0) ∧ (I 236 0) ≤ 14 := Rg.n0 hR
  refine s_X12_is hF (w := 0) (by decide) (show 0 ≤ (I 236 0) ∧ (I 236 0) < 1000000 from by omega) (fun (w2 : (0 ≤ v0 ∧ v0 < (I 236 0))) => ?_) (fun (w2 : ¬ (0 ≤ v0 ∧ v0 < (I 236 0))) => ?_)
  ·
    refine ⟨fun c => absurd c (show (¬ ((1 : Int) = 0)) from by decide), fun _ => ?_⟩
    refine s_X12_within (fun (w3 : ((0 : Int) ≤ v1 ∧ (v1 : Int) ≤ 5)) => ?_) (fun (w3 : ¬ ((0 : Int) ≤ v1 ∧ (v1 : Int) ≤ 5)) => ?_)
    ·
      refine ⟨fun _ => ?_, fun c => absurd c (show (¬ (1 : Int) = 0) from by decide)⟩
      refine ⟨⟨_, rfl, (by decide)⟩, ?_⟩
      refine r_of (p := v0) (f := 0) hF (j := (Int.toNat (304 + 66 * v0))) (by omega) (by omega) (by omega) (fun w4 hw5 => ?_)
      have r6 : 0 ≤ (I 236 (Int.toNat (304 + 66 * v0))) ∧ (I 236 (Int.toNat (304 + 66 * v0))) ≤ 5 := Pn_p0 (p := (Int.toNat v0)) (by omega) (by omega) (hR.n (Int.toNat (304 + 66 * v0)) (by omega))
      have hw5 : w4 = (I 236 (Int.toNat (304 + 66 * v0))) := hw5
      refine r_as_l hF hR (by omega) (by omega) (fun r I' g1 g2 hv hA' => hQ _ _ g1 hA' (hv _ rfl) g2) _ w4 I hR (fun _ _ _ => rfl) (show ((-1) : Int) ≤ w4 from by first | with_reducible assumption | omega | (simp only [wr, wl] at *; omega)) (show (w4 : Int) ≤ 5 from by first | with_reducible assumption | omega | (simp only [wr, wl] at *; omega)) (Nat.lt_succ_self _)
    ·
      refine ⟨fun c => absurd (show ((0 : Int) = 0) from by decide) c, fun _ => ?_⟩
      refine ⟨⟨_, rfl, (by decide)⟩, ?_⟩
      refine s_X12_finding hF (v := (-1000001)) (by decide) ?_
      exact ⟨rfl, fun hv hA' => hQ _ _ (Rg.u hR (Pr_f rfl)) hA' (hv _ rfl) (fun ka ja hk => (uI_o (show ¬ (ka = 238 ∧ ja = 1) from by first | (intro e; obtain ⟨rfl, rfl⟩ := e; exact hk (by decide)) | omega)))⟩
  ·
    refine ⟨fun _ => ?_, fun c => absurd (show ((0 : Int) = 0) from by decide) c⟩
    refine ⟨⟨_, rfl, (by decide)⟩, ?_⟩
    refine s_X12_finding hF (v := (-1000001)) (by decide) ?_
    exact ⟨rfl, fun hv hA' => hQ _ _ (Rg.u hR (Pr_f rfl)) hA' (hv _ rfl) (fun ka ja hk => (uI_o (show ¬ (ka = 238 ∧ ja = 1) from by first | (intro e; obtain ⟨rfl, rfl⟩ := e; exact hk (by decide)) | omega)))⟩
theorem r_answer (hF : FS F) (hR : Rg I) {v0 v1 : Int}  (hQ : ∀ (r : Int) (I' : pI), Rg I' → AR I' → iR r → (∀ k j, ¬ (k = 238) → I' k j = I k j) → Q (some (vi r)) F I') : CallN G (d + 3) kX12_answer [vr 235, vi v0, vi v1] NP F I Q := by
  refine CallN_in (fun hok hA => CallN_out ?_)
  have iv0 : -2147483648 ≤ v0 ∧ v0 < 2147483648 := hok (vi v0) (by simp)
  have iv1 : -2147483648 ≤ v1 ∧ v1 < 2147483648 := hok (vi v1) (by simp)
  refine Call_wp (lv := [some (vr 235), some (vi v0), some (vi v1)]) (by decide) ckX12_answer [] rfl rfl ?_
  refine ⟨⟨_, rfl, (by decide)⟩, ?_⟩
  have r1 : 0 ≤ (I 236 0) ∧ (I 236 0) ≤ 14 := Rg.n0 hR
  refine s_X12_is hF (w := 0) (by decide) (show 0 ≤ (I 236 0) ∧ (I 236 0) < 1000000 from by omega) (fun (w2 : (0 ≤ v0 ∧ v0 < (I 236 0))) => ?_) (fun (w2 : ¬ (0 ≤ v0 ∧ v0 < (I 236 0))) => ?_)
  ·
    refine ⟨fun c => absurd c (show (¬ ((1 : Int) = 0)) from by decide), fun _ => ?_⟩
    refine s_X12_within (fun (w3 : ((0 : Int) ≤ v1 ∧ (v1 : Int) ≤ 999)) => ?_) (fun (w3 : ¬ ((0 : Int) ≤ v1 ∧ (v1 : Int) ≤ 999)) => ?_)
    ·
      refine ⟨fun c => absurd c (show (¬ ((1 : Int) = 0)) from by decide), fun _ => ?_⟩
      refine ⟨⟨_, rfl, (by decide)⟩, ?_⟩
      refine r_answered (v0 := v0) (v1 := v1) hF hR (by omega) (by omega) (fun vr4 hr5 => ?_)
      have hr5 : -2147483648 ≤ vr4 ∧ vr4 < 2147483648 := hr5
      exact ⟨rfl, fun hv hA' => hQ _ _ hR hA' (hv _ rfl) (fun _ _ _ => rfl)⟩
    ·
      refine ⟨fun _ => ?_, fun c => absurd (show ((0 : Int) = 0) from by decide) c⟩
      refine ⟨⟨_, rfl, (by decide)⟩, ?_⟩
      refine s_X12_finding hF (v := (-1000001)) (by decide) ?_
      exact ⟨rfl, fun hv hA' => hQ _ _ (Rg.u hR (Pr_f rfl)) hA' (hv _ rfl) (fun ka ja hk => (uI_o (show ¬ (ka = 238 ∧ ja = 1) from by first | (intro e; obtain ⟨rfl, rfl⟩ := e; exact hk (by decide)) | omega)))⟩
  ·
    refine ⟨fun _ => ?_, fun c => absurd (show ((0 : Int) = 0) from by decide) c⟩
    refine ⟨⟨_, rfl, (by decide)⟩, ?_⟩
    refine s_X12_finding hF (v := (-1000001)) (by decide) ?_
    exact ⟨rfl, fun hv hA' => hQ _ _ (Rg.u hR (Pr_f rfl)) hA' (hv _ rfl) (fun ka ja hk => (uI_o (show ¬ (ka = 238 ∧ ja = 1) from by first | (intro e; obtain ⟨rfl, rfl⟩ := e; exact hk (by decide)) | omega)))⟩
theorem r_reading (hF : FS F) (hR : Rg I) {v0 v1 v2 : Int}  (hQ : ∀ (r : Int) (I' : pI), Rg I' → AR I' → iR r → (∀ k j, ¬ (k = 238) → I' k j = I k j) → Q (some (vi r)) F I') : CallN G (d + 2) kX12_reading [vr 235, vi v0, vi v1, vi v2] NP F I Q := by
  refine CallN_in (fun hok hA => CallN_out ?_)
  have iv0 : -2147483648 ≤ v0 ∧ v0 < 2147483648 := hok (vi v0) (by simp)
  have iv1 : -2147483648 ≤ v1 ∧ v1 < 2147483648 := hok (vi v1) (by simp)
  have iv2 : -2147483648 ≤ v2 ∧ v2 < 2147483648 := hok (vi v2) (by simp)
  refine Call_wp (lv := [some (vr 235), some (vi v0), some (vi v1), some (vi v2)]) (by decide) ckX12_reading [] rfl rfl ?_
  refine ⟨⟨_, rfl, (by decide)⟩, ?_⟩
  have r1 : 0 ≤ (I 236 0) ∧ (I 236 0) ≤ 14 := Rg.n0 hR
  refine s_X12_is hF (w := 0) (by decide) (show 0 ≤ (I 236 0) ∧ (I 236 0) < 1000000 from by omega) (fun (w2 : (0 ≤ v0 ∧ v0 < (I 236 0))) => ?_) (fun (w2 : ¬ (0 ≤ v0 ∧ v0 < (I 236 0))) => ?_)
  ·
    refine ⟨fun c => absurd c (show (¬ ((1 : Int) = 0)) from by decide), fun _ => ?_⟩
    refine ⟨⟨_, rfl, (by decide)⟩, ?_⟩
    refine Call_wp (lv := [some (vr 235), some (vi v0)]) (by decide) ckX12_many [] rfl rfl ?_
    refine ⟨⟨_, rfl, (by decide)⟩, ?_⟩
    refine r_of (p := v0) (f := 4) hF (j := (Int.toNat (308 + 66 * v0))) (by omega) (by omega) (by omega) (fun w3 hw4 => ?_)
    have r5 : 0 ≤ (I 236 (Int.toNat (308 + 66 * v0))) ∧ (I 236 (Int.toNat (308 + 66 * v0))) ≤ 24 := Pn_p4 (p := (Int.toNat v0)) (by omega) (by omega) (hR.n (Int.toNat (308 + 66 * v0)) (by omega))
    have hw4 : w3 = (I 236 (Int.toNat (308 + 66 * v0))) := hw4
    refine ⟨rfl, ?_⟩
    have n7 : (wr (w3 - 1)) = w3 - 1 := wr_id (show -2147483648 ≤ (w3 - 1 : Int) ∧ (w3 - 1 : Int) < 2147483648 from by omega)
    refine s_X12_within (fun (w8 : ((0 : Int) ≤ v1 ∧ (v1 : Int) ≤ (wr (w3 - 1)))) => ?_) (fun (w8 : ¬ ((0 : Int) ≤ v1 ∧ (v1 : Int) ≤ (wr (w3 - 1)))) => ?_)
    ·
      refine ⟨fun c => absurd c (show (¬ ((1 : Int) = 0)) from by decide), fun _ => ?_⟩
      refine s_X12_within (fun (w9 : ((0 : Int) ≤ v2 ∧ (v2 : Int) ≤ 1)) => ?_) (fun (w9 : ¬ ((0 : Int) ≤ v2 ∧ (v2 : Int) ≤ 1)) => ?_)
      ·
        refine ⟨fun _ => ?_, fun c => absurd c (show (¬ (1 : Int) = 0) from by decide)⟩
        refine ⟨fun (c10 : (¬ (v2 : Int) = 0)) => ?_, fun (c10 : ((v2 : Int) = 0)) => ?_⟩
        ·
          refine ⟨⟨_, rfl, (by decide)⟩, ?_⟩
          refine Call_wp (lv := [some (vr 235), some (vi v0), some (vi v1)]) (by decide) ckX12_load [] rfl rfl ?_
          refine ⟨⟨_, rfl, (by decide)⟩, ?_⟩
          have n11 : (wr (2 * v1)) = 2 * v1 := wr_id (show -2147483648 ≤ (2 * v1 : Int) ∧ (2 * v1 : Int) < 2147483648 from by omega)
          have n12 : (wr (17 + (wr (2 * v1)))) = 17 + (wr (2 * v1)) := wr_id (show -2147483648 ≤ (17 + (wr (2 * v1)) : Int) ∧ (17 + (wr (2 * v1)) : Int) < 2147483648 from by omega)
          have n13 : (wr ((wr (17 + (wr (2 * v1)))) + 1)) = (wr (17 + (wr (2 * v1)))) + 1 := wr_id (show -2147483648 ≤ ((wr (17 + (wr (2 * v1)))) + 1 : Int) ∧ ((wr (17 + (wr (2 * v1)))) + 1 : Int) < 2147483648 from by omega)
          refine r_of (p := v0) (f := (wr ((wr (17 + (wr (2 * v1)))) + 1))) hF (j := (Int.toNat (322 + 66 * v0 + 2 * v1))) (by omega) (by omega) (by omega) (fun w14 hw15 => ?_)
          have hw15 : w14 = (I 236 (Int.toNat (322 + 66 * v0 + 2 * v1))) := hw15
          refine ⟨rfl, ?_⟩
          exact ⟨rfl, fun hv hA' => hQ _ _ hR hA' (hv _ rfl) (fun _ _ _ => rfl)⟩
        ·
          refine ⟨⟨_, rfl, (by decide)⟩, ?_⟩
          refine Call_wp (lv := [some (vr 235), some (vi v0), some (vi v1)]) (by decide) ckX12_stretch [] rfl rfl ?_
          refine ⟨⟨_, rfl, (by decide)⟩, ?_⟩
          have n16 : (wr (2 * v1)) = 2 * v1 := wr_id (show -2147483648 ≤ (2 * v1 : Int) ∧ (2 * v1 : Int) < 2147483648 from by omega)
          have n17 : (wr (17 + (wr (2 * v1)))) = 17 + (wr (2 * v1)) := wr_id (show -2147483648 ≤ (17 + (wr (2 * v1)) : Int) ∧ (17 + (wr (2 * v1)) : Int) < 2147483648 from by omega)
          refine r_of (p := v0) (f := (wr (17 + (wr (2 * v1))))) hF (j := (Int.toNat (321 + 66 * v0 + 2 * v1))) (by omega) (by omega) (by omega) (fun w18 hw19 => ?_)
          have hw19 : w18 = (I 236 (Int.toNat (321 + 66 * v0 + 2 * v1))) := hw19
          refine ⟨rfl, ?_⟩
          exact ⟨rfl, fun hv hA' => hQ _ _ hR hA' (hv _ rfl) (fun _ _ _ => rfl)⟩
      ·
        refine ⟨fun c => absurd (show ((0 : Int) = 0) from by decide) c, fun _ => ?_⟩
        refine ⟨⟨_, rfl, (by decide)⟩, ?_⟩
        refine s_X12_finding hF (v := (-1000001)) (by decide) ?_
        exact ⟨rfl, fun hv hA' => hQ _ _ (Rg.u hR (Pr_f rfl)) hA' (hv _ rfl) (fun ka ja hk => (uI_o (show ¬ (ka = 238 ∧ ja = 1) from by first | (intro e; obtain ⟨rfl, rfl⟩ := e; exact hk (by decide)) | omega)))⟩
    ·
      refine ⟨fun _ => ?_, fun c => absurd (show ((0 : Int) = 0) from by decide) c⟩
      refine ⟨⟨_, rfl, (by decide)⟩, ?_⟩
      refine s_X12_finding hF (v := (-1000001)) (by decide) ?_
      exact ⟨rfl, fun hv hA' => hQ _ _ (Rg.u hR (Pr_f rfl)) hA' (hv _ rfl) (fun ka ja hk => (uI_o (show ¬ (ka = 238 ∧ ja = 1) from by first | (intro e; obtain ⟨rfl, rfl⟩ := e; exact hk (by decide)) | omega)))⟩
  ·
    refine ⟨fun _ => ?_, fun c => absurd (show ((0 : Int) = 0) from by decide) c⟩
    refine ⟨⟨_, rfl, (by decide)⟩, ?_⟩
    refine s_X12_finding hF (v := (-1000001)) (by decide) ?_
    exact ⟨rfl, fun hv hA' => hQ _ _ (Rg.u hR (Pr_f rfl)) hA' (hv _ rfl) (fun ka ja hk => (uI_o (show ¬ (ka = 238 ∧ ja = 1) from by first | (intro e; obtain ⟨rfl, rfl⟩ := e; exact hk (by decide)) | omega)))⟩
end RB
