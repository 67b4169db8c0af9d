/-! the machine of the class, from any state. Own work (scripts laid by wip/pm/gen31.py). -/
section CM
variable {G : pG} {d : Nat} {F : pF} {I : pI} {Q : Option pV → pF → pI → Prop}
theorem c_mload (hF : FS F) (hR : Rg I) {q : Nat} (hq : F 208 2 = some q) (hp : PP F q) (hQ : ∀ r : Int, iR r → Q (some (vi r)) F I) : CallN G (d + 3) kX1_load [vr 208] NP F I Q := by
  refine CallN_in (fun hok hA => CallN_out ?_)
  refine Call_wp (lv := [some (vr 208)]) (by decide) ckX1_load [] rfl rfl ?_
  refine ⟨_, rfl, (by decide), ?_⟩
  have a1 : -2147483648 ≤ (I 208 13) ∧ (I 208 13) < 2147483648 := hA.1 _ _
  refine ⟨fun (c2 : (((I 208 13) : Int) = 0)) => ?_, fun (c2 : (¬ (((I 208 13) : Int) = 0))) => ?_⟩
  ·
    refine ⟨_, rfl, (by decide), ?_⟩
    refine fun w0 hw0 => ?_; obtain rfl : w0 = some q := hw0.symm.trans hq
    refine ⟨_, rfl, (by decide), ?_⟩
    refine ⟨⟨_, hp.1.1, (by have := hp.2; show _ < 254; omega)⟩, ?_⟩
    have a3 : -2147483648 ≤ (I 208 8) ∧ (I 208 8) < 2147483648 := hA.1 _ _
    refine c_pload (v0 := (I 208 8)) hF hR hp (fun vr4 hr5 => ?_)
    have hr5 : -2147483648 ≤ vr4 ∧ vr4 < 2147483648 := hr5
    exact ⟨rfl, fun hv hA' => hQ _ (hv _ rfl)⟩
  ·
    exact ⟨rfl, fun hv hA' => hQ _ (hv _ rfl)⟩
theorem c_creeps (hF : FS F) (hR : Rg I) {q : Nat} (hq : F 208 2 = some q) (hp : PP F q) (hQ : ∀ (r : Int) (I' : pI), Rg I' → AR I' → iR r → (∀ k j, ¬ (k = 208 ∧ j = 9) → I' k j = I k j) → (0 ≤ r ∧ r ≤ 1) → Q (some (vi r)) F I') : CallN G (d + 2) kX1_creeps [vr 208] NP F I Q := by
  refine CallN_in (fun hok hA => CallN_out ?_)
  refine Call_wp (lv := [some (vr 208)]) (by decide) ckX1_creeps [] rfl rfl ?_
  refine ⟨_, rfl, (by decide), ?_⟩
  refine ⟨_, rfl, (by decide), ?_⟩
  refine ⟨_, rfl, (by decide), ?_⟩
  refine fun w0 hw0 => ?_; obtain rfl : w0 = some q := hw0.symm.trans hq
  refine ⟨⟨_, hp.1.1, (by have := hp.2; show _ < 254; omega)⟩, ?_⟩
  refine c_isOf (v0 := 3) hF (Rg.u hR (Pr_f rfl)) hp (fun vr1 hr2 q3 => ?_)
  have hr2 : -2147483648 ≤ vr1 ∧ vr1 < 2147483648 := hr2
  have q3 : 0 ≤ vr1 ∧ vr1 ≤ 1 := q3
  refine ⟨fun (c4 : ((vr1 : Int) = 0)) => ?_, fun (c4 : (¬ ((vr1 : Int) = 0))) => ?_⟩
  ·
    exact ⟨rfl, (by decide), fun hv hA' => hQ _ _ (Rg.u hR (Pr_f rfl)) hA' (hv _ rfl) (fun ka ja hk => (uI_o (show ¬ (ka = 208 ∧ ja = 9) from by first | (intro e; obtain ⟨rfl, rfl⟩ := e; exact hk (by decide)) | omega))) (show 0 ≤ 0 ∧ 0 ≤ 1 from by decide)⟩
  ·
    refine ⟨_, rfl, (by decide), ?_⟩
    refine ⟨(by decide), ?_⟩
    have a5 : -2147483648 ≤ (I 208 9) ∧ (I 208 9) < 2147483648 := hA.1 _ _
    have n6 : -2147483648 ≤ (wr ((I 208 9) + 1)) ∧ (wr ((I 208 9) + 1)) < 2147483648 := wr_R _
    have n7 : -5 < (Int.tmod (wr ((I 208 9) + 1)) 5) ∧ (Int.tmod (wr ((I 208 9) + 1)) 5) < 5 := tm_b (by decide)
    refine ⟨fun (c8 : (¬ ((Int.tmod (wr ((I 208 9) + 1)) 5) : Int) = 0)) => ?_, fun (c8 : (((Int.tmod (wr ((I 208 9) + 1)) 5) : Int) = 0)) => ?_⟩
    ·
      exact ⟨rfl, (by decide), fun hv hA' => hQ _ _ (Rg.u hR (Pr_f rfl)) hA' (hv _ rfl) (fun ka ja hk => (uI_o (show ¬ (ka = 208 ∧ ja = 9) from by first | (intro e; obtain ⟨rfl, rfl⟩ := e; exact hk (by decide)) | omega))) (show 0 ≤ 0 ∧ 0 ≤ 1 from by decide)⟩
    ·
      exact ⟨rfl, (by decide), fun hv hA' => hQ _ _ (Rg.u hR (Pr_f rfl)) hA' (hv _ rfl) (fun ka ja hk => (uI_o (show ¬ (ka = 208 ∧ ja = 9) from by first | (intro e; obtain ⟨rfl, rfl⟩ := e; exact hk (by decide)) | omega))) (show 0 ≤ 1 ∧ 1 ≤ 1 from by decide)⟩
theorem c_more (hF : FS F) (hR : Rg I) {v0 : Int} {q : Nat} (hq : F 208 2 = some q) (hp : PP F q) (hQ : ∀ (r : Int) (I' : pI), Rg I' → AR I' → iR r → (∀ k j, ¬ (k = 208 ∧ j = 9) → I' k j = I k j) → Q (some (vi r)) F I') : CallN G (d + 3) kX1_moreStretch [vr 208, vi v0] NP F I Q := by
  refine CallN_in (fun hok hA => CallN_out ?_)
  have iv0 : -2147483648 ≤ v0 ∧ v0 < 2147483648 := hok (vi v0) (by simp)
  refine Call_wp (lv := [some (vr 208), some (vi v0)]) (by decide) ckX1_moreStretch [] rfl rfl ?_
  refine ⟨fun (c1 : ((v0 : Int) = 0)) => ?_, fun (c1 : (¬ ((v0 : Int) = 0))) => ?_⟩
  ·
    exact ⟨rfl, fun hv hA' => hQ _ _ hR hA' (hv _ rfl) (fun _ _ _ => rfl)⟩
  ·
    refine ⟨fun (c2 : ((v0 : Int) = 1)) => ?_, fun (c2 : (¬ ((v0 : Int) = 1))) => ?_⟩
    ·
      exact ⟨rfl, fun hv hA' => hQ _ _ hR hA' (hv _ rfl) (fun _ _ _ => rfl)⟩
    ·
      refine ⟨fun (c3 : ((v0 : Int) = 2)) => ?_, fun (c3 : (¬ ((v0 : Int) = 2))) => ?_⟩
      ·
        refine ⟨⟨_, rfl, (by decide)⟩, ?_⟩
        refine c_creeps  hF hR hq hp (fun vr4 I5 hR6 hA7 hr9 hW8 q10 => ?_)
        have hr9 : -2147483648 ≤ vr4 ∧ vr4 < 2147483648 := hr9
        have q10 : 0 ≤ vr4 ∧ vr4 ≤ 1 := q10
        refine ⟨fun (c11 : ((vr4 : Int) = 0)) => ?_, fun (c11 : (¬ ((vr4 : Int) = 0))) => ?_⟩
        ·
          exact ⟨rfl, fun hv hA' => hQ _ _ hR6 hA' (hv _ rfl) (fun ka ja hk => (hW8 ka ja (by omega)))⟩
        ·
          exact ⟨rfl, fun hv hA' => hQ _ _ hR6 hA' (hv _ rfl) (fun ka ja hk => (hW8 ka ja (by omega)))⟩
      ·
        refine ⟨fun (c12 : ((v0 : Int) = 3)) => ?_, fun (c12 : (¬ ((v0 : Int) = 3))) => ?_⟩
        ·
          exact ⟨rfl, fun hv hA' => hQ _ _ hR hA' (hv _ rfl) (fun _ _ _ => rfl)⟩
        ·
          refine ⟨fun (c13 : ((v0 : Int) = 4)) => ?_, fun (c13 : (¬ ((v0 : Int) = 4))) => ?_⟩
          ·
            exact ⟨rfl, fun hv hA' => hQ _ _ hR hA' (hv _ rfl) (fun _ _ _ => rfl)⟩
          ·
            refine ⟨fun (c14 : ((v0 : Int) = 5)) => ?_, fun (c14 : (¬ ((v0 : Int) = 5))) => ?_⟩
            ·
              exact ⟨rfl, fun hv hA' => hQ _ _ hR hA' (hv _ rfl) (fun _ _ _ => rfl)⟩
            ·
              exact ⟨rfl, fun hv hA' => hQ _ _ hR hA' (hv _ rfl) (fun _ _ _ => rfl)⟩
theorem tm6 (x : Int) : (0 ≤ x → 0 ≤ Int.tmod x 6 ∧ Int.tmod x 6 < 6) ∧ (x < 0 → -6 < Int.tmod x 6 ∧ Int.tmod x 6 ≤ 0) := by
  refine ⟨fun h => ?_, fun h => ?_⟩
  · rw [Int.tmod_eq_emod_of_nonneg h]; omega
  · have h2 := Int.neg_tmod (a := x) (b := 6)
    rw [Int.tmod_eq_emod_of_nonneg (by omega)] at h2
    omega
theorem xI_neg {x y : Int} (hx : iR x) (hy : iR y) : xI x y < 0 ↔ ¬ ((x < 0) ↔ (y < 0)) := by
  unfold iR at hx hy
  have e : ∀ z : Int, -2147483648 ≤ z ∧ z < 2147483648 → (BitVec.ofInt 32 z).msb = decide (z < 0) := fun z hz => by
    rw [BitVec.msb_eq_toInt, BitVec.toInt_ofInt]
    congr 1
    rw [Int.bmod_eq_of_le (by omega) (by omega)]
  have h : (BitVec.ofInt 32 x ^^^ BitVec.ofInt 32 y).msb = decide (xI x y < 0) := by
    rw [BitVec.msb_eq_toInt]
    rfl
  rw [BitVec.msb_xor, e x hx, e y hy] at h
  by_cases h1 : x < 0 <;> by_cases h2 : y < 0 <;> simp [h1, h2] at h ⊢ <;> omega
theorem c_mod6 {x : Int} (hQ : ∀ w : Int, 0 ≤ w → w ≤ 5 → Q (some (vi w)) F I) : CallN G d kJ9_floorMod_7cf53 [vi x, vi 6] NP F I Q := by
  refine CallN_in (fun hok hA => ?_)
  have ix : -2147483648 ≤ x ∧ x < 2147483648 := hok (vi x) (by simp)
  have t := tm6 x
  have g := xI_neg (x := x) (y := 6) ix (by unfold iR; omega)
  refine Call_wp (lv := [some (vi x), some (vi 6), none]) (by decide) ckJ9_floorMod_7cf53 [] rfl rfl ?_
  refine ⟨by decide, ?_⟩
  refine ⟨fun c1 => ?_, fun c1 => ?_⟩
  · exact ⟨rfl, hQ _ (by omega) (by omega)⟩
  · refine ⟨fun c2 => ?_, fun c2 => ?_⟩
    · exact ⟨rfl, hQ _ (by omega) (by omega)⟩
    · have e : wr (Int.tmod x 6 + 6) = Int.tmod x 6 + 6 := wr_id (by unfold iR; omega)
      refine ⟨rfl, ?_⟩
      rw [e]
      exact hQ _ (by omega) (by omega)
theorem c_take (hF : FS F) (hR : Rg I)  (hQ : ∀ (I' : pI), Rg I' → AR I' → (∀ k j, ¬ (210 ≤ k ∧ k ≤ 212) → I' k j = I k j) → Q none F I') : CallN G (d + 1) kX1_take [vr 208] NP F I Q := by
  refine CallN_in (fun hok hA => CallN_out ?_)
  refine Call_wp (lv := [some (vr 208), none, none]) (by decide) ckX1_take [] rfl rfl ?_
  refine ⟨_, rfl, (by decide), ?_⟩
  refine fun w0 hw0 => ?_; obtain rfl : w0 = some 210 := hw0.symm.trans (FS.g hF rfl)
  refine ⟨_, rfl, (by decide), ?_⟩
  have a1 : -2147483648 ≤ (I 210 2) ∧ (I 210 2) < 2147483648 := hA.1 _ _
  refine ⟨fun (c2 : (((I 210 2) : Int) < 24)) => ?_, fun (c2 : (¬ (((I 210 2) : Int) < 24))) => ?_⟩
  ·
    refine ⟨_, rfl, (by decide), ?_⟩
    refine fun w0 hw0 => ?_; obtain rfl : w0 = some 210 := hw0.symm.trans (FS.g hF rfl)
    refine ⟨_, rfl, (by decide), ?_⟩
    refine ⟨_, rfl, (by decide), ?_⟩
    refine ⟨_, rfl, (by decide), ?_⟩
    have a3 : -2147483648 ≤ (I 208 7) ∧ (I 208 7) < 2147483648 := hA.1 _ _
    have a4 : -2147483648 ≤ (I 208 10) ∧ (I 208 10) < 2147483648 := hA.1 _ _
    refine ⟨fun (c5 : (((I 208 10) : Int) ≤ (I 208 7))) => ?_, fun (c5 : (¬ (((I 208 10) : Int) ≤ (I 208 7)))) => ?_⟩
    ·
      refine ⟨_, rfl, (by decide), ?_⟩
      have a6 : -2147483648 ≤ (I 208 6) ∧ (I 208 6) < 2147483648 := hA.1 _ _
      refine ⟨fun (c7 : (((I 208 6) : Int) ≤ 0)) => ?_, fun (c7 : (¬ (((I 208 6) : Int) ≤ 0))) => ?_⟩
      ·
        refine ⟨_, rfl, (by decide), ?_⟩
        have a8 : -2147483648 ≤ (I 208 5) ∧ (I 208 5) < 2147483648 := hA.1 _ _
        refine ⟨fun (c9 : ((0 : Int) ≤ (I 208 5))) => ?_, fun (c9 : (¬ ((0 : Int) ≤ (I 208 5)))) => ?_⟩
        ·
          refine ⟨_, rfl, (by decide), ?_⟩
          refine fun w0 hw0 => ?_; obtain rfl : w0 = some 210 := hw0.symm.trans (FS.g hF rfl)
          refine ⟨_, rfl, (by decide), ?_⟩
          refine ⟨⟨_, rfl, (by decide)⟩, ?_⟩
          refine Call_wp (lv := [some (vr 210), some (vi (I 208 8)), some (vi 0)]) (by decide) ckX6_add [] rfl rfl ?_
          refine ⟨_, rfl, (by decide), ?_⟩
          refine ⟨fun (c10 : (((I 210 2) : Int) < 0)) => ?_, fun (c10 : (¬ (((I 210 2) : Int) < 0))) => ?_⟩
          ·
            refine ⟨rfl, ?_⟩
            exact ⟨rfl, fun hv hA' => hQ _ hR hA' (fun _ _ _ => rfl)⟩
          ·
            refine ⟨_, rfl, (by decide), ?_⟩
            refine ⟨fun c => absurd c (show (¬ ((24 : Int) ≤ (I 210 2))) from by first | omega | (simp only [wr, wl] at *; omega)), fun _ => ?_⟩
            refine ⟨_, rfl, (by decide), ?_⟩
            refine fun w0 hw0 => ?_; obtain rfl : w0 = some 211 := hw0.symm.trans (FS.g hF rfl)
            refine ⟨_, rfl, (by decide), ?_⟩
            refine ⟨_, rfl, (by decide), (show (0 : Int) ≤ (I 210 2) from by first | with_reducible assumption | omega | (simp only [wr, wl] at *; omega)), (show (I 210 2) < (24 : Int) from by first | with_reducible assumption | omega | (simp only [wr, wl] at *; omega)), ?_⟩
            refine ⟨_, rfl, (by decide), ?_⟩
            refine fun w0 hw0 => ?_; obtain rfl : w0 = some 212 := hw0.symm.trans (FS.g hF rfl)
            refine ⟨_, rfl, (by decide), ?_⟩
            refine ⟨_, rfl, (by decide), (show (0 : Int) ≤ (I 210 2) from by first | with_reducible assumption | omega | (simp only [wr, wl] at *; omega)), (show (I 210 2) < (24 : Int) from by first | with_reducible assumption | omega | (simp only [wr, wl] at *; omega)), ?_⟩
            refine ⟨_, rfl, (by decide), ?_⟩
            refine ⟨_, rfl, (by decide), ?_⟩
            refine ⟨rfl, ?_⟩
            exact ⟨rfl, fun hv hA' => hQ _ (Rg.u (Rg.u (Rg.u hR (Pr_p (k := 211) rfl _ _)) (Pr_p (k := 212) rfl _ _)) (Pr_f rfl)) hA' (fun ka ja hk => ((uI_o (show ¬ (ka = 210 ∧ ja = 2) from by first | (intro e; obtain ⟨rfl, rfl⟩ := e; exact hk (by decide)) | omega))).trans (((uI_o (show ¬ (ka = 212 ∧ ja = (Int.toNat (I 210 2))) from by first | (intro e; obtain ⟨rfl, _⟩ := e; exact hk (by decide)) | omega))).trans ((uI_o (show ¬ (ka = 211 ∧ ja = (Int.toNat (I 210 2))) from by first | (intro e; obtain ⟨rfl, _⟩ := e; exact hk (by decide)) | omega)))))⟩
        ·
          refine ⟨_, rfl, (by decide), ?_⟩
          refine fun w0 hw0 => ?_; obtain rfl : w0 = some 210 := hw0.symm.trans (FS.g hF rfl)
          refine ⟨_, rfl, (by decide), ?_⟩
          refine ⟨⟨_, rfl, (by decide)⟩, ?_⟩
          refine Call_wp (lv := [some (vr 210), some (vi (I 208 8)), some (vi (-2))]) (by decide) ckX6_add [] rfl rfl ?_
          refine ⟨_, rfl, (by decide), ?_⟩
          refine ⟨fun (c11 : (((I 210 2) : Int) < 0)) => ?_, fun (c11 : (¬ (((I 210 2) : Int) < 0))) => ?_⟩
          ·
            refine ⟨rfl, ?_⟩
            exact ⟨rfl, fun hv hA' => hQ _ hR hA' (fun _ _ _ => rfl)⟩
          ·
            refine ⟨_, rfl, (by decide), ?_⟩
            refine ⟨fun c => absurd c (show (¬ ((24 : Int) ≤ (I 210 2))) from by first | omega | (simp only [wr, wl] at *; omega)), fun _ => ?_⟩
            refine ⟨_, rfl, (by decide), ?_⟩
            refine fun w0 hw0 => ?_; obtain rfl : w0 = some 211 := hw0.symm.trans (FS.g hF rfl)
            refine ⟨_, rfl, (by decide), ?_⟩
            refine ⟨_, rfl, (by decide), (show (0 : Int) ≤ (I 210 2) from by first | with_reducible assumption | omega | (simp only [wr, wl] at *; omega)), (show (I 210 2) < (24 : Int) from by first | with_reducible assumption | omega | (simp only [wr, wl] at *; omega)), ?_⟩
            refine ⟨_, rfl, (by decide), ?_⟩
            refine fun w0 hw0 => ?_; obtain rfl : w0 = some 212 := hw0.symm.trans (FS.g hF rfl)
            refine ⟨_, rfl, (by decide), ?_⟩
            refine ⟨_, rfl, (by decide), (show (0 : Int) ≤ (I 210 2) from by first | with_reducible assumption | omega | (simp only [wr, wl] at *; omega)), (show (I 210 2) < (24 : Int) from by first | with_reducible assumption | omega | (simp only [wr, wl] at *; omega)), ?_⟩
            refine ⟨_, rfl, (by decide), ?_⟩
            refine ⟨_, rfl, (by decide), ?_⟩
            refine ⟨rfl, ?_⟩
            exact ⟨rfl, fun hv hA' => hQ _ (Rg.u (Rg.u (Rg.u hR (Pr_p (k := 211) rfl _ _)) (Pr_p (k := 212) rfl _ _)) (Pr_f rfl)) hA' (fun ka ja hk => ((uI_o (show ¬ (ka = 210 ∧ ja = 2) from by first | (intro e; obtain ⟨rfl, rfl⟩ := e; exact hk (by decide)) | omega))).trans (((uI_o (show ¬ (ka = 212 ∧ ja = (Int.toNat (I 210 2))) from by first | (intro e; obtain ⟨rfl, _⟩ := e; exact hk (by decide)) | omega))).trans ((uI_o (show ¬ (ka = 211 ∧ ja = (Int.toNat (I 210 2))) from by first | (intro e; obtain ⟨rfl, _⟩ := e; exact hk (by decide)) | omega)))))⟩
      ·
        refine ⟨_, rfl, (by decide), ?_⟩
        refine ⟨(show ¬ ((I 208 6) : Int) = 0 from by first | omega | (simp only [wr, wl] at *; omega)), ?_⟩
        refine ⟨fun (c12 : (¬ ((Int.tmod (wr ((I 210 2) + 1)) (I 208 6)) : Int) = 0)) => ?_, fun (c12 : (((Int.tmod (wr ((I 210 2) + 1)) (I 208 6)) : Int) = 0)) => ?_⟩
        ·
          refine ⟨_, rfl, (by decide), ?_⟩
          have a13 : -2147483648 ≤ (I 208 5) ∧ (I 208 5) < 2147483648 := hA.1 _ _
          refine ⟨fun (c14 : ((0 : Int) ≤ (I 208 5))) => ?_, fun (c14 : (¬ ((0 : Int) ≤ (I 208 5)))) => ?_⟩
          ·
            refine ⟨_, rfl, (by decide), ?_⟩
            refine fun w0 hw0 => ?_; obtain rfl : w0 = some 210 := hw0.symm.trans (FS.g hF rfl)
            refine ⟨_, rfl, (by decide), ?_⟩
            refine ⟨⟨_, rfl, (by decide)⟩, ?_⟩
            refine Call_wp (lv := [some (vr 210), some (vi (I 208 8)), some (vi 0)]) (by decide) ckX6_add [] rfl rfl ?_
            refine ⟨_, rfl, (by decide), ?_⟩
            refine ⟨fun (c15 : (((I 210 2) : Int) < 0)) => ?_, fun (c15 : (¬ (((I 210 2) : Int) < 0))) => ?_⟩
            ·
              refine ⟨rfl, ?_⟩
              exact ⟨rfl, fun hv hA' => hQ _ hR hA' (fun _ _ _ => rfl)⟩
            ·
              refine ⟨_, rfl, (by decide), ?_⟩
              refine ⟨fun c => absurd c (show (¬ ((24 : Int) ≤ (I 210 2))) from by first | omega | (simp only [wr, wl] at *; omega)), fun _ => ?_⟩
              refine ⟨_, rfl, (by decide), ?_⟩
              refine fun w0 hw0 => ?_; obtain rfl : w0 = some 211 := hw0.symm.trans (FS.g hF rfl)
              refine ⟨_, rfl, (by decide), ?_⟩
              refine ⟨_, rfl, (by decide), (show (0 : Int) ≤ (I 210 2) from by first | with_reducible assumption | omega | (simp only [wr, wl] at *; omega)), (show (I 210 2) < (24 : Int) from by first | with_reducible assumption | omega | (simp only [wr, wl] at *; omega)), ?_⟩
              refine ⟨_, rfl, (by decide), ?_⟩
              refine fun w0 hw0 => ?_; obtain rfl : w0 = some 212 := hw0.symm.trans (FS.g hF rfl)
              refine ⟨_, rfl, (by decide), ?_⟩
              refine ⟨_, rfl, (by decide), (show (0 : Int) ≤ (I 210 2) from by first | with_reducible assumption | omega | (simp only [wr, wl] at *; omega)), (show (I 210 2) < (24 : Int) from by first | with_reducible assumption | omega | (simp only [wr, wl] at *; omega)), ?_⟩
              refine ⟨_, rfl, (by decide), ?_⟩
              refine ⟨_, rfl, (by decide), ?_⟩
              refine ⟨rfl, ?_⟩
              exact ⟨rfl, fun hv hA' => hQ _ (Rg.u (Rg.u (Rg.u hR (Pr_p (k := 211) rfl _ _)) (Pr_p (k := 212) rfl _ _)) (Pr_f rfl)) hA' (fun ka ja hk => ((uI_o (show ¬ (ka = 210 ∧ ja = 2) from by first | (intro e; obtain ⟨rfl, rfl⟩ := e; exact hk (by decide)) | omega))).trans (((uI_o (show ¬ (ka = 212 ∧ ja = (Int.toNat (I 210 2))) from by first | (intro e; obtain ⟨rfl, _⟩ := e; exact hk (by decide)) | omega))).trans ((uI_o (show ¬ (ka = 211 ∧ ja = (Int.toNat (I 210 2))) from by first | (intro e; obtain ⟨rfl, _⟩ := e; exact hk (by decide)) | omega)))))⟩
          ·
            refine ⟨_, rfl, (by decide), ?_⟩
            refine fun w0 hw0 => ?_; obtain rfl : w0 = some 210 := hw0.symm.trans (FS.g hF rfl)
            refine ⟨_, rfl, (by decide), ?_⟩
            refine ⟨⟨_, rfl, (by decide)⟩, ?_⟩
            refine Call_wp (lv := [some (vr 210), some (vi (I 208 8)), some (vi (-2))]) (by decide) ckX6_add [] rfl rfl ?_
            refine ⟨_, rfl, (by decide), ?_⟩
            refine ⟨fun (c16 : (((I 210 2) : Int) < 0)) => ?_, fun (c16 : (¬ (((I 210 2) : Int) < 0))) => ?_⟩
            ·
              refine ⟨rfl, ?_⟩
              exact ⟨rfl, fun hv hA' => hQ _ hR hA' (fun _ _ _ => rfl)⟩
            ·
              refine ⟨_, rfl, (by decide), ?_⟩
              refine ⟨fun c => absurd c (show (¬ ((24 : Int) ≤ (I 210 2))) from by first | omega | (simp only [wr, wl] at *; omega)), fun _ => ?_⟩
              refine ⟨_, rfl, (by decide), ?_⟩
              refine fun w0 hw0 => ?_; obtain rfl : w0 = some 211 := hw0.symm.trans (FS.g hF rfl)
              refine ⟨_, rfl, (by decide), ?_⟩
              refine ⟨_, rfl, (by decide), (show (0 : Int) ≤ (I 210 2) from by first | with_reducible assumption | omega | (simp only [wr, wl] at *; omega)), (show (I 210 2) < (24 : Int) from by first | with_reducible assumption | omega | (simp only [wr, wl] at *; omega)), ?_⟩
              refine ⟨_, rfl, (by decide), ?_⟩
              refine fun w0 hw0 => ?_; obtain rfl : w0 = some 212 := hw0.symm.trans (FS.g hF rfl)
              refine ⟨_, rfl, (by decide), ?_⟩
              refine ⟨_, rfl, (by decide), (show (0 : Int) ≤ (I 210 2) from by first | with_reducible assumption | omega | (simp only [wr, wl] at *; omega)), (show (I 210 2) < (24 : Int) from by first | with_reducible assumption | omega | (simp only [wr, wl] at *; omega)), ?_⟩
              refine ⟨_, rfl, (by decide), ?_⟩
              refine ⟨_, rfl, (by decide), ?_⟩
              refine ⟨rfl, ?_⟩
              exact ⟨rfl, fun hv hA' => hQ _ (Rg.u (Rg.u (Rg.u hR (Pr_p (k := 211) rfl _ _)) (Pr_p (k := 212) rfl _ _)) (Pr_f rfl)) hA' (fun ka ja hk => ((uI_o (show ¬ (ka = 210 ∧ ja = 2) from by first | (intro e; obtain ⟨rfl, rfl⟩ := e; exact hk (by decide)) | omega))).trans (((uI_o (show ¬ (ka = 212 ∧ ja = (Int.toNat (I 210 2))) from by first | (intro e; obtain ⟨rfl, _⟩ := e; exact hk (by decide)) | omega))).trans ((uI_o (show ¬ (ka = 211 ∧ ja = (Int.toNat (I 210 2))) from by first | (intro e; obtain ⟨rfl, _⟩ := e; exact hk (by decide)) | omega)))))⟩
        ·
          refine ⟨_, rfl, (by decide), ?_⟩
          refine fun w0 hw0 => ?_; obtain rfl : w0 = some 210 := hw0.symm.trans (FS.g hF rfl)
          refine ⟨_, rfl, (by decide), ?_⟩
          refine ⟨⟨_, rfl, (by decide)⟩, ?_⟩
          refine Call_wp (lv := [some (vr 210), some (vi (I 208 8)), some (vi (-1))]) (by decide) ckX6_add [] rfl rfl ?_
          refine ⟨_, rfl, (by decide), ?_⟩
          refine ⟨fun (c17 : (((I 210 2) : Int) < 0)) => ?_, fun (c17 : (¬ (((I 210 2) : Int) < 0))) => ?_⟩
          ·
            refine ⟨rfl, ?_⟩
            exact ⟨rfl, fun hv hA' => hQ _ hR hA' (fun _ _ _ => rfl)⟩
          ·
            refine ⟨_, rfl, (by decide), ?_⟩
            refine ⟨fun c => absurd c (show (¬ ((24 : Int) ≤ (I 210 2))) from by first | omega | (simp only [wr, wl] at *; omega)), fun _ => ?_⟩
            refine ⟨_, rfl, (by decide), ?_⟩
            refine fun w0 hw0 => ?_; obtain rfl : w0 = some 211 := hw0.symm.trans (FS.g hF rfl)
            refine ⟨_, rfl, (by decide), ?_⟩
            refine ⟨_, rfl, (by decide), (show (0 : Int) ≤ (I 210 2) from by first | with_reducible assumption | omega | (simp only [wr, wl] at *; omega)), (show (I 210 2) < (24 : Int) from by first | with_reducible assumption | omega | (simp only [wr, wl] at *; omega)), ?_⟩
            refine ⟨_, rfl, (by decide), ?_⟩
            refine fun w0 hw0 => ?_; obtain rfl : w0 = some 212 := hw0.symm.trans (FS.g hF rfl)
            refine ⟨_, rfl, (by decide), ?_⟩
            refine ⟨_, rfl, (by decide), (show (0 : Int) ≤ (I 210 2) from by first | with_reducible assumption | omega | (simp only [wr, wl] at *; omega)), (show (I 210 2) < (24 : Int) from by first | with_reducible assumption | omega | (simp only [wr, wl] at *; omega)), ?_⟩
            refine ⟨_, rfl, (by decide), ?_⟩
            refine ⟨_, rfl, (by decide), ?_⟩
            refine ⟨rfl, ?_⟩
            exact ⟨rfl, fun hv hA' => hQ _ (Rg.u (Rg.u (Rg.u hR (Pr_p (k := 211) rfl _ _)) (Pr_p (k := 212) rfl _ _)) (Pr_f rfl)) hA' (fun ka ja hk => ((uI_o (show ¬ (ka = 210 ∧ ja = 2) from by first | (intro e; obtain ⟨rfl, rfl⟩ := e; exact hk (by decide)) | omega))).trans (((uI_o (show ¬ (ka = 212 ∧ ja = (Int.toNat (I 210 2))) from by first | (intro e; obtain ⟨rfl, _⟩ := e; exact hk (by decide)) | omega))).trans ((uI_o (show ¬ (ka = 211 ∧ ja = (Int.toNat (I 210 2))) from by first | (intro e; obtain ⟨rfl, _⟩ := e; exact hk (by decide)) | omega)))))⟩
    ·
      refine ⟨_, rfl, (by decide), ?_⟩
      refine fun w0 hw0 => ?_; obtain rfl : w0 = some 209 := hw0.symm.trans (FS.g hF rfl)
      refine ⟨_, rfl, (by decide), ?_⟩
      refine ⟨_, rfl, (by decide), ?_⟩
      refine ⟨_, rfl, (by decide), ?_⟩
      refine fun w0 hw0 => ?_; obtain rfl : w0 = some 209 := hw0.symm.trans (FS.g hF rfl)
      refine ⟨_, _, (by decide), rfl, (by decide), ?_⟩
      refine c_mod6 (fun w18 h19 h20 => ?_)
      refine ⟨_, rfl, (by decide), (show (0 : Int) ≤ w18 from by first | with_reducible assumption | omega | (simp only [wr, wl] at *; omega)), (show w18 < (6 : Int) from by first | with_reducible assumption | omega | (simp only [wr, wl] at *; omega)), ?_⟩
      refine ⟨_, rfl, (by decide), ?_⟩
      have a21 : -2147483648 ≤ (I 208 6) ∧ (I 208 6) < 2147483648 := hA.1 _ _
      refine ⟨fun (c22 : (((I 208 6) : Int) ≤ 0)) => ?_, fun (c22 : (¬ (((I 208 6) : Int) ≤ 0))) => ?_⟩
      ·
        refine ⟨_, rfl, (by decide), ?_⟩
        have a23 : -2147483648 ≤ (I 209 (Int.toNat w18)) ∧ (I 209 (Int.toNat w18)) < 2147483648 := hA.1 _ _
        have a24 : -2147483648 ≤ (I 208 5) ∧ (I 208 5) < 2147483648 := hA.1 _ _
        refine ⟨fun (c25 : (((I 209 (Int.toNat w18)) : Int) ≤ (I 208 5))) => ?_, fun (c25 : (¬ (((I 209 (Int.toNat w18)) : Int) ≤ (I 208 5)))) => ?_⟩
        ·
          refine ⟨_, rfl, (by decide), ?_⟩
          refine fun w0 hw0 => ?_; obtain rfl : w0 = some 210 := hw0.symm.trans (FS.g hF rfl)
          refine ⟨_, rfl, (by decide), ?_⟩
          refine ⟨⟨_, rfl, (by decide)⟩, ?_⟩
          refine Call_wp (lv := [some (vr 210), some (vi (I 208 8)), some (vi (I 209 (Int.toNat w18)))]) (by decide) ckX6_add [] rfl rfl ?_
          refine ⟨_, rfl, (by decide), ?_⟩
          refine ⟨fun (c26 : (((I 210 2) : Int) < 0)) => ?_, fun (c26 : (¬ (((I 210 2) : Int) < 0))) => ?_⟩
          ·
            refine ⟨rfl, ?_⟩
            exact ⟨rfl, fun hv hA' => hQ _ hR hA' (fun _ _ _ => rfl)⟩
          ·
            refine ⟨_, rfl, (by decide), ?_⟩
            refine ⟨fun c => absurd c (show (¬ ((24 : Int) ≤ (I 210 2))) from by first | omega | (simp only [wr, wl] at *; omega)), fun _ => ?_⟩
            refine ⟨_, rfl, (by decide), ?_⟩
            refine fun w0 hw0 => ?_; obtain rfl : w0 = some 211 := hw0.symm.trans (FS.g hF rfl)
            refine ⟨_, rfl, (by decide), ?_⟩
            refine ⟨_, rfl, (by decide), (show (0 : Int) ≤ (I 210 2) from by first | with_reducible assumption | omega | (simp only [wr, wl] at *; omega)), (show (I 210 2) < (24 : Int) from by first | with_reducible assumption | omega | (simp only [wr, wl] at *; omega)), ?_⟩
            refine ⟨_, rfl, (by decide), ?_⟩
            refine fun w0 hw0 => ?_; obtain rfl : w0 = some 212 := hw0.symm.trans (FS.g hF rfl)
            refine ⟨_, rfl, (by decide), ?_⟩
            refine ⟨_, rfl, (by decide), (show (0 : Int) ≤ (I 210 2) from by first | with_reducible assumption | omega | (simp only [wr, wl] at *; omega)), (show (I 210 2) < (24 : Int) from by first | with_reducible assumption | omega | (simp only [wr, wl] at *; omega)), ?_⟩
            refine ⟨_, rfl, (by decide), ?_⟩
            refine ⟨_, rfl, (by decide), ?_⟩
            refine ⟨rfl, ?_⟩
            exact ⟨rfl, fun hv hA' => hQ _ (Rg.u (Rg.u (Rg.u hR (Pr_p (k := 211) rfl _ _)) (Pr_p (k := 212) rfl _ _)) (Pr_f rfl)) hA' (fun ka ja hk => ((uI_o (show ¬ (ka = 210 ∧ ja = 2) from by first | (intro e; obtain ⟨rfl, rfl⟩ := e; exact hk (by decide)) | omega))).trans (((uI_o (show ¬ (ka = 212 ∧ ja = (Int.toNat (I 210 2))) from by first | (intro e; obtain ⟨rfl, _⟩ := e; exact hk (by decide)) | omega))).trans ((uI_o (show ¬ (ka = 211 ∧ ja = (Int.toNat (I 210 2))) from by first | (intro e; obtain ⟨rfl, _⟩ := e; exact hk (by decide)) | omega)))))⟩
        ·
          refine ⟨_, rfl, (by decide), ?_⟩
          refine fun w0 hw0 => ?_; obtain rfl : w0 = some 210 := hw0.symm.trans (FS.g hF rfl)
          refine ⟨_, rfl, (by decide), ?_⟩
          refine ⟨⟨_, rfl, (by decide)⟩, ?_⟩
          refine Call_wp (lv := [some (vr 210), some (vi (I 208 8)), some (vi (-2))]) (by decide) ckX6_add [] rfl rfl ?_
          refine ⟨_, rfl, (by decide), ?_⟩
          refine ⟨fun (c27 : (((I 210 2) : Int) < 0)) => ?_, fun (c27 : (¬ (((I 210 2) : Int) < 0))) => ?_⟩
          ·
            refine ⟨rfl, ?_⟩
            exact ⟨rfl, fun hv hA' => hQ _ hR hA' (fun _ _ _ => rfl)⟩
          ·
            refine ⟨_, rfl, (by decide), ?_⟩
            refine ⟨fun c => absurd c (show (¬ ((24 : Int) ≤ (I 210 2))) from by first | omega | (simp only [wr, wl] at *; omega)), fun _ => ?_⟩
            refine ⟨_, rfl, (by decide), ?_⟩
            refine fun w0 hw0 => ?_; obtain rfl : w0 = some 211 := hw0.symm.trans (FS.g hF rfl)
            refine ⟨_, rfl, (by decide), ?_⟩
            refine ⟨_, rfl, (by decide), (show (0 : Int) ≤ (I 210 2) from by first | with_reducible assumption | omega | (simp only [wr, wl] at *; omega)), (show (I 210 2) < (24 : Int) from by first | with_reducible assumption | omega | (simp only [wr, wl] at *; omega)), ?_⟩
            refine ⟨_, rfl, (by decide), ?_⟩
            refine fun w0 hw0 => ?_; obtain rfl : w0 = some 212 := hw0.symm.trans (FS.g hF rfl)
            refine ⟨_, rfl, (by decide), ?_⟩
            refine ⟨_, rfl, (by decide), (show (0 : Int) ≤ (I 210 2) from by first | with_reducible assumption | omega | (simp only [wr, wl] at *; omega)), (show (I 210 2) < (24 : Int) from by first | with_reducible assumption | omega | (simp only [wr, wl] at *; omega)), ?_⟩
            refine ⟨_, rfl, (by decide), ?_⟩
            refine ⟨_, rfl, (by decide), ?_⟩
            refine ⟨rfl, ?_⟩
            exact ⟨rfl, fun hv hA' => hQ _ (Rg.u (Rg.u (Rg.u hR (Pr_p (k := 211) rfl _ _)) (Pr_p (k := 212) rfl _ _)) (Pr_f rfl)) hA' (fun ka ja hk => ((uI_o (show ¬ (ka = 210 ∧ ja = 2) from by first | (intro e; obtain ⟨rfl, rfl⟩ := e; exact hk (by decide)) | omega))).trans (((uI_o (show ¬ (ka = 212 ∧ ja = (Int.toNat (I 210 2))) from by first | (intro e; obtain ⟨rfl, _⟩ := e; exact hk (by decide)) | omega))).trans ((uI_o (show ¬ (ka = 211 ∧ ja = (Int.toNat (I 210 2))) from by first | (intro e; obtain ⟨rfl, _⟩ := e; exact hk (by decide)) | omega)))))⟩
      ·
        refine ⟨_, rfl, (by decide), ?_⟩
        refine ⟨(show ¬ ((I 208 6) : Int) = 0 from by first | omega | (simp only [wr, wl] at *; omega)), ?_⟩
        refine ⟨fun (c28 : (¬ ((Int.tmod (wr ((I 210 2) + 1)) (I 208 6)) : Int) = 0)) => ?_, fun (c28 : (((Int.tmod (wr ((I 210 2) + 1)) (I 208 6)) : Int) = 0)) => ?_⟩
        ·
          refine ⟨_, rfl, (by decide), ?_⟩
          have a29 : -2147483648 ≤ (I 209 (Int.toNat w18)) ∧ (I 209 (Int.toNat w18)) < 2147483648 := hA.1 _ _
          have a30 : -2147483648 ≤ (I 208 5) ∧ (I 208 5) < 2147483648 := hA.1 _ _
          refine ⟨fun (c31 : (((I 209 (Int.toNat w18)) : Int) ≤ (I 208 5))) => ?_, fun (c31 : (¬ (((I 209 (Int.toNat w18)) : Int) ≤ (I 208 5)))) => ?_⟩
          ·
            refine ⟨_, rfl, (by decide), ?_⟩
            refine fun w0 hw0 => ?_; obtain rfl : w0 = some 210 := hw0.symm.trans (FS.g hF rfl)
            refine ⟨_, rfl, (by decide), ?_⟩
            refine ⟨⟨_, rfl, (by decide)⟩, ?_⟩
            refine Call_wp (lv := [some (vr 210), some (vi (I 208 8)), some (vi (I 209 (Int.toNat w18)))]) (by decide) ckX6_add [] rfl rfl ?_
            refine ⟨_, rfl, (by decide), ?_⟩
            refine ⟨fun (c32 : (((I 210 2) : Int) < 0)) => ?_, fun (c32 : (¬ (((I 210 2) : Int) < 0))) => ?_⟩
            ·
              refine ⟨rfl, ?_⟩
              exact ⟨rfl, fun hv hA' => hQ _ hR hA' (fun _ _ _ => rfl)⟩
            ·
              refine ⟨_, rfl, (by decide), ?_⟩
              refine ⟨fun c => absurd c (show (¬ ((24 : Int) ≤ (I 210 2))) from by first | omega | (simp only [wr, wl] at *; omega)), fun _ => ?_⟩
              refine ⟨_, rfl, (by decide), ?_⟩
              refine fun w0 hw0 => ?_; obtain rfl : w0 = some 211 := hw0.symm.trans (FS.g hF rfl)
              refine ⟨_, rfl, (by decide), ?_⟩
              refine ⟨_, rfl, (by decide), (show (0 : Int) ≤ (I 210 2) from by first | with_reducible assumption | omega | (simp only [wr, wl] at *; omega)), (show (I 210 2) < (24 : Int) from by first | with_reducible assumption | omega | (simp only [wr, wl] at *; omega)), ?_⟩
              refine ⟨_, rfl, (by decide), ?_⟩
              refine fun w0 hw0 => ?_; obtain rfl : w0 = some 212 := hw0.symm.trans (FS.g hF rfl)
              refine ⟨_, rfl, (by decide), ?_⟩
              refine ⟨_, rfl, (by decide), (show (0 : Int) ≤ (I 210 2) from by first | with_reducible assumption | omega | (simp only [wr, wl] at *; omega)), (show (I 210 2) < (24 : Int) from by first | with_reducible assumption | omega | (simp only [wr, wl] at *; omega)), ?_⟩
              refine ⟨_, rfl, (by decide), ?_⟩
              refine ⟨_, rfl, (by decide), ?_⟩
              refine ⟨rfl, ?_⟩
              exact ⟨rfl, fun hv hA' => hQ _ (Rg.u (Rg.u (Rg.u hR (Pr_p (k := 211) rfl _ _)) (Pr_p (k := 212) rfl _ _)) (Pr_f rfl)) hA' (fun ka ja hk => ((uI_o (show ¬ (ka = 210 ∧ ja = 2) from by first | (intro e; obtain ⟨rfl, rfl⟩ := e; exact hk (by decide)) | omega))).trans (((uI_o (show ¬ (ka = 212 ∧ ja = (Int.toNat (I 210 2))) from by first | (intro e; obtain ⟨rfl, _⟩ := e; exact hk (by decide)) | omega))).trans ((uI_o (show ¬ (ka = 211 ∧ ja = (Int.toNat (I 210 2))) from by first | (intro e; obtain ⟨rfl, _⟩ := e; exact hk (by decide)) | omega)))))⟩
          ·
            refine ⟨_, rfl, (by decide), ?_⟩
            refine fun w0 hw0 => ?_; obtain rfl : w0 = some 210 := hw0.symm.trans (FS.g hF rfl)
            refine ⟨_, rfl, (by decide), ?_⟩
            refine ⟨⟨_, rfl, (by decide)⟩, ?_⟩
            refine Call_wp (lv := [some (vr 210), some (vi (I 208 8)), some (vi (-2))]) (by decide) ckX6_add [] rfl rfl ?_
            refine ⟨_, rfl, (by decide), ?_⟩
            refine ⟨fun (c33 : (((I 210 2) : Int) < 0)) => ?_, fun (c33 : (¬ (((I 210 2) : Int) < 0))) => ?_⟩
            ·
              refine ⟨rfl, ?_⟩
              exact ⟨rfl, fun hv hA' => hQ _ hR hA' (fun _ _ _ => rfl)⟩
            ·
              refine ⟨_, rfl, (by decide), ?_⟩
              refine ⟨fun c => absurd c (show (¬ ((24 : Int) ≤ (I 210 2))) from by first | omega | (simp only [wr, wl] at *; omega)), fun _ => ?_⟩
              refine ⟨_, rfl, (by decide), ?_⟩
              refine fun w0 hw0 => ?_; obtain rfl : w0 = some 211 := hw0.symm.trans (FS.g hF rfl)
              refine ⟨_, rfl, (by decide), ?_⟩
              refine ⟨_, rfl, (by decide), (show (0 : Int) ≤ (I 210 2) from by first | with_reducible assumption | omega | (simp only [wr, wl] at *; omega)), (show (I 210 2) < (24 : Int) from by first | with_reducible assumption | omega | (simp only [wr, wl] at *; omega)), ?_⟩
              refine ⟨_, rfl, (by decide), ?_⟩
              refine fun w0 hw0 => ?_; obtain rfl : w0 = some 212 := hw0.symm.trans (FS.g hF rfl)
              refine ⟨_, rfl, (by decide), ?_⟩
              refine ⟨_, rfl, (by decide), (show (0 : Int) ≤ (I 210 2) from by first | with_reducible assumption | omega | (simp only [wr, wl] at *; omega)), (show (I 210 2) < (24 : Int) from by first | with_reducible assumption | omega | (simp only [wr, wl] at *; omega)), ?_⟩
              refine ⟨_, rfl, (by decide), ?_⟩
              refine ⟨_, rfl, (by decide), ?_⟩
              refine ⟨rfl, ?_⟩
              exact ⟨rfl, fun hv hA' => hQ _ (Rg.u (Rg.u (Rg.u hR (Pr_p (k := 211) rfl _ _)) (Pr_p (k := 212) rfl _ _)) (Pr_f rfl)) hA' (fun ka ja hk => ((uI_o (show ¬ (ka = 210 ∧ ja = 2) from by first | (intro e; obtain ⟨rfl, rfl⟩ := e; exact hk (by decide)) | omega))).trans (((uI_o (show ¬ (ka = 212 ∧ ja = (Int.toNat (I 210 2))) from by first | (intro e; obtain ⟨rfl, _⟩ := e; exact hk (by decide)) | omega))).trans ((uI_o (show ¬ (ka = 211 ∧ ja = (Int.toNat (I 210 2))) from by first | (intro e; obtain ⟨rfl, _⟩ := e; exact hk (by decide)) | omega)))))⟩
        ·
          refine ⟨_, rfl, (by decide), ?_⟩
          refine fun w0 hw0 => ?_; obtain rfl : w0 = some 210 := hw0.symm.trans (FS.g hF rfl)
          refine ⟨_, rfl, (by decide), ?_⟩
          refine ⟨⟨_, rfl, (by decide)⟩, ?_⟩
          refine Call_wp (lv := [some (vr 210), some (vi (I 208 8)), some (vi (-1))]) (by decide) ckX6_add [] rfl rfl ?_
          refine ⟨_, rfl, (by decide), ?_⟩
          refine ⟨fun (c34 : (((I 210 2) : Int) < 0)) => ?_, fun (c34 : (¬ (((I 210 2) : Int) < 0))) => ?_⟩
          ·
            refine ⟨rfl, ?_⟩
            exact ⟨rfl, fun hv hA' => hQ _ hR hA' (fun _ _ _ => rfl)⟩
          ·
            refine ⟨_, rfl, (by decide), ?_⟩
            refine ⟨fun c => absurd c (show (¬ ((24 : Int) ≤ (I 210 2))) from by first | omega | (simp only [wr, wl] at *; omega)), fun _ => ?_⟩
            refine ⟨_, rfl, (by decide), ?_⟩
            refine fun w0 hw0 => ?_; obtain rfl : w0 = some 211 := hw0.symm.trans (FS.g hF rfl)
            refine ⟨_, rfl, (by decide), ?_⟩
            refine ⟨_, rfl, (by decide), (show (0 : Int) ≤ (I 210 2) from by first | with_reducible assumption | omega | (simp only [wr, wl] at *; omega)), (show (I 210 2) < (24 : Int) from by first | with_reducible assumption | omega | (simp only [wr, wl] at *; omega)), ?_⟩
            refine ⟨_, rfl, (by decide), ?_⟩
            refine fun w0 hw0 => ?_; obtain rfl : w0 = some 212 := hw0.symm.trans (FS.g hF rfl)
            refine ⟨_, rfl, (by decide), ?_⟩
            refine ⟨_, rfl, (by decide), (show (0 : Int) ≤ (I 210 2) from by first | with_reducible assumption | omega | (simp only [wr, wl] at *; omega)), (show (I 210 2) < (24 : Int) from by first | with_reducible assumption | omega | (simp only [wr, wl] at *; omega)), ?_⟩
            refine ⟨_, rfl, (by decide), ?_⟩
            refine ⟨_, rfl, (by decide), ?_⟩
            refine ⟨rfl, ?_⟩
            exact ⟨rfl, fun hv hA' => hQ _ (Rg.u (Rg.u (Rg.u hR (Pr_p (k := 211) rfl _ _)) (Pr_p (k := 212) rfl _ _)) (Pr_f rfl)) hA' (fun ka ja hk => ((uI_o (show ¬ (ka = 210 ∧ ja = 2) from by first | (intro e; obtain ⟨rfl, rfl⟩ := e; exact hk (by decide)) | omega))).trans (((uI_o (show ¬ (ka = 212 ∧ ja = (Int.toNat (I 210 2))) from by first | (intro e; obtain ⟨rfl, _⟩ := e; exact hk (by decide)) | omega))).trans ((uI_o (show ¬ (ka = 211 ∧ ja = (Int.toNat (I 210 2))) from by first | (intro e; obtain ⟨rfl, _⟩ := e; exact hk (by decide)) | omega)))))⟩
  ·
    exact ⟨rfl, fun hv hA' => hQ _ hR hA' (fun _ _ _ => rfl)⟩
theorem c_askL (hF : FS F) (hR : Rg I) {v0 : Int}  (hQ : ∀ (I' : pI), Rg I' → AR I' → (∀ k j, ¬ (k = 208 ∧ j = 11) → I' k j = I k j) → Q none F I') : CallN G d kX1_askLimits [vr 208, vi v0] NP F I Q := by
  refine CallN_in (fun hok hA => CallN_out ?_)
  have iv0 : -2147483648 ≤ v0 ∧ v0 < 2147483648 := hok (vi v0) (by simp)
  refine Call_wp (lv := [some (vr 208), some (vi v0)]) (by decide) ckX1_askLimits [] rfl rfl ?_
  refine ⟨_, rfl, (by decide), ?_⟩
  have a1 : -2147483648 ≤ (I 208 13) ∧ (I 208 13) < 2147483648 := hA.1 _ _
  refine ⟨fun (c2 : (((I 208 13) : Int) = 0)) => ?_, fun (c2 : (¬ (((I 208 13) : Int) = 0))) => ?_⟩
  ·
    refine ⟨_, rfl, (by decide), ?_⟩
    have a3 : -2147483648 ≤ (I 208 3) ∧ (I 208 3) < 2147483648 := hA.1 _ _
    refine ⟨fun (c4 : ((v0 : Int) ≤ (I 208 3))) => ?_, fun (c4 : (¬ ((v0 : Int) ≤ (I 208 3)))) => ?_⟩
    ·
      refine ⟨_, rfl, (by decide), ?_⟩
      refine ⟨_, rfl, (by decide), ?_⟩
      have a5 : -2147483648 ≤ (I 208 8) ∧ (I 208 8) < 2147483648 := hA.1 _ _
      have a6 : -2147483648 ≤ (I 208 4) ∧ (I 208 4) < 2147483648 := hA.1 _ _
      refine ⟨fun (c7 : (((I 208 8) : Int) ≤ (I 208 4))) => ?_, fun (c7 : (¬ (((I 208 8) : Int) ≤ (I 208 4)))) => ?_⟩
      ·
        exact ⟨rfl, fun hv hA' => hQ _ hR hA' (fun _ _ _ => rfl)⟩
      ·
        refine ⟨_, rfl, (by decide), ?_⟩
        exact ⟨rfl, fun hv hA' => hQ _ (Rg.u hR (Pr_f rfl)) hA' (fun ka ja hk => (uI_o (show ¬ (ka = 208 ∧ ja = 11) from by first | (intro e; obtain ⟨rfl, rfl⟩ := e; exact hk (by decide)) | omega)))⟩
    ·
      refine ⟨_, rfl, (by decide), ?_⟩
      exact ⟨rfl, fun hv hA' => hQ _ (Rg.u hR (Pr_f rfl)) hA' (fun ka ja hk => (uI_o (show ¬ (ka = 208 ∧ ja = 11) from by first | (intro e; obtain ⟨rfl, rfl⟩ := e; exact hk (by decide)) | omega)))⟩
  ·
    refine ⟨_, rfl, (by decide), ?_⟩
    exact ⟨rfl, fun hv hA' => hQ _ (Rg.u hR (Pr_f rfl)) hA' (fun ka ja hk => (uI_o (show ¬ (ka = 208 ∧ ja = 11) from by first | (intro e; obtain ⟨rfl, rfl⟩ := e; exact hk (by decide)) | omega)))⟩
theorem c_once (hF : FS F) (hR : Rg I) {v0 : Int} {q : Nat} (hq : F 208 2 = some q) (hp : PP F q) (hQ : ∀ (I' : pI), Rg I' → AR I' → (∀ k j, ¬ ((k = 208 ∧ 8 ≤ j ∧ j ≤ 13) ∨ k = 209 ∨ (210 ≤ k ∧ k ≤ 212)) → I' k j = I k j) → Q none F I') : CallN G (d + 4) kX1_doOnce [vr 208, vi v0] NP F I Q := by
  refine CallN_in (fun hok hA => CallN_out ?_)
  have iv0 : -2147483648 ≤ v0 ∧ v0 < 2147483648 := hok (vi v0) (by simp)
  refine Call_wp (lv := [some (vr 208), some (vi v0), none]) (by decide) ckX1_doOnce [] rfl rfl ?_
  refine ⟨_, rfl, (by decide), ?_⟩
  refine ⟨⟨_, rfl, (by decide)⟩, ?_⟩
  refine c_more (v0 := v0) hF hR hq hp (fun vr1 I2 hR3 hA4 hr6 hW5 => ?_)
  have hr6 : -2147483648 ≤ vr1 ∧ vr1 < 2147483648 := hr6
  have a7 : -2147483648 ≤ (I 208 8) ∧ (I 208 8) < 2147483648 := hA.1 _ _
  have n8 : -2147483648 ≤ (wr ((I 208 8) + vr1)) ∧ (wr ((I 208 8) + vr1)) < 2147483648 := wr_R _
  refine j_max (fun w9 h10 h11 h12 => ?_)
  refine ⟨_, rfl, (by decide), ?_⟩
  refine ⟨_, rfl, (by decide), ?_⟩
  have u13 : (I2 208 13) = (I 208 13) := hW5 _ _ (by first | decide | omega)
  have a14 : -2147483648 ≤ (I 208 13) ∧ (I 208 13) < 2147483648 := hA.1 _ _
  have a15 : -2147483648 ≤ (I2 208 13) ∧ (I2 208 13) < 2147483648 := hA4.1 _ _
  refine ⟨fun (c16 : (¬ ((I2 208 13) : Int) = 0)) => ?_, fun (c16 : (((I2 208 13) : Int) = 0)) => ?_⟩
  ·
    refine ⟨_, rfl, (by decide), (by decide), ?_⟩
    refine ⟨_, rfl, (by decide), ?_⟩
    have u17 : (I2 208 10) = (I 208 10) := hW5 _ _ (by first | decide | omega)
    have a18 : -2147483648 ≤ (I 208 10) ∧ (I 208 10) < 2147483648 := hA.1 _ _
    have a19 : -2147483648 ≤ (I2 208 10) ∧ (I2 208 10) < 2147483648 := hA4.1 _ _
    refine ⟨_, rfl, (by decide), ?_⟩
    refine ⟨⟨_, rfl, (by decide)⟩, ?_⟩
    refine c_mload  hF (Rg.u (Rg.u (Rg.u hR3 (Pr_f rfl)) (Pr_f rfl)) (Pr_f rfl)) hq hp (fun vr20 hr21 => ?_)
    have hr21 : -2147483648 ≤ vr20 ∧ vr20 < 2147483648 := hr21
    refine ⟨_, rfl, (by decide), ?_⟩
    refine fun w0 hw0 => ?_; obtain rfl : w0 = some 209 := hw0.symm.trans (FS.g hF rfl)
    refine ⟨_, rfl, (by decide), ?_⟩
    refine ⟨_, rfl, (by decide), ?_⟩
    refine fun w0 hw0 => ?_; obtain rfl : w0 = some 209 := hw0.symm.trans (FS.g hF rfl)
    refine ⟨_, _, (by decide), rfl, (by decide), ?_⟩
    refine c_mod6 (fun w22 h23 h24 => ?_)
    refine ⟨_, rfl, (by decide), (show (0 : Int) ≤ w22 from by first | with_reducible assumption | omega | (simp only [wr, wl] at *; omega)), (show w22 < (6 : Int) from by first | with_reducible assumption | omega | (simp only [wr, wl] at *; omega)), ?_⟩
    refine ⟨fun (c25 : (¬ (v0 : Int) = 4)) => ?_, fun (c25 : ((v0 : Int) = 4)) => ?_⟩
    ·
      refine ⟨_, rfl, (by decide), ?_⟩
      have u26 : (I2 208 14) = (I 208 14) := hW5 _ _ (by first | decide | omega)
      have a27 : -2147483648 ≤ (I 208 14) ∧ (I 208 14) < 2147483648 := hA.1 _ _
      have a28 : -2147483648 ≤ (I2 208 14) ∧ (I2 208 14) < 2147483648 := hA4.1 _ _
      refine ⟨fun (c29 : (¬ ((I2 208 14) : Int) = 0)) => ?_, fun (c29 : (((I2 208 14) : Int) = 0)) => ?_⟩
      ·
        exact ⟨rfl, fun hv hA' => hQ _ (Rg.u (Rg.u (Rg.u (Rg.u hR3 (Pr_f rfl)) (Pr_f rfl)) (Pr_f rfl)) (Pr_p (k := 209) rfl _ _)) hA' (fun ka ja hk => ((uI_o (show ¬ (ka = 209 ∧ ja = (Int.toNat w22)) from by first | (intro e; obtain ⟨rfl, _⟩ := e; exact hk (by decide)) | omega))).trans (((uI_o (show ¬ (ka = 208 ∧ ja = 10) from by first | (intro e; obtain ⟨rfl, rfl⟩ := e; exact hk (by decide)) | omega))).trans (((uI_o (show ¬ (ka = 208 ∧ ja = 13) from by first | (intro e; obtain ⟨rfl, rfl⟩ := e; exact hk (by decide)) | omega))).trans (((uI_o (show ¬ (ka = 208 ∧ ja = 8) from by first | (intro e; obtain ⟨rfl, rfl⟩ := e; exact hk (by decide)) | omega))).trans ((hW5 ka ja (by omega)))))))⟩
      ·
        refine ⟨⟨_, rfl, (by decide)⟩, ?_⟩
        refine c_askL  hF (Rg.u (Rg.u (Rg.u (Rg.u hR3 (Pr_f rfl)) (Pr_f rfl)) (Pr_f rfl)) (Pr_p (k := 209) rfl _ _)) (fun I30 hR31 hA32 hW33 => ?_)
        exact ⟨rfl, fun hv hA' => hQ _ hR31 hA' (fun ka ja hk => ((hW33 ka ja (by omega))).trans (((uI_o (show ¬ (ka = 209 ∧ ja = (Int.toNat w22)) from by first | (intro e; obtain ⟨rfl, _⟩ := e; exact hk (by decide)) | omega))).trans (((uI_o (show ¬ (ka = 208 ∧ ja = 10) from by first | (intro e; obtain ⟨rfl, rfl⟩ := e; exact hk (by decide)) | omega))).trans (((uI_o (show ¬ (ka = 208 ∧ ja = 13) from by first | (intro e; obtain ⟨rfl, rfl⟩ := e; exact hk (by decide)) | omega))).trans (((uI_o (show ¬ (ka = 208 ∧ ja = 8) from by first | (intro e; obtain ⟨rfl, rfl⟩ := e; exact hk (by decide)) | omega))).trans ((hW5 ka ja (by omega))))))))⟩
    ·
      refine ⟨⟨_, rfl, (by decide)⟩, ?_⟩
      refine c_take  hF (Rg.u (Rg.u (Rg.u (Rg.u hR3 (Pr_f rfl)) (Pr_f rfl)) (Pr_f rfl)) (Pr_p (k := 209) rfl _ _)) (fun I34 hR35 hA36 hW37 => ?_)
      refine ⟨_, rfl, (by decide), ?_⟩
      have u38 : (I2 208 14) = (I 208 14) := hW5 _ _ (by first | decide | omega)
      have a39 : -2147483648 ≤ (I 208 14) ∧ (I 208 14) < 2147483648 := hA.1 _ _
      have a40 : -2147483648 ≤ (I2 208 14) ∧ (I2 208 14) < 2147483648 := hA4.1 _ _
      have u41 : (I34 208 14) = ((uI (uI (uI (uI I2 208 8 w9) 208 13 1) 208 10 (wr ((I2 208 10) + 1))) 209 (Int.toNat w22) vr20) 208 14) := hW37 _ _ (by first | decide | omega)
      have u42 : ((uI (uI (uI (uI I2 208 8 w9) 208 13 1) 208 10 (wr ((I2 208 10) + 1))) 209 (Int.toNat w22) vr20) 208 14) = (I2 208 14) := rfl
      have a43 : -2147483648 ≤ (I34 208 14) ∧ (I34 208 14) < 2147483648 := hA36.1 _ _
      refine ⟨fun (c44 : (¬ ((I34 208 14) : Int) = 0)) => ?_, fun (c44 : (((I34 208 14) : Int) = 0)) => ?_⟩
      ·
        exact ⟨rfl, fun hv hA' => hQ _ hR35 hA' (fun ka ja hk => ((hW37 ka ja (by omega))).trans (((uI_o (show ¬ (ka = 209 ∧ ja = (Int.toNat w22)) from by first | (intro e; obtain ⟨rfl, _⟩ := e; exact hk (by decide)) | omega))).trans (((uI_o (show ¬ (ka = 208 ∧ ja = 10) from by first | (intro e; obtain ⟨rfl, rfl⟩ := e; exact hk (by decide)) | omega))).trans (((uI_o (show ¬ (ka = 208 ∧ ja = 13) from by first | (intro e; obtain ⟨rfl, rfl⟩ := e; exact hk (by decide)) | omega))).trans (((uI_o (show ¬ (ka = 208 ∧ ja = 8) from by first | (intro e; obtain ⟨rfl, rfl⟩ := e; exact hk (by decide)) | omega))).trans ((hW5 ka ja (by omega))))))))⟩
      ·
        refine ⟨⟨_, rfl, (by decide)⟩, ?_⟩
        refine c_askL  hF hR35 (fun I45 hR46 hA47 hW48 => ?_)
        exact ⟨rfl, fun hv hA' => hQ _ hR46 hA' (fun ka ja hk => ((hW48 ka ja (by omega))).trans (((hW37 ka ja (by omega))).trans (((uI_o (show ¬ (ka = 209 ∧ ja = (Int.toNat w22)) from by first | (intro e; obtain ⟨rfl, _⟩ := e; exact hk (by decide)) | omega))).trans (((uI_o (show ¬ (ka = 208 ∧ ja = 10) from by first | (intro e; obtain ⟨rfl, rfl⟩ := e; exact hk (by decide)) | omega))).trans (((uI_o (show ¬ (ka = 208 ∧ ja = 13) from by first | (intro e; obtain ⟨rfl, rfl⟩ := e; exact hk (by decide)) | omega))).trans (((uI_o (show ¬ (ka = 208 ∧ ja = 8) from by first | (intro e; obtain ⟨rfl, rfl⟩ := e; exact hk (by decide)) | omega))).trans ((hW5 ka ja (by omega)))))))))⟩
  ·
    refine ⟨_, rfl, (by decide), ?_⟩
    refine ⟨_, rfl, (by decide), ?_⟩
    refine fun w0 hw0 => ?_; obtain rfl : w0 = some q := hw0.symm.trans hq
    refine ⟨⟨_, hp.1.1, (by have := hp.2; show _ < 254; omega)⟩, ?_⟩
    refine Call_wp (lv := [some (vr q)]) (by decide) ckX4_lastStretch [] rfl rfl ?_
    refine ⟨_, hp.1.1, (by have := hp.2; show _ < 254; omega), ?_⟩
    have u49 : (I2 q 4) = (I q 4) := hW5 _ _ (by first | decide | omega)
    have a50 : -2147483648 ≤ (I q 4) ∧ (I q 4) < 2147483648 := hA.1 _ _
    have a51 : -2147483648 ≤ (I2 q 4) ∧ (I2 q 4) < 2147483648 := hA4.1 _ _
    have u52 : ((uI I2 208 8 w9) q 4) = (I2 q 4) := uI_o (fun e => absurd e.1 (lay_ne hp.1.1 (show lay 208 = (1, 15) from rfl) (by decide)))
    refine ⟨rfl, ?_⟩
    have n53 : -2147483648 ≤ (wr (((uI I2 208 8 w9) q 4) - 1)) ∧ (wr (((uI I2 208 8 w9) q 4) - 1)) < 2147483648 := wr_R _
    have n54 : -2147483648 ≤ (wr (10 * (wr (((uI I2 208 8 w9) q 4) - 1)))) ∧ (wr (10 * (wr (((uI I2 208 8 w9) q 4) - 1)))) < 2147483648 := wr_R _
    refine ⟨fun (c55 : ((w9 : Int) ≤ (wr (10 * (wr (((uI I2 208 8 w9) q 4) - 1)))))) => ?_, fun (c55 : (¬ ((w9 : Int) ≤ (wr (10 * (wr (((uI I2 208 8 w9) q 4) - 1))))))) => ?_⟩
    ·
      refine ⟨_, rfl, (by decide), (by decide), ?_⟩
      refine ⟨_, rfl, (by decide), ?_⟩
      have u56 : (I2 208 10) = (I 208 10) := hW5 _ _ (by first | decide | omega)
      have a57 : -2147483648 ≤ (I 208 10) ∧ (I 208 10) < 2147483648 := hA.1 _ _
      have a58 : -2147483648 ≤ (I2 208 10) ∧ (I2 208 10) < 2147483648 := hA4.1 _ _
      refine ⟨_, rfl, (by decide), ?_⟩
      refine ⟨⟨_, rfl, (by decide)⟩, ?_⟩
      refine c_mload  hF (Rg.u (Rg.u (Rg.u hR3 (Pr_f rfl)) (Pr_f rfl)) (Pr_f rfl)) hq hp (fun vr59 hr60 => ?_)
      have hr60 : -2147483648 ≤ vr59 ∧ vr59 < 2147483648 := hr60
      refine ⟨_, rfl, (by decide), ?_⟩
      refine fun w0 hw0 => ?_; obtain rfl : w0 = some 209 := hw0.symm.trans (FS.g hF rfl)
      refine ⟨_, rfl, (by decide), ?_⟩
      refine ⟨_, rfl, (by decide), ?_⟩
      refine fun w0 hw0 => ?_; obtain rfl : w0 = some 209 := hw0.symm.trans (FS.g hF rfl)
      refine ⟨_, _, (by decide), rfl, (by decide), ?_⟩
      refine c_mod6 (fun w61 h62 h63 => ?_)
      refine ⟨_, rfl, (by decide), (show (0 : Int) ≤ w61 from by first | with_reducible assumption | omega | (simp only [wr, wl] at *; omega)), (show w61 < (6 : Int) from by first | with_reducible assumption | omega | (simp only [wr, wl] at *; omega)), ?_⟩
      refine ⟨fun (c64 : (¬ (v0 : Int) = 4)) => ?_, fun (c64 : ((v0 : Int) = 4)) => ?_⟩
      ·
        refine ⟨_, rfl, (by decide), ?_⟩
        have u65 : (I2 208 14) = (I 208 14) := hW5 _ _ (by first | decide | omega)
        have a66 : -2147483648 ≤ (I 208 14) ∧ (I 208 14) < 2147483648 := hA.1 _ _
        have a67 : -2147483648 ≤ (I2 208 14) ∧ (I2 208 14) < 2147483648 := hA4.1 _ _
        refine ⟨fun (c68 : (¬ ((I2 208 14) : Int) = 0)) => ?_, fun (c68 : (((I2 208 14) : Int) = 0)) => ?_⟩
        ·
          exact ⟨rfl, fun hv hA' => hQ _ (Rg.u (Rg.u (Rg.u (Rg.u hR3 (Pr_f rfl)) (Pr_f rfl)) (Pr_f rfl)) (Pr_p (k := 209) rfl _ _)) hA' (fun ka ja hk => ((uI_o (show ¬ (ka = 209 ∧ ja = (Int.toNat w61)) from by first | (intro e; obtain ⟨rfl, _⟩ := e; exact hk (by decide)) | omega))).trans (((uI_o (show ¬ (ka = 208 ∧ ja = 10) from by first | (intro e; obtain ⟨rfl, rfl⟩ := e; exact hk (by decide)) | omega))).trans (((uI_o (show ¬ (ka = 208 ∧ ja = 13) from by first | (intro e; obtain ⟨rfl, rfl⟩ := e; exact hk (by decide)) | omega))).trans (((uI_o (show ¬ (ka = 208 ∧ ja = 8) from by first | (intro e; obtain ⟨rfl, rfl⟩ := e; exact hk (by decide)) | omega))).trans ((hW5 ka ja (by omega)))))))⟩
        ·
          refine ⟨⟨_, rfl, (by decide)⟩, ?_⟩
          refine c_askL  hF (Rg.u (Rg.u (Rg.u (Rg.u hR3 (Pr_f rfl)) (Pr_f rfl)) (Pr_f rfl)) (Pr_p (k := 209) rfl _ _)) (fun I69 hR70 hA71 hW72 => ?_)
          exact ⟨rfl, fun hv hA' => hQ _ hR70 hA' (fun ka ja hk => ((hW72 ka ja (by omega))).trans (((uI_o (show ¬ (ka = 209 ∧ ja = (Int.toNat w61)) from by first | (intro e; obtain ⟨rfl, _⟩ := e; exact hk (by decide)) | omega))).trans (((uI_o (show ¬ (ka = 208 ∧ ja = 10) from by first | (intro e; obtain ⟨rfl, rfl⟩ := e; exact hk (by decide)) | omega))).trans (((uI_o (show ¬ (ka = 208 ∧ ja = 13) from by first | (intro e; obtain ⟨rfl, rfl⟩ := e; exact hk (by decide)) | omega))).trans (((uI_o (show ¬ (ka = 208 ∧ ja = 8) from by first | (intro e; obtain ⟨rfl, rfl⟩ := e; exact hk (by decide)) | omega))).trans ((hW5 ka ja (by omega))))))))⟩
      ·
        refine ⟨⟨_, rfl, (by decide)⟩, ?_⟩
        refine c_take  hF (Rg.u (Rg.u (Rg.u (Rg.u hR3 (Pr_f rfl)) (Pr_f rfl)) (Pr_f rfl)) (Pr_p (k := 209) rfl _ _)) (fun I73 hR74 hA75 hW76 => ?_)
        refine ⟨_, rfl, (by decide), ?_⟩
        have u77 : (I2 208 14) = (I 208 14) := hW5 _ _ (by first | decide | omega)
        have a78 : -2147483648 ≤ (I 208 14) ∧ (I 208 14) < 2147483648 := hA.1 _ _
        have a79 : -2147483648 ≤ (I2 208 14) ∧ (I2 208 14) < 2147483648 := hA4.1 _ _
        have u80 : (I73 208 14) = ((uI (uI (uI (uI I2 208 8 w9) 208 13 0) 208 10 (wr ((I2 208 10) + 1))) 209 (Int.toNat w61) vr59) 208 14) := hW76 _ _ (by first | decide | omega)
        have u81 : ((uI (uI (uI (uI I2 208 8 w9) 208 13 0) 208 10 (wr ((I2 208 10) + 1))) 209 (Int.toNat w61) vr59) 208 14) = (I2 208 14) := rfl
        have a82 : -2147483648 ≤ (I73 208 14) ∧ (I73 208 14) < 2147483648 := hA75.1 _ _
        refine ⟨fun (c83 : (¬ ((I73 208 14) : Int) = 0)) => ?_, fun (c83 : (((I73 208 14) : Int) = 0)) => ?_⟩
        ·
          exact ⟨rfl, fun hv hA' => hQ _ hR74 hA' (fun ka ja hk => ((hW76 ka ja (by omega))).trans (((uI_o (show ¬ (ka = 209 ∧ ja = (Int.toNat w61)) from by first | (intro e; obtain ⟨rfl, _⟩ := e; exact hk (by decide)) | omega))).trans (((uI_o (show ¬ (ka = 208 ∧ ja = 10) from by first | (intro e; obtain ⟨rfl, rfl⟩ := e; exact hk (by decide)) | omega))).trans (((uI_o (show ¬ (ka = 208 ∧ ja = 13) from by first | (intro e; obtain ⟨rfl, rfl⟩ := e; exact hk (by decide)) | omega))).trans (((uI_o (show ¬ (ka = 208 ∧ ja = 8) from by first | (intro e; obtain ⟨rfl, rfl⟩ := e; exact hk (by decide)) | omega))).trans ((hW5 ka ja (by omega))))))))⟩
        ·
          refine ⟨⟨_, rfl, (by decide)⟩, ?_⟩
          refine c_askL  hF hR74 (fun I84 hR85 hA86 hW87 => ?_)
          exact ⟨rfl, fun hv hA' => hQ _ hR85 hA' (fun ka ja hk => ((hW87 ka ja (by omega))).trans (((hW76 ka ja (by omega))).trans (((uI_o (show ¬ (ka = 209 ∧ ja = (Int.toNat w61)) from by first | (intro e; obtain ⟨rfl, _⟩ := e; exact hk (by decide)) | omega))).trans (((uI_o (show ¬ (ka = 208 ∧ ja = 10) from by first | (intro e; obtain ⟨rfl, rfl⟩ := e; exact hk (by decide)) | omega))).trans (((uI_o (show ¬ (ka = 208 ∧ ja = 13) from by first | (intro e; obtain ⟨rfl, rfl⟩ := e; exact hk (by decide)) | omega))).trans (((uI_o (show ¬ (ka = 208 ∧ ja = 8) from by first | (intro e; obtain ⟨rfl, rfl⟩ := e; exact hk (by decide)) | omega))).trans ((hW5 ka ja (by omega)))))))))⟩
    ·
      refine ⟨_, rfl, (by decide), (by decide), ?_⟩
      refine ⟨_, rfl, (by decide), ?_⟩
      have u88 : (I2 208 10) = (I 208 10) := hW5 _ _ (by first | decide | omega)
      have a89 : -2147483648 ≤ (I 208 10) ∧ (I 208 10) < 2147483648 := hA.1 _ _
      have a90 : -2147483648 ≤ (I2 208 10) ∧ (I2 208 10) < 2147483648 := hA4.1 _ _
      refine ⟨_, rfl, (by decide), ?_⟩
      refine ⟨⟨_, rfl, (by decide)⟩, ?_⟩
      refine c_mload  hF (Rg.u (Rg.u (Rg.u hR3 (Pr_f rfl)) (Pr_f rfl)) (Pr_f rfl)) hq hp (fun vr91 hr92 => ?_)
      have hr92 : -2147483648 ≤ vr91 ∧ vr91 < 2147483648 := hr92
      refine ⟨_, rfl, (by decide), ?_⟩
      refine fun w0 hw0 => ?_; obtain rfl : w0 = some 209 := hw0.symm.trans (FS.g hF rfl)
      refine ⟨_, rfl, (by decide), ?_⟩
      refine ⟨_, rfl, (by decide), ?_⟩
      refine fun w0 hw0 => ?_; obtain rfl : w0 = some 209 := hw0.symm.trans (FS.g hF rfl)
      refine ⟨_, _, (by decide), rfl, (by decide), ?_⟩
      refine c_mod6 (fun w93 h94 h95 => ?_)
      refine ⟨_, rfl, (by decide), (show (0 : Int) ≤ w93 from by first | with_reducible assumption | omega | (simp only [wr, wl] at *; omega)), (show w93 < (6 : Int) from by first | with_reducible assumption | omega | (simp only [wr, wl] at *; omega)), ?_⟩
      refine ⟨fun (c96 : (¬ (v0 : Int) = 4)) => ?_, fun (c96 : ((v0 : Int) = 4)) => ?_⟩
      ·
        refine ⟨_, rfl, (by decide), ?_⟩
        have u97 : (I2 208 14) = (I 208 14) := hW5 _ _ (by first | decide | omega)
        have a98 : -2147483648 ≤ (I 208 14) ∧ (I 208 14) < 2147483648 := hA.1 _ _
        have a99 : -2147483648 ≤ (I2 208 14) ∧ (I2 208 14) < 2147483648 := hA4.1 _ _
        refine ⟨fun (c100 : (¬ ((I2 208 14) : Int) = 0)) => ?_, fun (c100 : (((I2 208 14) : Int) = 0)) => ?_⟩
        ·
          exact ⟨rfl, fun hv hA' => hQ _ (Rg.u (Rg.u (Rg.u (Rg.u hR3 (Pr_f rfl)) (Pr_f rfl)) (Pr_f rfl)) (Pr_p (k := 209) rfl _ _)) hA' (fun ka ja hk => ((uI_o (show ¬ (ka = 209 ∧ ja = (Int.toNat w93)) from by first | (intro e; obtain ⟨rfl, _⟩ := e; exact hk (by decide)) | omega))).trans (((uI_o (show ¬ (ka = 208 ∧ ja = 10) from by first | (intro e; obtain ⟨rfl, rfl⟩ := e; exact hk (by decide)) | omega))).trans (((uI_o (show ¬ (ka = 208 ∧ ja = 13) from by first | (intro e; obtain ⟨rfl, rfl⟩ := e; exact hk (by decide)) | omega))).trans (((uI_o (show ¬ (ka = 208 ∧ ja = 8) from by first | (intro e; obtain ⟨rfl, rfl⟩ := e; exact hk (by decide)) | omega))).trans ((hW5 ka ja (by omega)))))))⟩
        ·
          refine ⟨⟨_, rfl, (by decide)⟩, ?_⟩
          refine c_askL  hF (Rg.u (Rg.u (Rg.u (Rg.u hR3 (Pr_f rfl)) (Pr_f rfl)) (Pr_f rfl)) (Pr_p (k := 209) rfl _ _)) (fun I101 hR102 hA103 hW104 => ?_)
          exact ⟨rfl, fun hv hA' => hQ _ hR102 hA' (fun ka ja hk => ((hW104 ka ja (by omega))).trans (((uI_o (show ¬ (ka = 209 ∧ ja = (Int.toNat w93)) from by first | (intro e; obtain ⟨rfl, _⟩ := e; exact hk (by decide)) | omega))).trans (((uI_o (show ¬ (ka = 208 ∧ ja = 10) from by first | (intro e; obtain ⟨rfl, rfl⟩ := e; exact hk (by decide)) | omega))).trans (((uI_o (show ¬ (ka = 208 ∧ ja = 13) from by first | (intro e; obtain ⟨rfl, rfl⟩ := e; exact hk (by decide)) | omega))).trans (((uI_o (show ¬ (ka = 208 ∧ ja = 8) from by first | (intro e; obtain ⟨rfl, rfl⟩ := e; exact hk (by decide)) | omega))).trans ((hW5 ka ja (by omega))))))))⟩
      ·
        refine ⟨⟨_, rfl, (by decide)⟩, ?_⟩
        refine c_take  hF (Rg.u (Rg.u (Rg.u (Rg.u hR3 (Pr_f rfl)) (Pr_f rfl)) (Pr_f rfl)) (Pr_p (k := 209) rfl _ _)) (fun I105 hR106 hA107 hW108 => ?_)
        refine ⟨_, rfl, (by decide), ?_⟩
        have u109 : (I2 208 14) = (I 208 14) := hW5 _ _ (by first | decide | omega)
        have a110 : -2147483648 ≤ (I 208 14) ∧ (I 208 14) < 2147483648 := hA.1 _ _
        have a111 : -2147483648 ≤ (I2 208 14) ∧ (I2 208 14) < 2147483648 := hA4.1 _ _
        have u112 : (I105 208 14) = ((uI (uI (uI (uI I2 208 8 w9) 208 13 1) 208 10 (wr ((I2 208 10) + 1))) 209 (Int.toNat w93) vr91) 208 14) := hW108 _ _ (by first | decide | omega)
        have u113 : ((uI (uI (uI (uI I2 208 8 w9) 208 13 1) 208 10 (wr ((I2 208 10) + 1))) 209 (Int.toNat w93) vr91) 208 14) = (I2 208 14) := rfl
        have a114 : -2147483648 ≤ (I105 208 14) ∧ (I105 208 14) < 2147483648 := hA107.1 _ _
        refine ⟨fun (c115 : (¬ ((I105 208 14) : Int) = 0)) => ?_, fun (c115 : (((I105 208 14) : Int) = 0)) => ?_⟩
        ·
          exact ⟨rfl, fun hv hA' => hQ _ hR106 hA' (fun ka ja hk => ((hW108 ka ja (by omega))).trans (((uI_o (show ¬ (ka = 209 ∧ ja = (Int.toNat w93)) from by first | (intro e; obtain ⟨rfl, _⟩ := e; exact hk (by decide)) | omega))).trans (((uI_o (show ¬ (ka = 208 ∧ ja = 10) from by first | (intro e; obtain ⟨rfl, rfl⟩ := e; exact hk (by decide)) | omega))).trans (((uI_o (show ¬ (ka = 208 ∧ ja = 13) from by first | (intro e; obtain ⟨rfl, rfl⟩ := e; exact hk (by decide)) | omega))).trans (((uI_o (show ¬ (ka = 208 ∧ ja = 8) from by first | (intro e; obtain ⟨rfl, rfl⟩ := e; exact hk (by decide)) | omega))).trans ((hW5 ka ja (by omega))))))))⟩
        ·
          refine ⟨⟨_, rfl, (by decide)⟩, ?_⟩
          refine c_askL  hF hR106 (fun I116 hR117 hA118 hW119 => ?_)
          exact ⟨rfl, fun hv hA' => hQ _ hR117 hA' (fun ka ja hk => ((hW119 ka ja (by omega))).trans (((hW108 ka ja (by omega))).trans (((uI_o (show ¬ (ka = 209 ∧ ja = (Int.toNat w93)) from by first | (intro e; obtain ⟨rfl, _⟩ := e; exact hk (by decide)) | omega))).trans (((uI_o (show ¬ (ka = 208 ∧ ja = 10) from by first | (intro e; obtain ⟨rfl, rfl⟩ := e; exact hk (by decide)) | omega))).trans (((uI_o (show ¬ (ka = 208 ∧ ja = 13) from by first | (intro e; obtain ⟨rfl, rfl⟩ := e; exact hk (by decide)) | omega))).trans (((uI_o (show ¬ (ka = 208 ∧ ja = 8) from by first | (intro e; obtain ⟨rfl, rfl⟩ := e; exact hk (by decide)) | omega))).trans ((hW5 ka ja (by omega)))))))))⟩
theorem c_wanted (hF : FS F) (hR : Rg I) {v0 v1 : Int} {q : Nat} (hq : F 208 2 = some q) (hp : PP F q) (hQ : ∀ r : Int, iR r → (0 ≤ r ∧ r ≤ 1) → Q (some (vi r)) F I) : CallN G (d + 4) kX1_isWanted [vr 208, vi v0, vi v1] NP F I Q := by
  refine CallN_in (fun hok hA => CallN_out ?_)
  have iv0 : -2147483648 ≤ v0 ∧ v0 < 2147483648 := hok (vi v0) (by simp)
  have iv1 : -2147483648 ≤ v1 ∧ v1 < 2147483648 := hok (vi v1) (by simp)
  refine Call_wp (lv := [some (vr 208), some (vi v0), some (vi v1)]) (by decide) ckX1_isWanted [] rfl rfl ?_
  refine ⟨fun (c1 : ((v0 : Int) = 1)) => ?_, fun (c1 : (¬ ((v0 : Int) = 1))) => ?_⟩
  ·
    refine ⟨⟨_, rfl, (by decide)⟩, ?_⟩
    refine c_mload  hF hR hq hp (fun vr2 hr3 => ?_)
    have hr3 : -2147483648 ≤ vr2 ∧ vr2 < 2147483648 := hr3
    refine ⟨fun (c4 : ((v1 : Int) ≤ vr2)) => ?_, fun (c4 : (¬ ((v1 : Int) ≤ vr2))) => ?_⟩
    ·
      exact ⟨rfl, (by decide), fun hv hA' => hQ _ (hv _ rfl) (show 0 ≤ 0 ∧ 0 ≤ 1 from by decide)⟩
    ·
      exact ⟨rfl, (by decide), fun hv hA' => hQ _ (hv _ rfl) (show 0 ≤ 1 ∧ 1 ≤ 1 from by decide)⟩
  ·
    refine ⟨fun (c5 : ((v0 : Int) = 5)) => ?_, fun (c5 : (¬ ((v0 : Int) = 5))) => ?_⟩
    ·
      refine ⟨_, rfl, (by decide), ?_⟩
      have a6 : -2147483648 ≤ (I 208 8) ∧ (I 208 8) < 2147483648 := hA.1 _ _
      refine ⟨fun (c7 : ((v1 : Int) ≤ (I 208 8))) => ?_, fun (c7 : (¬ ((v1 : Int) ≤ (I 208 8)))) => ?_⟩
      ·
        exact ⟨rfl, (by decide), fun hv hA' => hQ _ (hv _ rfl) (show 0 ≤ 0 ∧ 0 ≤ 1 from by decide)⟩
      ·
        exact ⟨rfl, (by decide), fun hv hA' => hQ _ (hv _ rfl) (show 0 ≤ 1 ∧ 1 ≤ 1 from by decide)⟩
    ·
      exact ⟨rfl, (by decide), fun hv hA' => hQ _ (hv _ rfl) (show 0 ≤ 1 ∧ 1 ≤ 1 from by decide)⟩
theorem c_part_l (hF : FS F) (hR : Rg I) {v0 v1 : Int} {q : Nat} (hq : F 208 2 = some q) (hp : PP F q) (hQ : ∀ (I' : pI), Rg I' → (∀ k j, ¬ ((k = 208 ∧ 8 ≤ j ∧ j ≤ 13) ∨ k = 209 ∨ (210 ≤ k ∧ k ≤ 212)) → I' k j = I k j) → Q none F I') : ∀ (mz : Nat) (mo i : Int) (J : pI), Rg J → (∀ k j, ¬ ((k = 208 ∧ 8 ≤ j ∧ j ≤ 13) ∨ k = 209 ∨ (210 ≤ k ∧ k ≤ 212)) → J k j = I k j) → ((0 : Int) ≤ i) → (mo - i).toNat < mz → GoN G (d + 5) kX1_doPart NP NP 9 [some (vr 208), some (vi v0), some (vi v1), some (vi mo), some (vi i)] [] F J Q := by
  intro mz
  induction mz with
  | zero => intro mo i J hJ hV _ h; exact absurd h (Nat.not_lt_zero _)
  | succ mz ih =>
    intro mo i J hJ hV c100 hm
    refine GoN_in (fun hok hA => ?_)
    have iiv0 : -2147483648 ≤ v0 ∧ v0 < 2147483648 := hok 1 _ rfl
    have iiv1 : -2147483648 ≤ v1 ∧ v1 < 2147483648 := hok 2 _ rfl
    have iimo : -2147483648 ≤ mo ∧ mo < 2147483648 := hok 3 _ rfl
    have iii : -2147483648 ≤ i ∧ i < 2147483648 := hok 4 _ rfl
    refine Go_wp (by decide) ckX1_doPart [9] ?_
    refine ⟨fun (c1 : ((mo : Int) ≤ i)) => ?_, fun (c1 : (¬ ((mo : Int) ≤ i))) => ?_⟩
    ·
      exact ⟨rfl, hQ _ hJ (fun ka ja hk => (hV ka ja (by omega)))⟩
    ·
      refine ⟨_, rfl, (by decide), ?_⟩
      have u2 : (J 208 14) = (I 208 14) := hV _ _ (by first | decide | omega)
      have a3 : -2147483648 ≤ (J 208 14) ∧ (J 208 14) < 2147483648 := hA.1 _ _
      refine ⟨fun (c4 : (¬ ((J 208 14) : Int) = 0)) => ?_, fun (c4 : (((J 208 14) : Int) = 0)) => ?_⟩
      ·
        refine ⟨⟨_, rfl, (by decide)⟩, ?_⟩
        refine c_wanted (v0 := v0) (v1 := v1) hF hJ hq hp (fun vr5 hr6 q7 => ?_)
        have hr6 : -2147483648 ≤ vr5 ∧ vr5 < 2147483648 := hr6
        have q7 : 0 ≤ vr5 ∧ vr5 ≤ 1 := q7
        refine ⟨fun (c8 : ((vr5 : Int) = 0)) => ?_, fun (c8 : (¬ ((vr5 : Int) = 0))) => ?_⟩
        ·
          exact ⟨rfl, hQ _ hJ (fun ka ja hk => (hV ka ja (by omega)))⟩
        ·
          refine ⟨⟨_, rfl, (by decide)⟩, ?_⟩
          refine c_once (v0 := v0) hF hJ hq hp (fun I9 hR10 hA11 hW12 => ?_)
          have n13 : (wr (i + 1)) = i + 1 := wr_id (show -2147483648 ≤ (i + 1 : Int) ∧ (i + 1 : Int) < 2147483648 from by omega)
          exact ih mo (wr (i + 1)) I9 hR10 (fun ka ja hk => ((hW12 ka ja (by omega))).trans ((hV ka ja (by omega)))) (show (0 : Int) ≤ (wr (i + 1)) from by first | with_reducible assumption | omega | (simp only [wr, wl] at *; omega)) (show (mo - (wr (i + 1))).toNat < mz from by omega)
      ·
        refine ⟨_, rfl, (by decide), ?_⟩
        have a14 : -2147483648 ≤ (J 208 11) ∧ (J 208 11) < 2147483648 := hA.1 _ _
        refine ⟨fun (c15 : (¬ ((J 208 11) : Int) = 0)) => ?_, fun (c15 : (((J 208 11) : Int) = 0)) => ?_⟩
        ·
          exact ⟨rfl, hQ _ hJ (fun ka ja hk => (hV ka ja (by omega)))⟩
        ·
          refine ⟨⟨_, rfl, (by decide)⟩, ?_⟩
          refine c_wanted (v0 := v0) (v1 := v1) hF hJ hq hp (fun vr16 hr17 q18 => ?_)
          have hr17 : -2147483648 ≤ vr16 ∧ vr16 < 2147483648 := hr17
          have q18 : 0 ≤ vr16 ∧ vr16 ≤ 1 := q18
          refine ⟨fun (c19 : ((vr16 : Int) = 0)) => ?_, fun (c19 : (¬ ((vr16 : Int) = 0))) => ?_⟩
          ·
            exact ⟨rfl, hQ _ hJ (fun ka ja hk => (hV ka ja (by omega)))⟩
          ·
            refine ⟨⟨_, rfl, (by decide)⟩, ?_⟩
            refine c_once (v0 := v0) hF hJ hq hp (fun I20 hR21 hA22 hW23 => ?_)
            have n24 : (wr (i + 1)) = i + 1 := wr_id (show -2147483648 ≤ (i + 1 : Int) ∧ (i + 1 : Int) < 2147483648 from by omega)
            exact ih mo (wr (i + 1)) I20 hR21 (fun ka ja hk => ((hW23 ka ja (by omega))).trans ((hV ka ja (by omega)))) (show (0 : Int) ≤ (wr (i + 1)) from by first | with_reducible assumption | omega | (simp only [wr, wl] at *; omega)) (show (mo - (wr (i + 1))).toNat < mz from by omega)
theorem c_part (hF : FS F) (hR : Rg I) {v0 v1 : Int} {q : Nat} (hq : F 208 2 = some q) (hp : PP F q) (hQ : ∀ (I' : pI), Rg I' → AR I' → (∀ k j, ¬ ((k = 208 ∧ 8 ≤ j ∧ j ≤ 13) ∨ k = 209 ∨ (210 ≤ k ∧ k ≤ 212)) → I' k j = I k j) → Q none F I') : CallN G (d + 5) kX1_doPart [vr 208, vi v0, vi v1] NP F I Q := by
  refine CallN_in (fun hok hA => CallN_out ?_)
  have iv0 : -2147483648 ≤ v0 ∧ v0 < 2147483648 := hok (vi v0) (by simp)
  have iv1 : -2147483648 ≤ v1 ∧ v1 < 2147483648 := hok (vi v1) (by simp)
  refine Call_wp (lv := [some (vr 208), some (vi v0), some (vi v1), none, none]) (by decide) ckX1_doPart [9] rfl rfl ?_
  refine Call_wp (lv := [some (vi v0), some (vi v1)]) (by decide) ckX1_timesAtMost [] rfl rfl ?_
  refine ⟨fun (c1 : ((v0 : Int) = 1)) => ?_, fun (c1 : (¬ ((v0 : Int) = 1))) => ?_⟩
  ·
    refine ⟨rfl, ?_⟩
    refine c_part_l hF hR hq hp (fun I' g1 g2 hv hA' => hQ _ g1 hA' g2) _ 300 0 I hR (fun _ _ _ => rfl) (show (0 : Int) ≤ (0 : Int) from Int.le_refl _) (Nat.lt_succ_self _)
  ·
    refine ⟨fun (c2 : ((v0 : Int) = 2)) => ?_, fun (c2 : (¬ ((v0 : Int) = 2))) => ?_⟩
    ·
      refine ⟨rfl, ?_⟩
      refine c_part_l hF hR hq hp (fun I' g1 g2 hv hA' => hQ _ g1 hA' g2) _ v1 0 I hR (fun _ _ _ => rfl) (show (0 : Int) ≤ (0 : Int) from Int.le_refl _) (Nat.lt_succ_self _)
    ·
      refine ⟨fun (c3 : ((v0 : Int) = 3)) => ?_, fun (c3 : (¬ ((v0 : Int) = 3))) => ?_⟩
      ·
        refine ⟨rfl, ?_⟩
        refine c_part_l hF hR hq hp (fun I' g1 g2 hv hA' => hQ _ g1 hA' g2) _ v1 0 I hR (fun _ _ _ => rfl) (show (0 : Int) ≤ (0 : Int) from Int.le_refl _) (Nat.lt_succ_self _)
      ·
        refine ⟨fun (c4 : ((v0 : Int) = 4)) => ?_, fun (c4 : (¬ ((v0 : Int) = 4))) => ?_⟩
        ·
          refine ⟨rfl, ?_⟩
          refine c_part_l hF hR hq hp (fun I' g1 g2 hv hA' => hQ _ g1 hA' g2) _ 1 0 I hR (fun _ _ _ => rfl) (show (0 : Int) ≤ (0 : Int) from Int.le_refl _) (Nat.lt_succ_self _)
        ·
          refine ⟨fun (c5 : ((v0 : Int) = 5)) => ?_, fun (c5 : (¬ ((v0 : Int) = 5))) => ?_⟩
          ·
            refine ⟨rfl, ?_⟩
            refine c_part_l hF hR hq hp (fun I' g1 g2 hv hA' => hQ _ g1 hA' g2) _ 300 0 I hR (fun _ _ _ => rfl) (show (0 : Int) ≤ (0 : Int) from Int.le_refl _) (Nat.lt_succ_self _)
          ·
            refine ⟨rfl, ?_⟩
            refine c_part_l hF hR hq hp (fun I' g1 g2 hv hA' => hQ _ g1 hA' g2) _ v1 0 I hR (fun _ _ _ => rfl) (show (0 : Int) ≤ (0 : Int) from Int.le_refl _) (Nat.lt_succ_self _)
theorem c_perf_l2 (hF : FS F) (hR : Rg I) {q : Nat} (hq : F 208 2 = some q) (hp : PP F q) {g : Nat} (hg : GP F g) (hn : g + 2 < 208) (hQ : ∀ (I' : pI), Rg I' → (∀ k j, ¬ (208 ≤ k ∧ k ≤ 212) → I' k j = I k j) → Q none F I') : ∀ (mz : Nat) (p i : Int) (J : pI), Rg J → (∀ k j, ¬ (208 ≤ k ∧ k ≤ 212) → J k j = I k j) → ((J g 4) = I g 4) → ((J g 4) - i).toNat < mz → GoN G (d + 6) kX1_perform NP NP 78 [some (vr 208), some (vr g), some (vr q), some (vr 1), some (vi p), some (vi i)] [] F J Q := by
  intro mz
  induction mz with
  | zero => intro p i J hJ hV _ h; exact absurd h (Nat.not_lt_zero _)
  | succ mz ih =>
    intro p i J hJ hV c100 hm
    refine GoN_in (fun hok hA => ?_)
    have iip : -2147483648 ≤ p ∧ p < 2147483648 := hok 4 _ rfl
    have iii : -2147483648 ≤ i ∧ i < 2147483648 := hok 5 _ rfl
    have u1 : (J g 4) = (I g 4) := hV _ _ (by first | decide | omega)
    have a2 : -2147483648 ≤ (J g 4) ∧ (J g 4) < 2147483648 := hA.1 _ _
    refine Go_wp (by decide) ckX1_perform [78] ?_
    refine ⟨_, hg.1.1, (by have := hg.2; show _ < 254; omega), ?_⟩
    refine ⟨fun (c3 : (((J g 4) : Int) ≤ i)) => ?_, fun (c3 : (¬ (((J g 4) : Int) ≤ i))) => ?_⟩
    ·
      exact ⟨rfl, hQ _ hJ (fun ka ja hk => (hV ka ja (by omega)))⟩
    ·
      refine ⟨⟨_, hg.1.1, (by have := hg.2; show _ < 254; omega)⟩, ?_⟩
      refine Call_wp (lv := [some (vr g), some (vi i)]) (by decide) ckX5_actAt [] rfl rfl ?_
      refine ⟨fun (c4 : ((i : Int) < 0)) => ?_, fun (c4 : (¬ ((i : Int) < 0))) => ?_⟩
      ·
        refine ⟨rfl, ?_⟩
        refine ⟨⟨_, hg.1.1, (by have := hg.2; show _ < 254; omega)⟩, ?_⟩
        refine Call_wp (lv := [some (vr g), some (vi i)]) (by decide) ckX5_amountAt [] rfl rfl ?_
        refine ⟨fun _ => ?_, fun c => absurd (show ((i : Int) < 0) from by first | with_reducible assumption | omega | (simp only [wr, wl] at *; omega)) c⟩
        refine ⟨rfl, ?_⟩
        refine ⟨⟨_, rfl, (by decide)⟩, ?_⟩
        refine c_part (v0 := 4) (v1 := 0) hF hJ hq hp (fun I5 hR6 hA7 hW8 => ?_)
        have n9 : (wr (i + 1)) = i + 1 := wr_id (show -2147483648 ≤ (i + 1 : Int) ∧ (i + 1 : Int) < 2147483648 from by omega)
        have u10 : (I5 g 4) = (J g 4) := hW8 _ _ (by first | decide | omega)
        have a11 : -2147483648 ≤ (I5 g 4) ∧ (I5 g 4) < 2147483648 := hA7.1 _ _
        exact ih p (wr (i + 1)) I5 hR6 (fun ka ja hk => ((hW8 ka ja (by omega))).trans ((hV ka ja (by omega)))) (show (I5 g 4) = I g 4 from by first | rfl | omega) (show ((I5 g 4) - (wr (i + 1))).toNat < mz from by omega)
      ·
        refine ⟨fun (c12 : ((32 : Int) ≤ i)) => ?_, fun (c12 : (¬ ((32 : Int) ≤ i))) => ?_⟩
        ·
          refine ⟨rfl, ?_⟩
          refine ⟨⟨_, hg.1.1, (by have := hg.2; show _ < 254; omega)⟩, ?_⟩
          refine Call_wp (lv := [some (vr g), some (vi i)]) (by decide) ckX5_amountAt [] rfl rfl ?_
          refine ⟨fun c => absurd c (show (¬ ((i : Int) < 0)) from by first | omega | (simp only [wr, wl] at *; omega)), fun _ => ?_⟩
          refine ⟨fun _ => ?_, fun c => absurd (show ((32 : Int) ≤ i) from by first | with_reducible assumption | omega | (simp only [wr, wl] at *; omega)) c⟩
          refine ⟨rfl, ?_⟩
          refine ⟨⟨_, rfl, (by decide)⟩, ?_⟩
          refine c_part (v0 := 4) (v1 := 0) hF hJ hq hp (fun I13 hR14 hA15 hW16 => ?_)
          have n17 : (wr (i + 1)) = i + 1 := wr_id (show -2147483648 ≤ (i + 1 : Int) ∧ (i + 1 : Int) < 2147483648 from by omega)
          have u18 : (I13 g 4) = (J g 4) := hW16 _ _ (by first | decide | omega)
          have a19 : -2147483648 ≤ (I13 g 4) ∧ (I13 g 4) < 2147483648 := hA15.1 _ _
          exact ih p (wr (i + 1)) I13 hR14 (fun ka ja hk => ((hW16 ka ja (by omega))).trans ((hV ka ja (by omega)))) (show (I13 g 4) = I g 4 from by first | rfl | omega) (show ((I13 g 4) - (wr (i + 1))).toNat < mz from by omega)
        ·
          refine ⟨_, hg.1.1, (by have := hg.2; show _ < 254; omega), ?_⟩
          refine fun w0 hw0 => ?_; obtain rfl : w0 = some (g + 1) := hw0.symm.trans hg.1.2.2.2.2.1
          refine ⟨_, hg.1.2.1, (by have := hg.2; show _ < 254; omega), (show (0 : Int) ≤ i from by first | with_reducible assumption | omega | (simp only [wr, wl] at *; omega)), (show i < (32 : Int) from by first | with_reducible assumption | omega | (simp only [wr, wl] at *; omega)), ?_⟩
          have u20 : (J (g + 1) (Int.toNat i)) = (I (g + 1) (Int.toNat i)) := hV _ _ (by first | decide | omega)
          have a21 : -2147483648 ≤ (J (g + 1) (Int.toNat i)) ∧ (J (g + 1) (Int.toNat i)) < 2147483648 := hA.1 _ _
          refine ⟨rfl, ?_⟩
          refine ⟨⟨_, hg.1.1, (by have := hg.2; show _ < 254; omega)⟩, ?_⟩
          refine Call_wp (lv := [some (vr g), some (vi i)]) (by decide) ckX5_amountAt [] rfl rfl ?_
          refine ⟨fun c => absurd c (show (¬ ((i : Int) < 0)) from by first | omega | (simp only [wr, wl] at *; omega)), fun _ => ?_⟩
          refine ⟨fun c => absurd c (show (¬ ((32 : Int) ≤ i)) from by first | omega | (simp only [wr, wl] at *; omega)), fun _ => ?_⟩
          refine ⟨_, hg.1.1, (by have := hg.2; show _ < 254; omega), ?_⟩
          refine fun w0 hw0 => ?_; obtain rfl : w0 = some (g + 2) := hw0.symm.trans hg.1.2.2.2.2.2
          refine ⟨_, hg.1.2.2.1, (by have := hg.2; show _ < 254; omega), (show (0 : Int) ≤ i from by first | with_reducible assumption | omega | (simp only [wr, wl] at *; omega)), (show i < (32 : Int) from by first | with_reducible assumption | omega | (simp only [wr, wl] at *; omega)), ?_⟩
          have u22 : (J (g + 2) (Int.toNat i)) = (I (g + 2) (Int.toNat i)) := hV _ _ (by first | decide | omega)
          have a23 : -2147483648 ≤ (J (g + 2) (Int.toNat i)) ∧ (J (g + 2) (Int.toNat i)) < 2147483648 := hA.1 _ _
          refine ⟨rfl, ?_⟩
          refine ⟨⟨_, rfl, (by decide)⟩, ?_⟩
          refine c_part (v0 := (J (g + 1) (Int.toNat i))) (v1 := (J (g + 2) (Int.toNat i))) hF hJ hq hp (fun I24 hR25 hA26 hW27 => ?_)
          have n28 : (wr (i + 1)) = i + 1 := wr_id (show -2147483648 ≤ (i + 1 : Int) ∧ (i + 1 : Int) < 2147483648 from by omega)
          have u29 : (I24 g 4) = (J g 4) := hW27 _ _ (by first | decide | omega)
          have a30 : -2147483648 ≤ (I24 g 4) ∧ (I24 g 4) < 2147483648 := hA26.1 _ _
          exact ih p (wr (i + 1)) I24 hR25 (fun ka ja hk => ((hW27 ka ja (by omega))).trans ((hV ka ja (by omega)))) (show (I24 g 4) = I g 4 from by first | rfl | omega) (show ((I24 g 4) - (wr (i + 1))).toNat < mz from by omega)
theorem c_perf_l1 (hF : FS F) (hR : Rg I) {q : Nat} (hq : F 208 2 = some q) (hp : PP F q) {g : Nat} (hg : GP F g) (hn : g + 2 < 208) (hQ : ∀ (I' : pI), Rg I' → (∀ k j, ¬ (208 ≤ k ∧ k ≤ 212) → I' k j = I k j) → Q none F I') : ∀ (mz : Nat) (p : Int) (J : pI), Rg J → (∀ k j, ¬ (208 ≤ k ∧ k ≤ 212) → J k j = I k j) → ((0 : Int) ≤ p) → ((J g 3) = I g 3) → ((J g 3) - p).toNat < mz → GoN G (d + 6) kX1_perform NP NP 9 [some (vr 208), some (vr g), some (vr q), some (vr 1), some (vi p), none] [] F J Q := by
  intro mz
  induction mz with
  | zero => intro p J hJ hV _ _ h; exact absurd h (Nat.not_lt_zero _)
  | succ mz ih =>
    intro p J hJ hV c100 c101 hm
    refine GoN_in (fun hok hA => ?_)
    have iip : -2147483648 ≤ p ∧ p < 2147483648 := hok 4 _ rfl
    have u1 : (J g 3) = (I g 3) := hV _ _ (by first | decide | omega)
    have a2 : -2147483648 ≤ (J g 3) ∧ (J g 3) < 2147483648 := hA.1 _ _
    refine Go_wp (by decide) ckX1_perform [9, 78] ?_
    refine ⟨_, hg.1.1, (by have := hg.2; show _ < 254; omega), ?_⟩
    refine ⟨fun (c3 : (((J g 3) : Int) ≤ p)) => ?_, fun (c3 : (¬ (((J g 3) : Int) ≤ p))) => ?_⟩
    ·
      refine ⟨_, rfl, (by decide), ?_⟩
      have a4 : -2147483648 ≤ (J 208 11) ∧ (J 208 11) < 2147483648 := hA.1 _ _
      refine ⟨fun (c5 : (¬ ((J 208 11) : Int) = 0)) => ?_, fun (c5 : (((J 208 11) : Int) = 0)) => ?_⟩
      ·
        refine ⟨_, rfl, (by decide), ?_⟩
        refine ⟨_, rfl, (by decide), (by decide), ?_⟩
        refine ⟨_, hg.1.1, (by have := hg.2; show _ < 254; omega), ?_⟩
        have u6 : ((uI (uI J 208 12 (wr (p - 1))) 208 14 1) g 3) = (J g 3) := (uI_o (fun e => absurd e.1 (lay_ne hg.1.1 (show lay 208 = (1, 15) from rfl) (by decide)))).trans (uI_o (fun e => absurd e.1 (lay_ne hg.1.1 (show lay 208 = (1, 15) from rfl) (by decide))))
        have u7 : (J g 4) = (I g 4) := hV _ _ (by first | decide | omega)
        have a8 : -2147483648 ≤ (J g 4) ∧ (J g 4) < 2147483648 := hA.1 _ _
        have u9 : ((uI (uI J 208 12 (wr (p - 1))) 208 14 1) g 4) = (J g 4) := (uI_o (fun e => absurd e.1 (lay_ne hg.1.1 (show lay 208 = (1, 15) from rfl) (by decide)))).trans (uI_o (fun e => absurd e.1 (lay_ne hg.1.1 (show lay 208 = (1, 15) from rfl) (by decide))))
        refine c_perf_l2 hF hR hq hp hg hn hQ _ p ((uI (uI J 208 12 (wr (p - 1))) 208 14 1) g 3) (uI (uI J 208 12 (wr (p - 1))) 208 14 1) (Rg.u (Rg.u hJ (Pr_f rfl)) (Pr_f rfl)) (fun ka ja hk => ((uI_o (show ¬ (ka = 208 ∧ ja = 14) from by first | (intro e; obtain ⟨rfl, rfl⟩ := e; exact hk (by decide)) | omega))).trans (((uI_o (show ¬ (ka = 208 ∧ ja = 12) from by first | (intro e; obtain ⟨rfl, rfl⟩ := e; exact hk (by decide)) | omega))).trans ((hV ka ja (by omega))))) (show ((uI (uI J 208 12 (wr (p - 1))) 208 14 1) g 4) = I g 4 from by first | rfl | omega) (Nat.lt_succ_self _)
      ·
        refine ⟨_, rfl, (by decide), ?_⟩
        refine ⟨_, rfl, (by decide), (by decide), ?_⟩
        refine ⟨_, hg.1.1, (by have := hg.2; show _ < 254; omega), ?_⟩
        have u10 : ((uI (uI J 208 12 p) 208 14 1) g 3) = (J g 3) := (uI_o (fun e => absurd e.1 (lay_ne hg.1.1 (show lay 208 = (1, 15) from rfl) (by decide)))).trans (uI_o (fun e => absurd e.1 (lay_ne hg.1.1 (show lay 208 = (1, 15) from rfl) (by decide))))
        have u11 : (J g 4) = (I g 4) := hV _ _ (by first | decide | omega)
        have a12 : -2147483648 ≤ (J g 4) ∧ (J g 4) < 2147483648 := hA.1 _ _
        have u13 : ((uI (uI J 208 12 p) 208 14 1) g 4) = (J g 4) := (uI_o (fun e => absurd e.1 (lay_ne hg.1.1 (show lay 208 = (1, 15) from rfl) (by decide)))).trans (uI_o (fun e => absurd e.1 (lay_ne hg.1.1 (show lay 208 = (1, 15) from rfl) (by decide))))
        refine c_perf_l2 hF hR hq hp hg hn hQ _ p ((uI (uI J 208 12 p) 208 14 1) g 3) (uI (uI J 208 12 p) 208 14 1) (Rg.u (Rg.u hJ (Pr_f rfl)) (Pr_f rfl)) (fun ka ja hk => ((uI_o (show ¬ (ka = 208 ∧ ja = 14) from by first | (intro e; obtain ⟨rfl, rfl⟩ := e; exact hk (by decide)) | omega))).trans (((uI_o (show ¬ (ka = 208 ∧ ja = 12) from by first | (intro e; obtain ⟨rfl, rfl⟩ := e; exact hk (by decide)) | omega))).trans ((hV ka ja (by omega))))) (show ((uI (uI J 208 12 p) 208 14 1) g 4) = I g 4 from by first | rfl | omega) (Nat.lt_succ_self _)
    ·
      refine ⟨_, rfl, (by decide), ?_⟩
      have a14 : -2147483648 ≤ (J 208 11) ∧ (J 208 11) < 2147483648 := hA.1 _ _
      refine ⟨fun (c15 : (¬ ((J 208 11) : Int) = 0)) => ?_, fun (c15 : (((J 208 11) : Int) = 0)) => ?_⟩
      ·
        refine ⟨_, rfl, (by decide), ?_⟩
        refine ⟨fun _ => ?_, fun c => absurd c (show (¬ ((J 208 11) : Int) = 0) from by first | omega | (simp only [wr, wl] at *; omega))⟩
        refine ⟨_, rfl, (by decide), ?_⟩
        refine ⟨_, rfl, (by decide), (by decide), ?_⟩
        refine ⟨_, hg.1.1, (by have := hg.2; show _ < 254; omega), ?_⟩
        have u16 : ((uI (uI J 208 12 (wr (p - 1))) 208 14 1) g 3) = (J g 3) := (uI_o (fun e => absurd e.1 (lay_ne hg.1.1 (show lay 208 = (1, 15) from rfl) (by decide)))).trans (uI_o (fun e => absurd e.1 (lay_ne hg.1.1 (show lay 208 = (1, 15) from rfl) (by decide))))
        have u17 : (J g 4) = (I g 4) := hV _ _ (by first | decide | omega)
        have a18 : -2147483648 ≤ (J g 4) ∧ (J g 4) < 2147483648 := hA.1 _ _
        have u19 : ((uI (uI J 208 12 (wr (p - 1))) 208 14 1) g 4) = (J g 4) := (uI_o (fun e => absurd e.1 (lay_ne hg.1.1 (show lay 208 = (1, 15) from rfl) (by decide)))).trans (uI_o (fun e => absurd e.1 (lay_ne hg.1.1 (show lay 208 = (1, 15) from rfl) (by decide))))
        refine c_perf_l2 hF hR hq hp hg hn hQ _ p ((uI (uI J 208 12 (wr (p - 1))) 208 14 1) g 3) (uI (uI J 208 12 (wr (p - 1))) 208 14 1) (Rg.u (Rg.u hJ (Pr_f rfl)) (Pr_f rfl)) (fun ka ja hk => ((uI_o (show ¬ (ka = 208 ∧ ja = 14) from by first | (intro e; obtain ⟨rfl, rfl⟩ := e; exact hk (by decide)) | omega))).trans (((uI_o (show ¬ (ka = 208 ∧ ja = 12) from by first | (intro e; obtain ⟨rfl, rfl⟩ := e; exact hk (by decide)) | omega))).trans ((hV ka ja (by omega))))) (show ((uI (uI J 208 12 (wr (p - 1))) 208 14 1) g 4) = I g 4 from by first | rfl | omega) (Nat.lt_succ_self _)
      ·
        refine ⟨⟨_, hg.1.1, (by have := hg.2; show _ < 254; omega)⟩, ?_⟩
        refine Call_wp (lv := [some (vr g), some (vi p)]) (by decide) ckX5_actAt [] rfl rfl ?_
        refine ⟨fun c => absurd c (show (¬ ((p : Int) < 0)) from by first | omega | (simp only [wr, wl] at *; omega)), fun _ => ?_⟩
        refine ⟨fun (c20 : ((32 : Int) ≤ p)) => ?_, fun (c20 : (¬ ((32 : Int) ≤ p))) => ?_⟩
        ·
          refine ⟨rfl, ?_⟩
          refine ⟨⟨_, hg.1.1, (by have := hg.2; show _ < 254; omega)⟩, ?_⟩
          refine Call_wp (lv := [some (vr g), some (vi p)]) (by decide) ckX5_amountAt [] rfl rfl ?_
          refine ⟨fun c => absurd c (show (¬ ((p : Int) < 0)) from by first | omega | (simp only [wr, wl] at *; omega)), fun _ => ?_⟩
          refine ⟨fun _ => ?_, fun c => absurd (show ((32 : Int) ≤ p) from by first | with_reducible assumption | omega | (simp only [wr, wl] at *; omega)) c⟩
          refine ⟨rfl, ?_⟩
          refine ⟨⟨_, rfl, (by decide)⟩, ?_⟩
          refine c_part (v0 := 4) (v1 := 0) hF hJ hq hp (fun I21 hR22 hA23 hW24 => ?_)
          have n25 : (wr (p + 1)) = p + 1 := wr_id (show -2147483648 ≤ (p + 1 : Int) ∧ (p + 1 : Int) < 2147483648 from by omega)
          have u26 : (I21 g 3) = (J g 3) := hW24 _ _ (by first | decide | omega)
          have a27 : -2147483648 ≤ (I21 g 3) ∧ (I21 g 3) < 2147483648 := hA23.1 _ _
          exact ih (wr (p + 1)) I21 hR22 (fun ka ja hk => ((hW24 ka ja (by omega))).trans ((hV ka ja (by omega)))) (show (0 : Int) ≤ (wr (p + 1)) from by first | rfl | omega) (show (I21 g 3) = I g 3 from by first | rfl | omega) (show ((I21 g 3) - (wr (p + 1))).toNat < mz from by omega)
        ·
          refine ⟨_, hg.1.1, (by have := hg.2; show _ < 254; omega), ?_⟩
          refine fun w0 hw0 => ?_; obtain rfl : w0 = some (g + 1) := hw0.symm.trans hg.1.2.2.2.2.1
          refine ⟨_, hg.1.2.1, (by have := hg.2; show _ < 254; omega), (show (0 : Int) ≤ p from by first | with_reducible assumption | omega | (simp only [wr, wl] at *; omega)), (show p < (32 : Int) from by first | with_reducible assumption | omega | (simp only [wr, wl] at *; omega)), ?_⟩
          have u28 : (J (g + 1) (Int.toNat p)) = (I (g + 1) (Int.toNat p)) := hV _ _ (by first | decide | omega)
          have a29 : -2147483648 ≤ (J (g + 1) (Int.toNat p)) ∧ (J (g + 1) (Int.toNat p)) < 2147483648 := hA.1 _ _
          refine ⟨rfl, ?_⟩
          refine ⟨⟨_, hg.1.1, (by have := hg.2; show _ < 254; omega)⟩, ?_⟩
          refine Call_wp (lv := [some (vr g), some (vi p)]) (by decide) ckX5_amountAt [] rfl rfl ?_
          refine ⟨fun c => absurd c (show (¬ ((p : Int) < 0)) from by first | omega | (simp only [wr, wl] at *; omega)), fun _ => ?_⟩
          refine ⟨fun c => absurd c (show (¬ ((32 : Int) ≤ p)) from by first | omega | (simp only [wr, wl] at *; omega)), fun _ => ?_⟩
          refine ⟨_, hg.1.1, (by have := hg.2; show _ < 254; omega), ?_⟩
          refine fun w0 hw0 => ?_; obtain rfl : w0 = some (g + 2) := hw0.symm.trans hg.1.2.2.2.2.2
          refine ⟨_, hg.1.2.2.1, (by have := hg.2; show _ < 254; omega), (show (0 : Int) ≤ p from by first | with_reducible assumption | omega | (simp only [wr, wl] at *; omega)), (show p < (32 : Int) from by first | with_reducible assumption | omega | (simp only [wr, wl] at *; omega)), ?_⟩
          have u30 : (J (g + 2) (Int.toNat p)) = (I (g + 2) (Int.toNat p)) := hV _ _ (by first | decide | omega)
          have a31 : -2147483648 ≤ (J (g + 2) (Int.toNat p)) ∧ (J (g + 2) (Int.toNat p)) < 2147483648 := hA.1 _ _
          refine ⟨rfl, ?_⟩
          refine ⟨⟨_, rfl, (by decide)⟩, ?_⟩
          refine c_part (v0 := (J (g + 1) (Int.toNat p))) (v1 := (J (g + 2) (Int.toNat p))) hF hJ hq hp (fun I32 hR33 hA34 hW35 => ?_)
          have n36 : (wr (p + 1)) = p + 1 := wr_id (show -2147483648 ≤ (p + 1 : Int) ∧ (p + 1 : Int) < 2147483648 from by omega)
          have u37 : (I32 g 3) = (J g 3) := hW35 _ _ (by first | decide | omega)
          have a38 : -2147483648 ≤ (I32 g 3) ∧ (I32 g 3) < 2147483648 := hA34.1 _ _
          exact ih (wr (p + 1)) I32 hR33 (fun ka ja hk => ((hW35 ka ja (by omega))).trans ((hV ka ja (by omega)))) (show (0 : Int) ≤ (wr (p + 1)) from by first | rfl | omega) (show (I32 g 3) = I g 3 from by first | rfl | omega) (show ((I32 g 3) - (wr (p + 1))).toNat < mz from by omega)
theorem c_perf (hF : FS F) (hR : Rg I) {q : Nat} (hp : PP F q) {g : Nat} (hg : GP F g) (hn : g + 2 < 208) (hQ : ∀ (I' : pI), Rg I' → AR I' → (∀ k j, ¬ (208 ≤ k ∧ k ≤ 212) → I' k j = I k j) → Q none (uF F 208 2 (some q)) I') : CallN G (d + 6) kX1_perform [vr 208, vr g, vr q, vr 1] NP F I Q := by
  refine CallN_in (fun hok hA => CallN_out ?_)
  refine Call_wp (lv := [some (vr 208), some (vr g), some (vr q), some (vr 1), none, none]) (by decide) ckX1_perform [9] rfl rfl ?_
  refine ⟨⟨_, rfl, (by decide)⟩, ?_⟩
  refine Call_wp (lv := [some (vr 208), some (vr q), some (vr 1)]) (by decide) ckX1_begin [] rfl rfl ?_
  refine ⟨_, rfl, (by decide), ?_⟩
  refine ⟨_, rfl, (by decide), ?_⟩
  refine fun w0 hw0 => ?_; obtain rfl : w0 = some 210 := hw0.symm.trans (FS.g (FS.u hF rfl) rfl)
  refine ⟨⟨_, rfl, (by decide)⟩, ?_⟩
  refine Call_wp (lv := [some (vr 210)]) (by decide) ckX6_clear [] rfl rfl ?_
  refine ⟨_, rfl, (by decide), ?_⟩
  refine ⟨rfl, ?_⟩
  refine ⟨⟨_, rfl, (by decide)⟩, ?_⟩
  refine Call_wp (lv := [some (vr 1), some (vi 0)]) (by decide) ckX8_limitAt [] rfl rfl ?_
  refine ⟨fun c => absurd c (show (¬ ((0 : Int) < 0)) from by decide), fun _ => ?_⟩
  refine ⟨fun c => absurd c (show (¬ ((5 : Int) ≤ 0)) from by decide), fun _ => ?_⟩
  refine ⟨_, rfl, (by decide), ?_⟩
  refine fun w0 hw0 => ?_; obtain rfl : w0 = some 4 := hw0.symm.trans (FS.g (FS.u hF rfl) rfl)
  refine ⟨_, rfl, (by decide), (by decide), (by decide), ?_⟩
  refine ⟨rfl, ?_⟩
  refine ⟨_, rfl, (by decide), ?_⟩
  refine ⟨⟨_, rfl, (by decide)⟩, ?_⟩
  refine Call_wp (lv := [some (vr 1), some (vi 1)]) (by decide) ckX8_limitAt [] rfl rfl ?_
  refine ⟨fun c => absurd c (show (¬ ((1 : Int) < 0)) from by decide), fun _ => ?_⟩
  refine ⟨fun c => absurd c (show (¬ ((5 : Int) ≤ 1)) from by decide), fun _ => ?_⟩
  refine ⟨_, rfl, (by decide), ?_⟩
  refine fun w0 hw0 => ?_; obtain rfl : w0 = some 4 := hw0.symm.trans (FS.g (FS.u hF rfl) rfl)
  refine ⟨_, rfl, (by decide), (by decide), (by decide), ?_⟩
  refine ⟨rfl, ?_⟩
  refine ⟨_, rfl, (by decide), ?_⟩
  refine ⟨⟨_, rfl, (by decide)⟩, ?_⟩
  refine Call_wp (lv := [some (vr 1), some (vi 2)]) (by decide) ckX8_limitAt [] rfl rfl ?_
  refine ⟨fun c => absurd c (show (¬ ((2 : Int) < 0)) from by decide), fun _ => ?_⟩
  refine ⟨fun c => absurd c (show (¬ ((5 : Int) ≤ 2)) from by decide), fun _ => ?_⟩
  refine ⟨_, rfl, (by decide), ?_⟩
  refine fun w0 hw0 => ?_; obtain rfl : w0 = some 4 := hw0.symm.trans (FS.g (FS.u hF rfl) rfl)
  refine ⟨_, rfl, (by decide), (by decide), (by decide), ?_⟩
  refine ⟨rfl, ?_⟩
  refine ⟨_, rfl, (by decide), ?_⟩
  refine ⟨⟨_, rfl, (by decide)⟩, ?_⟩
  refine Call_wp (lv := [some (vr 1), some (vi 3)]) (by decide) ckX8_limitAt [] rfl rfl ?_
  refine ⟨fun c => absurd c (show (¬ ((3 : Int) < 0)) from by decide), fun _ => ?_⟩
  refine ⟨fun c => absurd c (show (¬ ((5 : Int) ≤ 3)) from by decide), fun _ => ?_⟩
  refine ⟨_, rfl, (by decide), ?_⟩
  refine fun w0 hw0 => ?_; obtain rfl : w0 = some 4 := hw0.symm.trans (FS.g (FS.u hF rfl) rfl)
  refine ⟨_, rfl, (by decide), (by decide), (by decide), ?_⟩
  refine ⟨rfl, ?_⟩
  refine ⟨_, rfl, (by decide), ?_⟩
  refine ⟨⟨_, rfl, (by decide)⟩, ?_⟩
  refine Call_wp (lv := [some (vr 1), some (vi 4)]) (by decide) ckX8_limitAt [] rfl rfl ?_
  refine ⟨fun c => absurd c (show (¬ ((4 : Int) < 0)) from by decide), fun _ => ?_⟩
  refine ⟨fun c => absurd c (show (¬ ((5 : Int) ≤ 4)) from by decide), fun _ => ?_⟩
  refine ⟨_, rfl, (by decide), ?_⟩
  refine fun w0 hw0 => ?_; obtain rfl : w0 = some 4 := hw0.symm.trans (FS.g (FS.u hF rfl) rfl)
  refine ⟨_, rfl, (by decide), (by decide), (by decide), ?_⟩
  refine ⟨rfl, ?_⟩
  refine ⟨_, rfl, (by decide), ?_⟩
  refine ⟨_, rfl, (by decide), ?_⟩
  refine ⟨_, rfl, (by decide), ?_⟩
  refine ⟨_, rfl, (by decide), ?_⟩
  refine ⟨_, rfl, (by decide), ?_⟩
  refine ⟨_, rfl, (by decide), ?_⟩
  refine ⟨_, rfl, (by decide), (by decide), ?_⟩
  refine ⟨_, rfl, (by decide), (by decide), ?_⟩
  refine ⟨rfl, ?_⟩
  have u1 : ((uI (uI (uI (uI (uI (uI (uI (uI (uI (uI (uI (uI (uI I 210 2 0) 208 3 (I 4 0)) 208 4 (I 4 1)) 208 5 (I 4 2)) 208 6 (I 4 3)) 208 7 (I 4 4)) 208 8 0) 208 9 0) 208 10 0) 208 11 0) 208 12 0) 208 13 0) 208 14 0) g 3) = (I g 3) := (uI_o (fun e => absurd e.1 (lay_ne hg.1.1 (show lay 208 = (1, 15) from rfl) (by decide)))).trans ((uI_o (fun e => absurd e.1 (lay_ne hg.1.1 (show lay 208 = (1, 15) from rfl) (by decide)))).trans ((uI_o (fun e => absurd e.1 (lay_ne hg.1.1 (show lay 208 = (1, 15) from rfl) (by decide)))).trans ((uI_o (fun e => absurd e.1 (lay_ne hg.1.1 (show lay 208 = (1, 15) from rfl) (by decide)))).trans ((uI_o (fun e => absurd e.1 (lay_ne hg.1.1 (show lay 208 = (1, 15) from rfl) (by decide)))).trans ((uI_o (fun e => absurd e.1 (lay_ne hg.1.1 (show lay 208 = (1, 15) from rfl) (by decide)))).trans ((uI_o (fun e => absurd e.1 (lay_ne hg.1.1 (show lay 208 = (1, 15) from rfl) (by decide)))).trans ((uI_o (fun e => absurd e.1 (lay_ne hg.1.1 (show lay 208 = (1, 15) from rfl) (by decide)))).trans ((uI_o (fun e => absurd e.1 (lay_ne hg.1.1 (show lay 208 = (1, 15) from rfl) (by decide)))).trans ((uI_o (fun e => absurd e.1 (lay_ne hg.1.1 (show lay 208 = (1, 15) from rfl) (by decide)))).trans ((uI_o (fun e => absurd e.1 (lay_ne hg.1.1 (show lay 208 = (1, 15) from rfl) (by decide)))).trans ((uI_o (fun e => absurd e.1 (lay_ne hg.1.1 (show lay 208 = (1, 15) from rfl) (by decide)))).trans (uI_o (fun e => absurd e.1 (lay_ne hg.1.1 (show lay 210 = (6, 6) from rfl) (by decide)))))))))))))))
  have a2 : -2147483648 ≤ (I g 3) ∧ (I g 3) < 2147483648 := hA.1 _ _
  refine c_perf_l1 (FS.u hF rfl) (Rg.u (Rg.u (Rg.u (Rg.u (Rg.u (Rg.u (Rg.u (Rg.u (Rg.u (Rg.u (Rg.u (Rg.u (Rg.u hR (Pr_f rfl)) (Pr_f rfl)) (Pr_f rfl)) (Pr_f rfl)) (Pr_f rfl)) (Pr_f rfl)) (Pr_f rfl)) (Pr_f rfl)) (Pr_f rfl)) (Pr_f rfl)) (Pr_f rfl)) (Pr_f rfl)) (Pr_f rfl)) rfl hp.u hg.u hn (fun I' g1 g2 hv hA' => hQ _ g1 hA' (fun ka ja hk => (g2 ka ja (by omega)).trans (((uI_o (show ¬ (ka = 208 ∧ ja = 14) from by first | (intro e; obtain ⟨rfl, rfl⟩ := e; exact hk (by decide)) | omega))).trans (((uI_o (show ¬ (ka = 208 ∧ ja = 13) from by first | (intro e; obtain ⟨rfl, rfl⟩ := e; exact hk (by decide)) | omega))).trans (((uI_o (show ¬ (ka = 208 ∧ ja = 12) from by first | (intro e; obtain ⟨rfl, rfl⟩ := e; exact hk (by decide)) | omega))).trans (((uI_o (show ¬ (ka = 208 ∧ ja = 11) from by first | (intro e; obtain ⟨rfl, rfl⟩ := e; exact hk (by decide)) | omega))).trans (((uI_o (show ¬ (ka = 208 ∧ ja = 10) from by first | (intro e; obtain ⟨rfl, rfl⟩ := e; exact hk (by decide)) | omega))).trans (((uI_o (show ¬ (ka = 208 ∧ ja = 9) from by first | (intro e; obtain ⟨rfl, rfl⟩ := e; exact hk (by decide)) | omega))).trans (((uI_o (show ¬ (ka = 208 ∧ ja = 8) from by first | (intro e; obtain ⟨rfl, rfl⟩ := e; exact hk (by decide)) | omega))).trans (((uI_o (show ¬ (ka = 208 ∧ ja = 7) from by first | (intro e; obtain ⟨rfl, rfl⟩ := e; exact hk (by decide)) | omega))).trans (((uI_o (show ¬ (ka = 208 ∧ ja = 6) from by first | (intro e; obtain ⟨rfl, rfl⟩ := e; exact hk (by decide)) | omega))).trans (((uI_o (show ¬ (ka = 208 ∧ ja = 5) from by first | (intro e; obtain ⟨rfl, rfl⟩ := e; exact hk (by decide)) | omega))).trans (((uI_o (show ¬ (ka = 208 ∧ ja = 4) from by first | (intro e; obtain ⟨rfl, rfl⟩ := e; exact hk (by decide)) | omega))).trans (((uI_o (show ¬ (ka = 208 ∧ ja = 3) from by first | (intro e; obtain ⟨rfl, rfl⟩ := e; exact hk (by decide)) | omega))).trans ((uI_o (show ¬ (ka = 210 ∧ ja = 2) from by first | (intro e; obtain ⟨rfl, rfl⟩ := e; exact hk (by decide)) | omega))))))))))))))))) _ 0 (uI (uI (uI (uI (uI (uI (uI (uI (uI (uI (uI (uI (uI I 210 2 0) 208 3 (I 4 0)) 208 4 (I 4 1)) 208 5 (I 4 2)) 208 6 (I 4 3)) 208 7 (I 4 4)) 208 8 0) 208 9 0) 208 10 0) 208 11 0) 208 12 0) 208 13 0) 208 14 0) (Rg.u (Rg.u (Rg.u (Rg.u (Rg.u (Rg.u (Rg.u (Rg.u (Rg.u (Rg.u (Rg.u (Rg.u (Rg.u hR (Pr_f rfl)) (Pr_f rfl)) (Pr_f rfl)) (Pr_f rfl)) (Pr_f rfl)) (Pr_f rfl)) (Pr_f rfl)) (Pr_f rfl)) (Pr_f rfl)) (Pr_f rfl)) (Pr_f rfl)) (Pr_f rfl)) (Pr_f rfl)) (fun _ _ _ => rfl) (show (0 : Int) ≤ (0 : Int) from by first | rfl | omega) (show ((uI (uI (uI (uI (uI (uI (uI (uI (uI (uI (uI (uI (uI I 210 2 0) 208 3 (I 4 0)) 208 4 (I 4 1)) 208 5 (I 4 2)) 208 6 (I 4 3)) 208 7 (I 4 4)) 208 8 0) 208 9 0) 208 10 0) 208 11 0) 208 12 0) 208 13 0) 208 14 0) g 3) = (uI (uI (uI (uI (uI (uI (uI (uI (uI (uI (uI (uI (uI I 210 2 0) 208 3 (I 4 0)) 208 4 (I 4 1)) 208 5 (I 4 2)) 208 6 (I 4 3)) 208 7 (I 4 4)) 208 8 0) 208 9 0) 208 10 0) 208 11 0) 208 12 0) 208 13 0) 208 14 0) g 3 from by first | rfl | omega) (Nat.lt_succ_self _)
end CM
