/-! runs of the class, exactly. Own work (scripts laid by wip/pm/gen34.py). -/
section CM10
variable {G : pG} {d : Nat} {F : pF} {I : pI} {Q : Option pV → pF → pI → Prop}
end CM10
theorem c_mod6e {G : pG} {d : Nat} {F : pF} {I : pI} {Q : Option pV → pF → pI → Prop} {x : Int} (h : 0 ≤ x) (hQ : Q (some (vi (x % 6))) F I) : CallN G d kJ9_floorMod_7cf53 [vi x, vi 6] NP F I Q := by
  refine CallN_in (fun hok hA => ?_)
  have ix : -2147483648 ≤ x ∧ x < 2147483648 := hok (vi x) (by simp)
  have e : Int.tmod x 6 = x % 6 := Int.tmod_eq_emod_of_nonneg h
  have g := xI_neg (x := x) (y := 6) ix (by unfold iR; omega)
  refine Call_wp (lv := [some (vi x), some (vi 6), none]) (by decide) ckJ9_floorMod_7cf53 [] rfl rfl ?_
  refine ⟨by decide, ?_⟩
  refine ⟨fun c1 => ?_, fun c1 => ?_⟩
  · exact ⟨rfl, by rw [e]; exact hQ⟩
  · exfalso
    omega
section CM10
variable {G : pG} {d : Nat} {F : pF} {I : pI} {Q : Option pV → pF → pI → Prop}
theorem c_mload10 (hF : FS F) (hR : Rg I) {q : Nat} (hq : F 208 2 = some q) (hp : PP F q) {ld : Int → Int} {P : Nat → Int} (hc : CR9 ld P q I) (hq2 : 20 ≤ q ∧ q + 4 < 90) (hQ : ∀ r : Int, iR r → ((I 208 13 = 0 → r = ld (I 208 8)) ∧ (¬ I 208 13 = 0 → r = 0)) → Q (some (vi r)) F I) : CallN G (d + 4) kX1_load [vr 208] NP F I Q := by
  refine CallN_in (fun hok hA => CallN_out ?_)
  refine Call_wp (lv := [some (vr 208)]) (by decide) ckX1_load [] rfl rfl ?_
  refine ⟨_, rfl, (by decide), ?_⟩
  have a1 : -2147483648 ≤ (I 208 13) ∧ (I 208 13) < 2147483648 := hA.1 _ _
  refine ⟨fun (c2 : (((I 208 13) : Int) = 0)) => ?_, fun (c2 : (¬ (((I 208 13) : Int) = 0))) => ?_⟩
  ·
    refine ⟨_, rfl, (by decide), ?_⟩
    refine fun w0 hw0 => ?_; obtain rfl : w0 = some q := hw0.symm.trans hq
    refine ⟨_, rfl, (by decide), ?_⟩
    refine ⟨⟨_, hp.1.1, (by have := hp.2; show _ < 254; omega)⟩, ?_⟩
    have a3 : -2147483648 ≤ (I 208 8) ∧ (I 208 8) < 2147483648 := hA.1 _ _
    refine c_loadAt6 (v0 := (I 208 8)) hF hR hp hc.2.2.1.1 hc.2.2.1.2.1 hc.2.2.1.2.2 hc.2.2.2.1 (fun vr4 hr5 qr6 => ?_)
    have hr5 : -2147483648 ≤ vr4 ∧ vr4 < 2147483648 := hr5
    exact ⟨rfl, fun hv hA' => hQ _ (hv _ rfl) (⟨fun _ => qr6.trans (hc.2.2.2.2.2 _).symm, fun z => absurd (by omega) z⟩)⟩
  ·
    exact ⟨rfl, fun hv hA' => hQ _ (hv _ rfl) (⟨fun z => absurd z (by omega), fun _ => rfl⟩)⟩
theorem c_creeps10 (hF : FS F) (hR : Rg I) {q : Nat} (hq : F 208 2 = some q) (hp : PP F q) {ld : Int → Int} {P : Nat → Int} (hc : CR9 ld P q I) (hq2 : 20 ≤ q ∧ q + 4 < 90) (hh : 0 ≤ I 208 9 ∧ I 208 9 ≤ 20000000) (hQ : ∀ (r : Int) (I' : pI), Rg I' → AR I' → iR r → (∀ k j, ¬ (k = 208 ∧ j = 9) → I' k j = I k j) → (0 ≤ r ∧ r ≤ 1) → ((I' 208 9) = (I 208 9) + 1) → (r = 1 → P 5 = 1 ∧ ((I 208 9) + 1) % 5 = 0) → (r = 0 → ¬ (P 5 = 1 ∧ ((I 208 9) + 1) % 5 = 0)) → Q (some (vi r)) F I') : CallN G (d + 4) kX1_creeps [vr 208] NP F I Q := by
  refine CallN_in (fun hok hA => CallN_out ?_)
  have hL := hc.1
  have hP := hc.2.1
  have hK := hc.2.2.1
  have h5 := hc.2.2.2.2.1
  refine Call_wp (lv := [some (vr 208)]) (by decide) ckX1_creeps [] rfl rfl ?_
  refine ⟨_, rfl, (by decide), ?_⟩
  have r1 : 0 ≤ (I 208 9) ∧ (I 208 9) ≤ 20000000 := hh
  refine ⟨_, rfl, (by decide), ?_⟩
  refine ⟨_, rfl, (by decide), ?_⟩
  refine fun w0 hw0 => ?_; obtain rfl : w0 = some q := hw0.symm.trans hq
  refine ⟨⟨_, hp.1.1, (by have := hp.2; show _ < 254; omega)⟩, ?_⟩
  refine c_isOf6 (v0 := 3) hF (Rg.u hR (Pr_f rfl)) hp (by omega) (CR9_f hc (fun j h1 h2 => uJ_ne (show ¬ j = 9 from by omega)) (fun j => uI_o (show ¬ (q = 208 ∧ j = 9) from by omega)) (fun j => uI_o (show ¬ ((q + 1) = 208 ∧ j = 9) from by omega))).2.2.1.1 (fun vr2 hr3 q4 q5 q6 => ?_)
  have hr3 : -2147483648 ≤ vr2 ∧ vr2 < 2147483648 := hr3
  have q4 : 0 ≤ vr2 ∧ vr2 ≤ 1 := q4
  have u7 : ((uI I 208 9 (wr ((I 208 9) + 1))) q 0) = (I q 0) := uI_o (fun e => absurd e.1 (lay_ne hp.1.1 (show lay 208 = (1, 15) from rfl) (by decide)))
  have a8 : -2147483648 ≤ (I q 0) ∧ (I q 0) < 2147483648 := hA.1 _ _
  have u9 : ((uI I 208 9 (wr ((I 208 9) + 1))) q 0) = (I q 0) := uI_o (fun e => absurd e.1 (lay_ne hp.1.1 (show lay 208 = (1, 15) from rfl) (by decide)))
  have u10 : ((uI I 208 9 (wr ((I 208 9) + 1))) q 0) = (I q 0) := uI_o (fun e => absurd e.1 (lay_ne hp.1.1 (show lay 208 = (1, 15) from rfl) (by decide)))
  have q5 : vr2 = 1 → ((3 : Int) = ((uI I 208 9 (wr ((I 208 9) + 1))) q 0) ∨ (3 : Int) = 0 ∨ (((uI I 208 9 (wr ((I 208 9) + 1))) q 0) = 3 ∧ (3 : Int) = 1) ∨ (((uI I 208 9 (wr ((I 208 9) + 1))) q 0) = 5 ∧ (3 : Int) = 2)) := q5
  have u11 : ((uI I 208 9 (wr ((I 208 9) + 1))) q 0) = (I q 0) := uI_o (fun e => absurd e.1 (lay_ne hp.1.1 (show lay 208 = (1, 15) from rfl) (by decide)))
  have u12 : ((uI I 208 9 (wr ((I 208 9) + 1))) q 0) = (I q 0) := uI_o (fun e => absurd e.1 (lay_ne hp.1.1 (show lay 208 = (1, 15) from rfl) (by decide)))
  have u13 : ((uI I 208 9 (wr ((I 208 9) + 1))) q 0) = (I q 0) := uI_o (fun e => absurd e.1 (lay_ne hp.1.1 (show lay 208 = (1, 15) from rfl) (by decide)))
  have q6 : ((3 : Int) = ((uI I 208 9 (wr ((I 208 9) + 1))) q 0) ∨ (3 : Int) = 0 ∨ (((uI I 208 9 (wr ((I 208 9) + 1))) q 0) = 3 ∧ (3 : Int) = 1) ∨ (((uI I 208 9 (wr ((I 208 9) + 1))) q 0) = 5 ∧ (3 : Int) = 2)) → vr2 = 1 := q6
  refine ⟨fun (c14 : ((vr2 : Int) = 0)) => ?_, fun (c14 : (¬ ((vr2 : Int) = 0))) => ?_⟩
  ·
    have n16 : (wr ((I 208 9) + 1)) = (I 208 9) + 1 := wr_id (show -2147483648 ≤ ((I 208 9) + 1 : Int) ∧ ((I 208 9) + 1 : Int) < 2147483648 from by omega)
    exact ⟨rfl, (by decide), fun hv hA' => hQ _ _ (Rg.u hR (Pr_f rfl)) hA' (hv _ rfl) (fun ka ja hk => (uI_o (show ¬ (ka = 208 ∧ ja = 9) from by first | (intro e; obtain ⟨rfl, rfl⟩ := e; exact hk (by decide)) | omega))) (show 0 ≤ 0 ∧ 0 ≤ 1 from by decide) (show (wr ((I 208 9) + 1)) = (I 208 9) + 1 from by first | omega | (simp only [wr, wl] at *; omega)) (show 0 = 1 → P 5 = 1 ∧ ((I 208 9) + 1) % 5 = 0 from fun z => absurd z (by decide)) (show 0 = 0 → ¬ (P 5 = 1 ∧ ((I 208 9) + 1) % 5 = 0) from by first | with_reducible assumption | omega | (simp only [wr, wl] at *; omega))⟩
  ·
    refine ⟨_, rfl, (by decide), ?_⟩
    refine ⟨(by decide), ?_⟩
    have n18 : (wr ((I 208 9) + 1)) = (I 208 9) + 1 := wr_id (show -2147483648 ≤ ((I 208 9) + 1 : Int) ∧ ((I 208 9) + 1 : Int) < 2147483648 from by omega)
    have n19 : (Int.tmod (wr ((I 208 9) + 1)) 5) = ((wr ((I 208 9) + 1)) : Int) % 5 := Int.tmod_eq_emod_of_nonneg (by omega)
    refine ⟨fun (c20 : (¬ ((Int.tmod (wr ((I 208 9) + 1)) 5) : Int) = 0)) => ?_, fun (c20 : (((Int.tmod (wr ((I 208 9) + 1)) 5) : Int) = 0)) => ?_⟩
    ·
      exact ⟨rfl, (by decide), fun hv hA' => hQ _ _ (Rg.u hR (Pr_f rfl)) hA' (hv _ rfl) (fun ka ja hk => (uI_o (show ¬ (ka = 208 ∧ ja = 9) from by first | (intro e; obtain ⟨rfl, rfl⟩ := e; exact hk (by decide)) | omega))) (show 0 ≤ 0 ∧ 0 ≤ 1 from by decide) (show (wr ((I 208 9) + 1)) = (I 208 9) + 1 from by first | omega | (simp only [wr, wl] at *; omega)) (show 0 = 1 → P 5 = 1 ∧ ((I 208 9) + 1) % 5 = 0 from fun z => absurd z (by decide)) (show 0 = 0 → ¬ (P 5 = 1 ∧ ((I 208 9) + 1) % 5 = 0) from by first | with_reducible assumption | omega | (simp only [wr, wl] at *; omega))⟩
    ·
      exact ⟨rfl, (by decide), fun hv hA' => hQ _ _ (Rg.u hR (Pr_f rfl)) hA' (hv _ rfl) (fun ka ja hk => (uI_o (show ¬ (ka = 208 ∧ ja = 9) from by first | (intro e; obtain ⟨rfl, rfl⟩ := e; exact hk (by decide)) | omega))) (show 0 ≤ 1 ∧ 1 ≤ 1 from by decide) (show (wr ((I 208 9) + 1)) = (I 208 9) + 1 from by first | omega | (simp only [wr, wl] at *; omega)) (show 1 = 1 → P 5 = 1 ∧ ((I 208 9) + 1) % 5 = 0 from by first | with_reducible assumption | omega | (simp only [wr, wl] at *; omega)) (show 1 = 0 → ¬ (P 5 = 1 ∧ ((I 208 9) + 1) % 5 = 0) from fun z => absurd z (by decide))⟩
theorem c_more10 (hF : FS F) (hR : Rg I) {v0 : Int} {q : Nat} (hq : F 208 2 = some q) (hp : PP F q) {ld : Int → Int} {P : Nat → Int} (hc : CR9 ld P q I) (hq2 : 20 ≤ q ∧ q + 4 < 90) (hh : 0 ≤ I 208 9 ∧ I 208 9 ≤ 20000000) (hv0 : 0 ≤ v0 ∧ v0 ≤ 5) (hQ : ∀ (r : Int) (I' : pI), Rg I' → AR I' → iR r → (∀ k j, ¬ (k = 208 ∧ j = 9) → I' k j = I k j) → (-1 ≤ r ∧ r ≤ 1) → (r = mvF P v0 (I 208 9)) → (v0 = 2 → (I' 208 9) = (I 208 9) + 1) → (¬ v0 = 2 → (I' 208 9) = (I 208 9)) → Q (some (vi r)) F I') : CallN G (d + 5) kX1_moreStretch [vr 208, vi v0] NP F I Q := by
  refine CallN_in (fun hok hA => CallN_out ?_)
  have iv0 : -2147483648 ≤ v0 ∧ v0 < 2147483648 := hok (vi v0) (by simp)
  have hL := hc.1
  have hP := hc.2.1
  have hK := hc.2.2.1
  have h5 := hc.2.2.2.2.1
  have k1 := mvF_c (P := P) (act := v0) (h := I 208 9)
  refine Call_wp (lv := [some (vr 208), some (vi v0)]) (by decide) ckX1_moreStretch [] rfl rfl ?_
  refine ⟨fun (c1 : ((v0 : Int) = 0)) => ?_, fun (c1 : (¬ ((v0 : Int) = 0))) => ?_⟩
  ·
    have a2 : -2147483648 ≤ (I 208 9) ∧ (I 208 9) < 2147483648 := hA.1 _ _
    exact ⟨rfl, fun hv hA' => hQ _ _ hR hA' (hv _ rfl) (fun _ _ _ => rfl) (show -1 ≤ 1 ∧ 1 ≤ 1 from by decide) (show 1 = mvF P v0 (I 208 9) from by first | omega | (simp only [wr, wl] at *; omega)) (show v0 = 2 → (I 208 9) = (I 208 9) + 1 from by first | with_reducible assumption | omega | (simp only [wr, wl] at *; omega)) (show ¬ v0 = 2 → (I 208 9) = (I 208 9) from by first | with_reducible assumption | omega | (simp only [wr, wl] at *; omega))⟩
  ·
    refine ⟨fun (c3 : ((v0 : Int) = 1)) => ?_, fun (c3 : (¬ ((v0 : Int) = 1))) => ?_⟩
    ·
      have a4 : -2147483648 ≤ (I 208 9) ∧ (I 208 9) < 2147483648 := hA.1 _ _
      exact ⟨rfl, fun hv hA' => hQ _ _ hR hA' (hv _ rfl) (fun _ _ _ => rfl) (show -1 ≤ 1 ∧ 1 ≤ 1 from by decide) (show 1 = mvF P v0 (I 208 9) from by first | omega | (simp only [wr, wl] at *; omega)) (show v0 = 2 → (I 208 9) = (I 208 9) + 1 from by first | with_reducible assumption | omega | (simp only [wr, wl] at *; omega)) (show ¬ v0 = 2 → (I 208 9) = (I 208 9) from by first | with_reducible assumption | omega | (simp only [wr, wl] at *; omega))⟩
    ·
      refine ⟨fun (c5 : ((v0 : Int) = 2)) => ?_, fun (c5 : (¬ ((v0 : Int) = 2))) => ?_⟩
      ·
        refine ⟨⟨_, rfl, (by decide)⟩, ?_⟩
        have a6 : -2147483648 ≤ (I 208 9) ∧ (I 208 9) < 2147483648 := hA.1 _ _
        refine c_creeps10  hF hR hq hp hc hq2 (show 0 ≤ (I 208 9) ∧ (I 208 9) ≤ 20000000 from by first | omega | (simp only [wr, wl] at *; omega)) (fun vr7 I8 hR9 hA10 hr12 hW11 q13 q14 q15 q16 => ?_)
        have hr12 : -2147483648 ≤ vr7 ∧ vr7 < 2147483648 := hr12
        have q13 : 0 ≤ vr7 ∧ vr7 ≤ 1 := q13
        have q14 : (I8 208 9) = (I 208 9) + 1 := q14
        have q15 : vr7 = 1 → P 5 = 1 ∧ ((I 208 9) + 1) % 5 = 0 := q15
        have q16 : vr7 = 0 → ¬ (P 5 = 1 ∧ ((I 208 9) + 1) % 5 = 0) := q16
        refine ⟨fun (c17 : ((vr7 : Int) = 0)) => ?_, fun (c17 : (¬ ((vr7 : Int) = 0))) => ?_⟩
        ·
          have a18 : -2147483648 ≤ (I8 208 9) ∧ (I8 208 9) < 2147483648 := hA10.1 _ _
          exact ⟨rfl, fun hv hA' => hQ _ _ hR9 hA' (hv _ rfl) (fun ka ja hk => (hW11 ka ja (by omega))) (show -1 ≤ 0 ∧ 0 ≤ 1 from by decide) (show 0 = mvF P v0 (I 208 9) from by first | omega | (simp only [wr, wl] at *; omega)) (show v0 = 2 → (I8 208 9) = (I 208 9) + 1 from by first | with_reducible assumption | omega | (simp only [wr, wl] at *; omega)) (show ¬ v0 = 2 → (I8 208 9) = (I 208 9) from by first | with_reducible assumption | omega | (simp only [wr, wl] at *; omega))⟩
        ·
          have a19 : -2147483648 ≤ (I8 208 9) ∧ (I8 208 9) < 2147483648 := hA10.1 _ _
          exact ⟨rfl, fun hv hA' => hQ _ _ hR9 hA' (hv _ rfl) (fun ka ja hk => (hW11 ka ja (by omega))) (show -1 ≤ 1 ∧ 1 ≤ 1 from by decide) (show 1 = mvF P v0 (I 208 9) from by first | omega | (simp only [wr, wl] at *; omega)) (show v0 = 2 → (I8 208 9) = (I 208 9) + 1 from by first | with_reducible assumption | omega | (simp only [wr, wl] at *; omega)) (show ¬ v0 = 2 → (I8 208 9) = (I 208 9) from by first | with_reducible assumption | omega | (simp only [wr, wl] at *; omega))⟩
      ·
        refine ⟨fun (c20 : ((v0 : Int) = 3)) => ?_, fun (c20 : (¬ ((v0 : Int) = 3))) => ?_⟩
        ·
          have a21 : -2147483648 ≤ (I 208 9) ∧ (I 208 9) < 2147483648 := hA.1 _ _
          exact ⟨rfl, fun hv hA' => hQ _ _ hR hA' (hv _ rfl) (fun _ _ _ => rfl) (show -1 ≤ (-1) ∧ (-1) ≤ 1 from by first | omega | (simp only [wr, wl] at *; omega)) (show (-1) = mvF P v0 (I 208 9) from by first | omega | (simp only [wr, wl] at *; omega)) (show v0 = 2 → (I 208 9) = (I 208 9) + 1 from by first | with_reducible assumption | omega | (simp only [wr, wl] at *; omega)) (show ¬ v0 = 2 → (I 208 9) = (I 208 9) from by first | with_reducible assumption | omega | (simp only [wr, wl] at *; omega))⟩
        ·
          refine ⟨fun (c22 : ((v0 : Int) = 4)) => ?_, fun (c22 : (¬ ((v0 : Int) = 4))) => ?_⟩
          ·
            have a23 : -2147483648 ≤ (I 208 9) ∧ (I 208 9) < 2147483648 := hA.1 _ _
            exact ⟨rfl, fun hv hA' => hQ _ _ hR hA' (hv _ rfl) (fun _ _ _ => rfl) (show -1 ≤ 0 ∧ 0 ≤ 1 from by decide) (show 0 = mvF P v0 (I 208 9) from by first | omega | (simp only [wr, wl] at *; omega)) (show v0 = 2 → (I 208 9) = (I 208 9) + 1 from by first | with_reducible assumption | omega | (simp only [wr, wl] at *; omega)) (show ¬ v0 = 2 → (I 208 9) = (I 208 9) from by first | with_reducible assumption | omega | (simp only [wr, wl] at *; omega))⟩
          ·
            refine ⟨fun _ => ?_, fun c => absurd (show ((v0 : Int) = 5) from by first | omega | (simp only [wr, wl] at *; omega)) c⟩
            have a24 : -2147483648 ≤ (I 208 9) ∧ (I 208 9) < 2147483648 := hA.1 _ _
            exact ⟨rfl, fun hv hA' => hQ _ _ hR hA' (hv _ rfl) (fun _ _ _ => rfl) (show -1 ≤ 1 ∧ 1 ≤ 1 from by decide) (show 1 = mvF P v0 (I 208 9) from by first | omega | (simp only [wr, wl] at *; omega)) (show v0 = 2 → (I 208 9) = (I 208 9) + 1 from by first | with_reducible assumption | omega | (simp only [wr, wl] at *; omega)) (show ¬ v0 = 2 → (I 208 9) = (I 208 9) from by first | with_reducible assumption | omega | (simp only [wr, wl] at *; omega))⟩
theorem c_take10 (hF : FS F) (hR : Rg I) {q : Nat} (hq : F 208 2 = some q) (hp : PP F q) {ld : Int → Int} {P : Nat → Int} (hc : CR9 ld P q I) (hq2 : 20 ≤ q ∧ q + 4 < 90) (ht : 0 ≤ I 208 10 ∧ I 208 10 ≤ 20000000) (hn : 0 ≤ I 210 2 ∧ I 210 2 ≤ 24) (hQ : ∀ (I' : pI), Rg I' → AR I' → (∀ k j, ¬ (210 ≤ k ∧ k ≤ 212) → I' k j = I k j) → (TKC P I' I) → Q none F I') : CallN G (d + 1) kX1_take [vr 208] NP F I Q := by
  refine CallN_in (fun hok hA => CallN_out ?_)
  have hL := hc.1
  have hP := hc.2.1
  have hK := hc.2.2.1
  have h5 := hc.2.2.2.2.1
  have n2 : wr ((I 210 2) + 1) = (I 210 2) + 1 := wr_id (by unfold iR; omega)
  have hT : Int.tmod (I 210 2 + 1) (P 3) = Int.tmod (wr ((I 210 2) + 1)) (I 208 6) := by rw [hL.2.2.2.1, wr_id (z := I 210 2 + 1) (by unfold iR; omega)]
  refine Call_wp (lv := [some (vr 208), none, none]) (by decide) ckX1_take [] rfl rfl ?_
  refine ⟨_, rfl, (by decide), ?_⟩
  refine fun w0 hw0 => ?_; obtain rfl : w0 = some 210 := hw0.symm.trans (FS.g hF rfl)
  refine ⟨_, rfl, (by decide), ?_⟩
  have r1 : 0 ≤ (I 210 2) ∧ (I 210 2) ≤ 24 := hn
  refine ⟨fun (c3 : (((I 210 2) : Int) < 24)) => ?_, fun (c3 : (¬ (((I 210 2) : Int) < 24))) => ?_⟩
  ·
    refine ⟨_, rfl, (by decide), ?_⟩
    refine fun w0 hw0 => ?_; obtain rfl : w0 = some 210 := hw0.symm.trans (FS.g hF rfl)
    refine ⟨_, rfl, (by decide), ?_⟩
    refine ⟨_, rfl, (by decide), ?_⟩
    have r4 : 0 ≤ (I 208 7) ∧ (I 208 7) ≤ 5 := (by omega)
    refine ⟨_, rfl, (by decide), ?_⟩
    have r5 : 0 ≤ (I 208 10) ∧ (I 208 10) ≤ 20000000 := ht
    refine ⟨fun (c8 : (((I 208 10) : Int) ≤ (I 208 7))) => ?_, fun (c8 : (¬ (((I 208 10) : Int) ≤ (I 208 7)))) => ?_⟩
    ·
      refine ⟨_, rfl, (by decide), ?_⟩
      have a9 : -2147483648 ≤ (I 208 6) ∧ (I 208 6) < 2147483648 := hA.1 _ _
      refine ⟨fun (c10 : (((I 208 6) : Int) ≤ 0)) => ?_, fun (c10 : (¬ (((I 208 6) : Int) ≤ 0))) => ?_⟩
      ·
        refine ⟨_, rfl, (by decide), ?_⟩
        have a11 : -2147483648 ≤ (I 208 5) ∧ (I 208 5) < 2147483648 := hA.1 _ _
        refine ⟨fun (c12 : ((0 : Int) ≤ (I 208 5))) => ?_, fun (c12 : (¬ ((0 : Int) ≤ (I 208 5)))) => ?_⟩
        ·
          refine ⟨_, rfl, (by decide), ?_⟩
          refine fun w0 hw0 => ?_; obtain rfl : w0 = some 210 := hw0.symm.trans (FS.g hF rfl)
          refine ⟨_, rfl, (by decide), ?_⟩
          refine ⟨⟨_, rfl, (by decide)⟩, ?_⟩
          refine Call_wp (lv := [some (vr 210), some (vi (I 208 8)), some (vi 0)]) (by decide) ckX6_add [] rfl rfl ?_
          refine ⟨_, rfl, (by decide), ?_⟩
          refine ⟨fun c => absurd c (show (¬ (((I 210 2) : Int) < 0)) from by first | omega | (simp only [wr, wl] at *; omega)), fun _ => ?_⟩
          refine ⟨_, rfl, (by decide), ?_⟩
          refine ⟨fun c => absurd c (show (¬ ((24 : Int) ≤ (I 210 2))) from by first | omega | (simp only [wr, wl] at *; omega)), fun _ => ?_⟩
          refine ⟨_, rfl, (by decide), ?_⟩
          refine fun w0 hw0 => ?_; obtain rfl : w0 = some 211 := hw0.symm.trans (FS.g hF rfl)
          refine ⟨_, rfl, (by decide), ?_⟩
          refine ⟨_, rfl, (by decide), (show (0 : Int) ≤ (I 210 2) from by first | with_reducible assumption | omega | (simp only [wr, wl] at *; omega)), (show (I 210 2) < (24 : Int) from by first | with_reducible assumption | omega | (simp only [wr, wl] at *; omega)), ?_⟩
          refine ⟨_, rfl, (by decide), ?_⟩
          refine fun w0 hw0 => ?_; obtain rfl : w0 = some 212 := hw0.symm.trans (FS.g hF rfl)
          refine ⟨_, rfl, (by decide), ?_⟩
          refine ⟨_, rfl, (by decide), (show (0 : Int) ≤ (I 210 2) from by first | with_reducible assumption | omega | (simp only [wr, wl] at *; omega)), (show (I 210 2) < (24 : Int) from by first | with_reducible assumption | omega | (simp only [wr, wl] at *; omega)), ?_⟩
          refine ⟨_, rfl, (by decide), ?_⟩
          refine ⟨_, rfl, (by decide), ?_⟩
          refine ⟨rfl, ?_⟩
          exact ⟨rfl, fun hv hA' => hQ _ (Rg.u (Rg.u (Rg.u hR (Pr_p (k := 211) rfl _ _)) (Pr_p (k := 212) rfl _ _)) (Pr_f rfl)) hA' (fun ka ja hk => ((uI_o (show ¬ (ka = 210 ∧ ja = 2) from by first | (intro e; obtain ⟨rfl, rfl⟩ := e; exact hk (by decide)) | omega))).trans (((uI_o (show ¬ (ka = 212 ∧ ja = (Int.toNat (I 210 2))) from by first | (intro e; obtain ⟨rfl, _⟩ := e; exact hk (by decide)) | omega))).trans ((uI_o (show ¬ (ka = 211 ∧ ja = (Int.toNat (I 210 2))) from by first | (intro e; obtain ⟨rfl, _⟩ := e; exact hk (by decide)) | omega))))) ((by
                              refine ⟨fun z => absurd z (by omega), fun _ => ⟨(show (wr ((I 210 2) + 1)) = I 210 2 + 1 from by omega), fun i hi => ⟨(uI_o (show ¬ (211 = 210 ∧ i = 2) from fun e => absurd e.1 (Nat.ne_of_beq_eq_false rfl))).trans ((uI_o (show ¬ (211 = 212 ∧ i = (Int.toNat (I 210 2))) from fun e => absurd e.1 (Nat.ne_of_beq_eq_false rfl))).trans (uJ_ne (show ¬ i = (Int.toNat (I 210 2)) from by omega))), (uI_o (show ¬ (212 = 210 ∧ i = 2) from fun e => absurd e.1 (Nat.ne_of_beq_eq_false rfl))).trans ((uJ_ne (show ¬ i = (Int.toNat (I 210 2)) from by omega)).trans (uI_o (show ¬ (212 = 211 ∧ i = (Int.toNat (I 210 2))) from fun e => absurd e.1 (Nat.ne_of_beq_eq_false rfl))))⟩, (0 : Int), 0, fun z => absurd z (by omega), fun _ => rfl, fun z => ?_, fun z => ⟨fun y => ?_, fun y => ?_⟩, fun i hi => ⟨(uI_o (show ¬ (211 = 210 ∧ i = 2) from fun e => absurd e.1 (Nat.ne_of_beq_eq_false rfl))).trans ((uI_o (show ¬ (211 = 212 ∧ i = (Int.toNat (I 210 2))) from fun e => absurd e.1 (Nat.ne_of_beq_eq_false rfl))).trans (uJ_eqj (show i = (Int.toNat (I 210 2)) from by omega))), (uI_o (show ¬ (212 = 210 ∧ i = 2) from fun e => absurd e.1 (Nat.ne_of_beq_eq_false rfl))).trans (uJ_eqj (show i = (Int.toNat (I 210 2)) from by omega))⟩⟩⟩
                              all_goals omega))⟩
        ·
          refine ⟨_, rfl, (by decide), ?_⟩
          refine fun w0 hw0 => ?_; obtain rfl : w0 = some 210 := hw0.symm.trans (FS.g hF rfl)
          refine ⟨_, rfl, (by decide), ?_⟩
          refine ⟨⟨_, rfl, (by decide)⟩, ?_⟩
          refine Call_wp (lv := [some (vr 210), some (vi (I 208 8)), some (vi (-2))]) (by decide) ckX6_add [] rfl rfl ?_
          refine ⟨_, rfl, (by decide), ?_⟩
          refine ⟨fun c => absurd c (show (¬ (((I 210 2) : Int) < 0)) from by first | omega | (simp only [wr, wl] at *; omega)), fun _ => ?_⟩
          refine ⟨_, rfl, (by decide), ?_⟩
          refine ⟨fun c => absurd c (show (¬ ((24 : Int) ≤ (I 210 2))) from by first | omega | (simp only [wr, wl] at *; omega)), fun _ => ?_⟩
          refine ⟨_, rfl, (by decide), ?_⟩
          refine fun w0 hw0 => ?_; obtain rfl : w0 = some 211 := hw0.symm.trans (FS.g hF rfl)
          refine ⟨_, rfl, (by decide), ?_⟩
          refine ⟨_, rfl, (by decide), (show (0 : Int) ≤ (I 210 2) from by first | with_reducible assumption | omega | (simp only [wr, wl] at *; omega)), (show (I 210 2) < (24 : Int) from by first | with_reducible assumption | omega | (simp only [wr, wl] at *; omega)), ?_⟩
          refine ⟨_, rfl, (by decide), ?_⟩
          refine fun w0 hw0 => ?_; obtain rfl : w0 = some 212 := hw0.symm.trans (FS.g hF rfl)
          refine ⟨_, rfl, (by decide), ?_⟩
          refine ⟨_, rfl, (by decide), (show (0 : Int) ≤ (I 210 2) from by first | with_reducible assumption | omega | (simp only [wr, wl] at *; omega)), (show (I 210 2) < (24 : Int) from by first | with_reducible assumption | omega | (simp only [wr, wl] at *; omega)), ?_⟩
          refine ⟨_, rfl, (by decide), ?_⟩
          refine ⟨_, rfl, (by decide), ?_⟩
          refine ⟨rfl, ?_⟩
          exact ⟨rfl, fun hv hA' => hQ _ (Rg.u (Rg.u (Rg.u hR (Pr_p (k := 211) rfl _ _)) (Pr_p (k := 212) rfl _ _)) (Pr_f rfl)) hA' (fun ka ja hk => ((uI_o (show ¬ (ka = 210 ∧ ja = 2) from by first | (intro e; obtain ⟨rfl, rfl⟩ := e; exact hk (by decide)) | omega))).trans (((uI_o (show ¬ (ka = 212 ∧ ja = (Int.toNat (I 210 2))) from by first | (intro e; obtain ⟨rfl, _⟩ := e; exact hk (by decide)) | omega))).trans ((uI_o (show ¬ (ka = 211 ∧ ja = (Int.toNat (I 210 2))) from by first | (intro e; obtain ⟨rfl, _⟩ := e; exact hk (by decide)) | omega))))) ((by
                              refine ⟨fun z => absurd z (by omega), fun _ => ⟨(show (wr ((I 210 2) + 1)) = I 210 2 + 1 from by omega), fun i hi => ⟨(uI_o (show ¬ (211 = 210 ∧ i = 2) from fun e => absurd e.1 (Nat.ne_of_beq_eq_false rfl))).trans ((uI_o (show ¬ (211 = 212 ∧ i = (Int.toNat (I 210 2))) from fun e => absurd e.1 (Nat.ne_of_beq_eq_false rfl))).trans (uJ_ne (show ¬ i = (Int.toNat (I 210 2)) from by omega))), (uI_o (show ¬ (212 = 210 ∧ i = 2) from fun e => absurd e.1 (Nat.ne_of_beq_eq_false rfl))).trans ((uJ_ne (show ¬ i = (Int.toNat (I 210 2)) from by omega)).trans (uI_o (show ¬ (212 = 211 ∧ i = (Int.toNat (I 210 2))) from fun e => absurd e.1 (Nat.ne_of_beq_eq_false rfl))))⟩, (0 : Int), (-2), fun z => absurd z (by omega), fun _ => rfl, fun z => ?_, fun z => ⟨fun y => ?_, fun y => ?_⟩, fun i hi => ⟨(uI_o (show ¬ (211 = 210 ∧ i = 2) from fun e => absurd e.1 (Nat.ne_of_beq_eq_false rfl))).trans ((uI_o (show ¬ (211 = 212 ∧ i = (Int.toNat (I 210 2))) from fun e => absurd e.1 (Nat.ne_of_beq_eq_false rfl))).trans (uJ_eqj (show i = (Int.toNat (I 210 2)) from by omega))), (uI_o (show ¬ (212 = 210 ∧ i = 2) from fun e => absurd e.1 (Nat.ne_of_beq_eq_false rfl))).trans (uJ_eqj (show i = (Int.toNat (I 210 2)) from by omega))⟩⟩⟩
                              all_goals omega))⟩
      ·
        refine ⟨_, rfl, (by decide), ?_⟩
        refine ⟨(show ¬ ((I 208 6) : Int) = 0 from by first | omega | (simp only [wr, wl] at *; omega)), ?_⟩
        refine ⟨fun (c13 : (¬ ((Int.tmod (wr ((I 210 2) + 1)) (I 208 6)) : Int) = 0)) => ?_, fun (c13 : (((Int.tmod (wr ((I 210 2) + 1)) (I 208 6)) : Int) = 0)) => ?_⟩
        ·
          refine ⟨_, rfl, (by decide), ?_⟩
          have a14 : -2147483648 ≤ (I 208 5) ∧ (I 208 5) < 2147483648 := hA.1 _ _
          refine ⟨fun (c15 : ((0 : Int) ≤ (I 208 5))) => ?_, fun (c15 : (¬ ((0 : Int) ≤ (I 208 5)))) => ?_⟩
          ·
            refine ⟨_, rfl, (by decide), ?_⟩
            refine fun w0 hw0 => ?_; obtain rfl : w0 = some 210 := hw0.symm.trans (FS.g hF rfl)
            refine ⟨_, rfl, (by decide), ?_⟩
            refine ⟨⟨_, rfl, (by decide)⟩, ?_⟩
            refine Call_wp (lv := [some (vr 210), some (vi (I 208 8)), some (vi 0)]) (by decide) ckX6_add [] rfl rfl ?_
            refine ⟨_, rfl, (by decide), ?_⟩
            refine ⟨fun c => absurd c (show (¬ (((I 210 2) : Int) < 0)) from by first | omega | (simp only [wr, wl] at *; omega)), fun _ => ?_⟩
            refine ⟨_, rfl, (by decide), ?_⟩
            refine ⟨fun c => absurd c (show (¬ ((24 : Int) ≤ (I 210 2))) from by first | omega | (simp only [wr, wl] at *; omega)), fun _ => ?_⟩
            refine ⟨_, rfl, (by decide), ?_⟩
            refine fun w0 hw0 => ?_; obtain rfl : w0 = some 211 := hw0.symm.trans (FS.g hF rfl)
            refine ⟨_, rfl, (by decide), ?_⟩
            refine ⟨_, rfl, (by decide), (show (0 : Int) ≤ (I 210 2) from by first | with_reducible assumption | omega | (simp only [wr, wl] at *; omega)), (show (I 210 2) < (24 : Int) from by first | with_reducible assumption | omega | (simp only [wr, wl] at *; omega)), ?_⟩
            refine ⟨_, rfl, (by decide), ?_⟩
            refine fun w0 hw0 => ?_; obtain rfl : w0 = some 212 := hw0.symm.trans (FS.g hF rfl)
            refine ⟨_, rfl, (by decide), ?_⟩
            refine ⟨_, rfl, (by decide), (show (0 : Int) ≤ (I 210 2) from by first | with_reducible assumption | omega | (simp only [wr, wl] at *; omega)), (show (I 210 2) < (24 : Int) from by first | with_reducible assumption | omega | (simp only [wr, wl] at *; omega)), ?_⟩
            refine ⟨_, rfl, (by decide), ?_⟩
            refine ⟨_, rfl, (by decide), ?_⟩
            refine ⟨rfl, ?_⟩
            exact ⟨rfl, fun hv hA' => hQ _ (Rg.u (Rg.u (Rg.u hR (Pr_p (k := 211) rfl _ _)) (Pr_p (k := 212) rfl _ _)) (Pr_f rfl)) hA' (fun ka ja hk => ((uI_o (show ¬ (ka = 210 ∧ ja = 2) from by first | (intro e; obtain ⟨rfl, rfl⟩ := e; exact hk (by decide)) | omega))).trans (((uI_o (show ¬ (ka = 212 ∧ ja = (Int.toNat (I 210 2))) from by first | (intro e; obtain ⟨rfl, _⟩ := e; exact hk (by decide)) | omega))).trans ((uI_o (show ¬ (ka = 211 ∧ ja = (Int.toNat (I 210 2))) from by first | (intro e; obtain ⟨rfl, _⟩ := e; exact hk (by decide)) | omega))))) ((by
                              refine ⟨fun z => absurd z (by omega), fun _ => ⟨(show (wr ((I 210 2) + 1)) = I 210 2 + 1 from by omega), fun i hi => ⟨(uI_o (show ¬ (211 = 210 ∧ i = 2) from fun e => absurd e.1 (Nat.ne_of_beq_eq_false rfl))).trans ((uI_o (show ¬ (211 = 212 ∧ i = (Int.toNat (I 210 2))) from fun e => absurd e.1 (Nat.ne_of_beq_eq_false rfl))).trans (uJ_ne (show ¬ i = (Int.toNat (I 210 2)) from by omega))), (uI_o (show ¬ (212 = 210 ∧ i = 2) from fun e => absurd e.1 (Nat.ne_of_beq_eq_false rfl))).trans ((uJ_ne (show ¬ i = (Int.toNat (I 210 2)) from by omega)).trans (uI_o (show ¬ (212 = 211 ∧ i = (Int.toNat (I 210 2))) from fun e => absurd e.1 (Nat.ne_of_beq_eq_false rfl))))⟩, (0 : Int), 0, fun z => absurd z (by omega), fun _ => rfl, fun z => ?_, fun z => ⟨fun y => ?_, fun y => ?_⟩, fun i hi => ⟨(uI_o (show ¬ (211 = 210 ∧ i = 2) from fun e => absurd e.1 (Nat.ne_of_beq_eq_false rfl))).trans ((uI_o (show ¬ (211 = 212 ∧ i = (Int.toNat (I 210 2))) from fun e => absurd e.1 (Nat.ne_of_beq_eq_false rfl))).trans (uJ_eqj (show i = (Int.toNat (I 210 2)) from by omega))), (uI_o (show ¬ (212 = 210 ∧ i = 2) from fun e => absurd e.1 (Nat.ne_of_beq_eq_false rfl))).trans (uJ_eqj (show i = (Int.toNat (I 210 2)) from by omega))⟩⟩⟩
                              all_goals omega))⟩
          ·
            refine ⟨_, rfl, (by decide), ?_⟩
            refine fun w0 hw0 => ?_; obtain rfl : w0 = some 210 := hw0.symm.trans (FS.g hF rfl)
            refine ⟨_, rfl, (by decide), ?_⟩
            refine ⟨⟨_, rfl, (by decide)⟩, ?_⟩
            refine Call_wp (lv := [some (vr 210), some (vi (I 208 8)), some (vi (-2))]) (by decide) ckX6_add [] rfl rfl ?_
            refine ⟨_, rfl, (by decide), ?_⟩
            refine ⟨fun c => absurd c (show (¬ (((I 210 2) : Int) < 0)) from by first | omega | (simp only [wr, wl] at *; omega)), fun _ => ?_⟩
            refine ⟨_, rfl, (by decide), ?_⟩
            refine ⟨fun c => absurd c (show (¬ ((24 : Int) ≤ (I 210 2))) from by first | omega | (simp only [wr, wl] at *; omega)), fun _ => ?_⟩
            refine ⟨_, rfl, (by decide), ?_⟩
            refine fun w0 hw0 => ?_; obtain rfl : w0 = some 211 := hw0.symm.trans (FS.g hF rfl)
            refine ⟨_, rfl, (by decide), ?_⟩
            refine ⟨_, rfl, (by decide), (show (0 : Int) ≤ (I 210 2) from by first | with_reducible assumption | omega | (simp only [wr, wl] at *; omega)), (show (I 210 2) < (24 : Int) from by first | with_reducible assumption | omega | (simp only [wr, wl] at *; omega)), ?_⟩
            refine ⟨_, rfl, (by decide), ?_⟩
            refine fun w0 hw0 => ?_; obtain rfl : w0 = some 212 := hw0.symm.trans (FS.g hF rfl)
            refine ⟨_, rfl, (by decide), ?_⟩
            refine ⟨_, rfl, (by decide), (show (0 : Int) ≤ (I 210 2) from by first | with_reducible assumption | omega | (simp only [wr, wl] at *; omega)), (show (I 210 2) < (24 : Int) from by first | with_reducible assumption | omega | (simp only [wr, wl] at *; omega)), ?_⟩
            refine ⟨_, rfl, (by decide), ?_⟩
            refine ⟨_, rfl, (by decide), ?_⟩
            refine ⟨rfl, ?_⟩
            exact ⟨rfl, fun hv hA' => hQ _ (Rg.u (Rg.u (Rg.u hR (Pr_p (k := 211) rfl _ _)) (Pr_p (k := 212) rfl _ _)) (Pr_f rfl)) hA' (fun ka ja hk => ((uI_o (show ¬ (ka = 210 ∧ ja = 2) from by first | (intro e; obtain ⟨rfl, rfl⟩ := e; exact hk (by decide)) | omega))).trans (((uI_o (show ¬ (ka = 212 ∧ ja = (Int.toNat (I 210 2))) from by first | (intro e; obtain ⟨rfl, _⟩ := e; exact hk (by decide)) | omega))).trans ((uI_o (show ¬ (ka = 211 ∧ ja = (Int.toNat (I 210 2))) from by first | (intro e; obtain ⟨rfl, _⟩ := e; exact hk (by decide)) | omega))))) ((by
                              refine ⟨fun z => absurd z (by omega), fun _ => ⟨(show (wr ((I 210 2) + 1)) = I 210 2 + 1 from by omega), fun i hi => ⟨(uI_o (show ¬ (211 = 210 ∧ i = 2) from fun e => absurd e.1 (Nat.ne_of_beq_eq_false rfl))).trans ((uI_o (show ¬ (211 = 212 ∧ i = (Int.toNat (I 210 2))) from fun e => absurd e.1 (Nat.ne_of_beq_eq_false rfl))).trans (uJ_ne (show ¬ i = (Int.toNat (I 210 2)) from by omega))), (uI_o (show ¬ (212 = 210 ∧ i = 2) from fun e => absurd e.1 (Nat.ne_of_beq_eq_false rfl))).trans ((uJ_ne (show ¬ i = (Int.toNat (I 210 2)) from by omega)).trans (uI_o (show ¬ (212 = 211 ∧ i = (Int.toNat (I 210 2))) from fun e => absurd e.1 (Nat.ne_of_beq_eq_false rfl))))⟩, (0 : Int), (-2), fun z => absurd z (by omega), fun _ => rfl, fun z => ?_, fun z => ⟨fun y => ?_, fun y => ?_⟩, fun i hi => ⟨(uI_o (show ¬ (211 = 210 ∧ i = 2) from fun e => absurd e.1 (Nat.ne_of_beq_eq_false rfl))).trans ((uI_o (show ¬ (211 = 212 ∧ i = (Int.toNat (I 210 2))) from fun e => absurd e.1 (Nat.ne_of_beq_eq_false rfl))).trans (uJ_eqj (show i = (Int.toNat (I 210 2)) from by omega))), (uI_o (show ¬ (212 = 210 ∧ i = 2) from fun e => absurd e.1 (Nat.ne_of_beq_eq_false rfl))).trans (uJ_eqj (show i = (Int.toNat (I 210 2)) from by omega))⟩⟩⟩
                              all_goals omega))⟩
        ·
          refine ⟨_, rfl, (by decide), ?_⟩
          refine fun w0 hw0 => ?_; obtain rfl : w0 = some 210 := hw0.symm.trans (FS.g hF rfl)
          refine ⟨_, rfl, (by decide), ?_⟩
          refine ⟨⟨_, rfl, (by decide)⟩, ?_⟩
          refine Call_wp (lv := [some (vr 210), some (vi (I 208 8)), some (vi (-1))]) (by decide) ckX6_add [] rfl rfl ?_
          refine ⟨_, rfl, (by decide), ?_⟩
          refine ⟨fun c => absurd c (show (¬ (((I 210 2) : Int) < 0)) from by first | omega | (simp only [wr, wl] at *; omega)), fun _ => ?_⟩
          refine ⟨_, rfl, (by decide), ?_⟩
          refine ⟨fun c => absurd c (show (¬ ((24 : Int) ≤ (I 210 2))) from by first | omega | (simp only [wr, wl] at *; omega)), fun _ => ?_⟩
          refine ⟨_, rfl, (by decide), ?_⟩
          refine fun w0 hw0 => ?_; obtain rfl : w0 = some 211 := hw0.symm.trans (FS.g hF rfl)
          refine ⟨_, rfl, (by decide), ?_⟩
          refine ⟨_, rfl, (by decide), (show (0 : Int) ≤ (I 210 2) from by first | with_reducible assumption | omega | (simp only [wr, wl] at *; omega)), (show (I 210 2) < (24 : Int) from by first | with_reducible assumption | omega | (simp only [wr, wl] at *; omega)), ?_⟩
          refine ⟨_, rfl, (by decide), ?_⟩
          refine fun w0 hw0 => ?_; obtain rfl : w0 = some 212 := hw0.symm.trans (FS.g hF rfl)
          refine ⟨_, rfl, (by decide), ?_⟩
          refine ⟨_, rfl, (by decide), (show (0 : Int) ≤ (I 210 2) from by first | with_reducible assumption | omega | (simp only [wr, wl] at *; omega)), (show (I 210 2) < (24 : Int) from by first | with_reducible assumption | omega | (simp only [wr, wl] at *; omega)), ?_⟩
          refine ⟨_, rfl, (by decide), ?_⟩
          refine ⟨_, rfl, (by decide), ?_⟩
          refine ⟨rfl, ?_⟩
          exact ⟨rfl, fun hv hA' => hQ _ (Rg.u (Rg.u (Rg.u hR (Pr_p (k := 211) rfl _ _)) (Pr_p (k := 212) rfl _ _)) (Pr_f rfl)) hA' (fun ka ja hk => ((uI_o (show ¬ (ka = 210 ∧ ja = 2) from by first | (intro e; obtain ⟨rfl, rfl⟩ := e; exact hk (by decide)) | omega))).trans (((uI_o (show ¬ (ka = 212 ∧ ja = (Int.toNat (I 210 2))) from by first | (intro e; obtain ⟨rfl, _⟩ := e; exact hk (by decide)) | omega))).trans ((uI_o (show ¬ (ka = 211 ∧ ja = (Int.toNat (I 210 2))) from by first | (intro e; obtain ⟨rfl, _⟩ := e; exact hk (by decide)) | omega))))) ((by
                              refine ⟨fun z => absurd z (by omega), fun _ => ⟨(show (wr ((I 210 2) + 1)) = I 210 2 + 1 from by omega), fun i hi => ⟨(uI_o (show ¬ (211 = 210 ∧ i = 2) from fun e => absurd e.1 (Nat.ne_of_beq_eq_false rfl))).trans ((uI_o (show ¬ (211 = 212 ∧ i = (Int.toNat (I 210 2))) from fun e => absurd e.1 (Nat.ne_of_beq_eq_false rfl))).trans (uJ_ne (show ¬ i = (Int.toNat (I 210 2)) from by omega))), (uI_o (show ¬ (212 = 210 ∧ i = 2) from fun e => absurd e.1 (Nat.ne_of_beq_eq_false rfl))).trans ((uJ_ne (show ¬ i = (Int.toNat (I 210 2)) from by omega)).trans (uI_o (show ¬ (212 = 211 ∧ i = (Int.toNat (I 210 2))) from fun e => absurd e.1 (Nat.ne_of_beq_eq_false rfl))))⟩, (0 : Int), (-1), fun z => absurd z (by omega), fun _ => rfl, fun z => ?_, fun z => ⟨fun y => ?_, fun y => ?_⟩, fun i hi => ⟨(uI_o (show ¬ (211 = 210 ∧ i = 2) from fun e => absurd e.1 (Nat.ne_of_beq_eq_false rfl))).trans ((uI_o (show ¬ (211 = 212 ∧ i = (Int.toNat (I 210 2))) from fun e => absurd e.1 (Nat.ne_of_beq_eq_false rfl))).trans (uJ_eqj (show i = (Int.toNat (I 210 2)) from by omega))), (uI_o (show ¬ (212 = 210 ∧ i = 2) from fun e => absurd e.1 (Nat.ne_of_beq_eq_false rfl))).trans (uJ_eqj (show i = (Int.toNat (I 210 2)) from by omega))⟩⟩⟩
                              all_goals omega))⟩
    ·
      refine ⟨_, rfl, (by decide), ?_⟩
      refine fun w0 hw0 => ?_; obtain rfl : w0 = some 209 := hw0.symm.trans (FS.g hF rfl)
      refine ⟨_, rfl, (by decide), ?_⟩
      refine ⟨_, rfl, (by decide), ?_⟩
      refine ⟨_, rfl, (by decide), ?_⟩
      refine fun w0 hw0 => ?_; obtain rfl : w0 = some 209 := hw0.symm.trans (FS.g hF rfl)
      refine ⟨_, _, (by decide), rfl, (by decide), ?_⟩
      have n16 : (wr ((I 208 10) - (I 208 7))) = (I 208 10) - (I 208 7) := wr_id (show -2147483648 ≤ ((I 208 10) - (I 208 7) : Int) ∧ ((I 208 10) - (I 208 7) : Int) < 2147483648 from by omega)
      refine c_mod6e (x := (wr ((I 208 10) - (I 208 7)))) (by omega) ?_
      refine ⟨_, rfl, (by decide), (show (0 : Int) ≤ ((wr ((I 208 10) - (I 208 7))) % 6) from by first | with_reducible assumption | omega | (simp only [wr, wl] at *; omega)), (show ((wr ((I 208 10) - (I 208 7))) % 6) < (6 : Int) from by first | with_reducible assumption | omega | (simp only [wr, wl] at *; omega)), ?_⟩
      have z17 : (I 209 (Int.toNat ((wr ((I 208 10) - (I 208 7))) % 6))) = I 209 (Int.toNat (I 208 10 - P 4) % 6) := congrArg (I 209) (by omega)
      refine ⟨_, rfl, (by decide), ?_⟩
      have a18 : -2147483648 ≤ (I 208 6) ∧ (I 208 6) < 2147483648 := hA.1 _ _
      refine ⟨fun (c19 : (((I 208 6) : Int) ≤ 0)) => ?_, fun (c19 : (¬ (((I 208 6) : Int) ≤ 0))) => ?_⟩
      ·
        refine ⟨_, rfl, (by decide), ?_⟩
        have a20 : -2147483648 ≤ (I 209 (Int.toNat ((wr ((I 208 10) - (I 208 7))) % 6))) ∧ (I 209 (Int.toNat ((wr ((I 208 10) - (I 208 7))) % 6))) < 2147483648 := hA.1 _ _
        have a21 : -2147483648 ≤ (I 208 5) ∧ (I 208 5) < 2147483648 := hA.1 _ _
        refine ⟨fun (c22 : (((I 209 (Int.toNat ((wr ((I 208 10) - (I 208 7))) % 6))) : Int) ≤ (I 208 5))) => ?_, fun (c22 : (¬ (((I 209 (Int.toNat ((wr ((I 208 10) - (I 208 7))) % 6))) : Int) ≤ (I 208 5)))) => ?_⟩
        ·
          refine ⟨_, rfl, (by decide), ?_⟩
          refine fun w0 hw0 => ?_; obtain rfl : w0 = some 210 := hw0.symm.trans (FS.g hF rfl)
          refine ⟨_, rfl, (by decide), ?_⟩
          refine ⟨⟨_, rfl, (by decide)⟩, ?_⟩
          refine Call_wp (lv := [some (vr 210), some (vi (I 208 8)), some (vi (I 209 (Int.toNat ((wr ((I 208 10) - (I 208 7))) % 6))))]) (by decide) ckX6_add [] rfl rfl ?_
          refine ⟨_, rfl, (by decide), ?_⟩
          refine ⟨fun c => absurd c (show (¬ (((I 210 2) : Int) < 0)) from by first | omega | (simp only [wr, wl] at *; omega)), fun _ => ?_⟩
          refine ⟨_, rfl, (by decide), ?_⟩
          refine ⟨fun c => absurd c (show (¬ ((24 : Int) ≤ (I 210 2))) from by first | omega | (simp only [wr, wl] at *; omega)), fun _ => ?_⟩
          refine ⟨_, rfl, (by decide), ?_⟩
          refine fun w0 hw0 => ?_; obtain rfl : w0 = some 211 := hw0.symm.trans (FS.g hF rfl)
          refine ⟨_, rfl, (by decide), ?_⟩
          refine ⟨_, rfl, (by decide), (show (0 : Int) ≤ (I 210 2) from by first | with_reducible assumption | omega | (simp only [wr, wl] at *; omega)), (show (I 210 2) < (24 : Int) from by first | with_reducible assumption | omega | (simp only [wr, wl] at *; omega)), ?_⟩
          refine ⟨_, rfl, (by decide), ?_⟩
          refine fun w0 hw0 => ?_; obtain rfl : w0 = some 212 := hw0.symm.trans (FS.g hF rfl)
          refine ⟨_, rfl, (by decide), ?_⟩
          refine ⟨_, rfl, (by decide), (show (0 : Int) ≤ (I 210 2) from by first | with_reducible assumption | omega | (simp only [wr, wl] at *; omega)), (show (I 210 2) < (24 : Int) from by first | with_reducible assumption | omega | (simp only [wr, wl] at *; omega)), ?_⟩
          refine ⟨_, rfl, (by decide), ?_⟩
          refine ⟨_, rfl, (by decide), ?_⟩
          refine ⟨rfl, ?_⟩
          exact ⟨rfl, fun hv hA' => hQ _ (Rg.u (Rg.u (Rg.u hR (Pr_p (k := 211) rfl _ _)) (Pr_p (k := 212) rfl _ _)) (Pr_f rfl)) hA' (fun ka ja hk => ((uI_o (show ¬ (ka = 210 ∧ ja = 2) from by first | (intro e; obtain ⟨rfl, rfl⟩ := e; exact hk (by decide)) | omega))).trans (((uI_o (show ¬ (ka = 212 ∧ ja = (Int.toNat (I 210 2))) from by first | (intro e; obtain ⟨rfl, _⟩ := e; exact hk (by decide)) | omega))).trans ((uI_o (show ¬ (ka = 211 ∧ ja = (Int.toNat (I 210 2))) from by first | (intro e; obtain ⟨rfl, _⟩ := e; exact hk (by decide)) | omega))))) ((by
                              refine ⟨fun z => absurd z (by omega), fun _ => ⟨(show (wr ((I 210 2) + 1)) = I 210 2 + 1 from by omega), fun i hi => ⟨(uI_o (show ¬ (211 = 210 ∧ i = 2) from fun e => absurd e.1 (Nat.ne_of_beq_eq_false rfl))).trans ((uI_o (show ¬ (211 = 212 ∧ i = (Int.toNat (I 210 2))) from fun e => absurd e.1 (Nat.ne_of_beq_eq_false rfl))).trans (uJ_ne (show ¬ i = (Int.toNat (I 210 2)) from by omega))), (uI_o (show ¬ (212 = 210 ∧ i = 2) from fun e => absurd e.1 (Nat.ne_of_beq_eq_false rfl))).trans ((uJ_ne (show ¬ i = (Int.toNat (I 210 2)) from by omega)).trans (uI_o (show ¬ (212 = 211 ∧ i = (Int.toNat (I 210 2))) from fun e => absurd e.1 (Nat.ne_of_beq_eq_false rfl))))⟩, (I 209 (Int.toNat (I 208 10 - P 4) % 6)), (I 209 (Int.toNat ((wr ((I 208 10) - (I 208 7))) % 6))), fun _ => rfl, fun z => absurd (by omega) z, fun z => ?_, fun z => ⟨fun y => ?_, fun y => ?_⟩, fun i hi => ⟨(uI_o (show ¬ (211 = 210 ∧ i = 2) from fun e => absurd e.1 (Nat.ne_of_beq_eq_false rfl))).trans ((uI_o (show ¬ (211 = 212 ∧ i = (Int.toNat (I 210 2))) from fun e => absurd e.1 (Nat.ne_of_beq_eq_false rfl))).trans (uJ_eqj (show i = (Int.toNat (I 210 2)) from by omega))), (uI_o (show ¬ (212 = 210 ∧ i = 2) from fun e => absurd e.1 (Nat.ne_of_beq_eq_false rfl))).trans (uJ_eqj (show i = (Int.toNat (I 210 2)) from by omega))⟩⟩⟩
                              all_goals omega))⟩
        ·
          refine ⟨_, rfl, (by decide), ?_⟩
          refine fun w0 hw0 => ?_; obtain rfl : w0 = some 210 := hw0.symm.trans (FS.g hF rfl)
          refine ⟨_, rfl, (by decide), ?_⟩
          refine ⟨⟨_, rfl, (by decide)⟩, ?_⟩
          refine Call_wp (lv := [some (vr 210), some (vi (I 208 8)), some (vi (-2))]) (by decide) ckX6_add [] rfl rfl ?_
          refine ⟨_, rfl, (by decide), ?_⟩
          refine ⟨fun c => absurd c (show (¬ (((I 210 2) : Int) < 0)) from by first | omega | (simp only [wr, wl] at *; omega)), fun _ => ?_⟩
          refine ⟨_, rfl, (by decide), ?_⟩
          refine ⟨fun c => absurd c (show (¬ ((24 : Int) ≤ (I 210 2))) from by first | omega | (simp only [wr, wl] at *; omega)), fun _ => ?_⟩
          refine ⟨_, rfl, (by decide), ?_⟩
          refine fun w0 hw0 => ?_; obtain rfl : w0 = some 211 := hw0.symm.trans (FS.g hF rfl)
          refine ⟨_, rfl, (by decide), ?_⟩
          refine ⟨_, rfl, (by decide), (show (0 : Int) ≤ (I 210 2) from by first | with_reducible assumption | omega | (simp only [wr, wl] at *; omega)), (show (I 210 2) < (24 : Int) from by first | with_reducible assumption | omega | (simp only [wr, wl] at *; omega)), ?_⟩
          refine ⟨_, rfl, (by decide), ?_⟩
          refine fun w0 hw0 => ?_; obtain rfl : w0 = some 212 := hw0.symm.trans (FS.g hF rfl)
          refine ⟨_, rfl, (by decide), ?_⟩
          refine ⟨_, rfl, (by decide), (show (0 : Int) ≤ (I 210 2) from by first | with_reducible assumption | omega | (simp only [wr, wl] at *; omega)), (show (I 210 2) < (24 : Int) from by first | with_reducible assumption | omega | (simp only [wr, wl] at *; omega)), ?_⟩
          refine ⟨_, rfl, (by decide), ?_⟩
          refine ⟨_, rfl, (by decide), ?_⟩
          refine ⟨rfl, ?_⟩
          exact ⟨rfl, fun hv hA' => hQ _ (Rg.u (Rg.u (Rg.u hR (Pr_p (k := 211) rfl _ _)) (Pr_p (k := 212) rfl _ _)) (Pr_f rfl)) hA' (fun ka ja hk => ((uI_o (show ¬ (ka = 210 ∧ ja = 2) from by first | (intro e; obtain ⟨rfl, rfl⟩ := e; exact hk (by decide)) | omega))).trans (((uI_o (show ¬ (ka = 212 ∧ ja = (Int.toNat (I 210 2))) from by first | (intro e; obtain ⟨rfl, _⟩ := e; exact hk (by decide)) | omega))).trans ((uI_o (show ¬ (ka = 211 ∧ ja = (Int.toNat (I 210 2))) from by first | (intro e; obtain ⟨rfl, _⟩ := e; exact hk (by decide)) | omega))))) ((by
                              refine ⟨fun z => absurd z (by omega), fun _ => ⟨(show (wr ((I 210 2) + 1)) = I 210 2 + 1 from by omega), fun i hi => ⟨(uI_o (show ¬ (211 = 210 ∧ i = 2) from fun e => absurd e.1 (Nat.ne_of_beq_eq_false rfl))).trans ((uI_o (show ¬ (211 = 212 ∧ i = (Int.toNat (I 210 2))) from fun e => absurd e.1 (Nat.ne_of_beq_eq_false rfl))).trans (uJ_ne (show ¬ i = (Int.toNat (I 210 2)) from by omega))), (uI_o (show ¬ (212 = 210 ∧ i = 2) from fun e => absurd e.1 (Nat.ne_of_beq_eq_false rfl))).trans ((uJ_ne (show ¬ i = (Int.toNat (I 210 2)) from by omega)).trans (uI_o (show ¬ (212 = 211 ∧ i = (Int.toNat (I 210 2))) from fun e => absurd e.1 (Nat.ne_of_beq_eq_false rfl))))⟩, (I 209 (Int.toNat (I 208 10 - P 4) % 6)), (-2), fun _ => rfl, fun z => absurd (by omega) z, fun z => ?_, fun z => ⟨fun y => ?_, fun y => ?_⟩, fun i hi => ⟨(uI_o (show ¬ (211 = 210 ∧ i = 2) from fun e => absurd e.1 (Nat.ne_of_beq_eq_false rfl))).trans ((uI_o (show ¬ (211 = 212 ∧ i = (Int.toNat (I 210 2))) from fun e => absurd e.1 (Nat.ne_of_beq_eq_false rfl))).trans (uJ_eqj (show i = (Int.toNat (I 210 2)) from by omega))), (uI_o (show ¬ (212 = 210 ∧ i = 2) from fun e => absurd e.1 (Nat.ne_of_beq_eq_false rfl))).trans (uJ_eqj (show i = (Int.toNat (I 210 2)) from by omega))⟩⟩⟩
                              all_goals omega))⟩
      ·
        refine ⟨_, rfl, (by decide), ?_⟩
        refine ⟨(show ¬ ((I 208 6) : Int) = 0 from by first | omega | (simp only [wr, wl] at *; omega)), ?_⟩
        refine ⟨fun (c23 : (¬ ((Int.tmod (wr ((I 210 2) + 1)) (I 208 6)) : Int) = 0)) => ?_, fun (c23 : (((Int.tmod (wr ((I 210 2) + 1)) (I 208 6)) : Int) = 0)) => ?_⟩
        ·
          refine ⟨_, rfl, (by decide), ?_⟩
          have a24 : -2147483648 ≤ (I 209 (Int.toNat ((wr ((I 208 10) - (I 208 7))) % 6))) ∧ (I 209 (Int.toNat ((wr ((I 208 10) - (I 208 7))) % 6))) < 2147483648 := hA.1 _ _
          have a25 : -2147483648 ≤ (I 208 5) ∧ (I 208 5) < 2147483648 := hA.1 _ _
          refine ⟨fun (c26 : (((I 209 (Int.toNat ((wr ((I 208 10) - (I 208 7))) % 6))) : Int) ≤ (I 208 5))) => ?_, fun (c26 : (¬ (((I 209 (Int.toNat ((wr ((I 208 10) - (I 208 7))) % 6))) : Int) ≤ (I 208 5)))) => ?_⟩
          ·
            refine ⟨_, rfl, (by decide), ?_⟩
            refine fun w0 hw0 => ?_; obtain rfl : w0 = some 210 := hw0.symm.trans (FS.g hF rfl)
            refine ⟨_, rfl, (by decide), ?_⟩
            refine ⟨⟨_, rfl, (by decide)⟩, ?_⟩
            refine Call_wp (lv := [some (vr 210), some (vi (I 208 8)), some (vi (I 209 (Int.toNat ((wr ((I 208 10) - (I 208 7))) % 6))))]) (by decide) ckX6_add [] rfl rfl ?_
            refine ⟨_, rfl, (by decide), ?_⟩
            refine ⟨fun c => absurd c (show (¬ (((I 210 2) : Int) < 0)) from by first | omega | (simp only [wr, wl] at *; omega)), fun _ => ?_⟩
            refine ⟨_, rfl, (by decide), ?_⟩
            refine ⟨fun c => absurd c (show (¬ ((24 : Int) ≤ (I 210 2))) from by first | omega | (simp only [wr, wl] at *; omega)), fun _ => ?_⟩
            refine ⟨_, rfl, (by decide), ?_⟩
            refine fun w0 hw0 => ?_; obtain rfl : w0 = some 211 := hw0.symm.trans (FS.g hF rfl)
            refine ⟨_, rfl, (by decide), ?_⟩
            refine ⟨_, rfl, (by decide), (show (0 : Int) ≤ (I 210 2) from by first | with_reducible assumption | omega | (simp only [wr, wl] at *; omega)), (show (I 210 2) < (24 : Int) from by first | with_reducible assumption | omega | (simp only [wr, wl] at *; omega)), ?_⟩
            refine ⟨_, rfl, (by decide), ?_⟩
            refine fun w0 hw0 => ?_; obtain rfl : w0 = some 212 := hw0.symm.trans (FS.g hF rfl)
            refine ⟨_, rfl, (by decide), ?_⟩
            refine ⟨_, rfl, (by decide), (show (0 : Int) ≤ (I 210 2) from by first | with_reducible assumption | omega | (simp only [wr, wl] at *; omega)), (show (I 210 2) < (24 : Int) from by first | with_reducible assumption | omega | (simp only [wr, wl] at *; omega)), ?_⟩
            refine ⟨_, rfl, (by decide), ?_⟩
            refine ⟨_, rfl, (by decide), ?_⟩
            refine ⟨rfl, ?_⟩
            exact ⟨rfl, fun hv hA' => hQ _ (Rg.u (Rg.u (Rg.u hR (Pr_p (k := 211) rfl _ _)) (Pr_p (k := 212) rfl _ _)) (Pr_f rfl)) hA' (fun ka ja hk => ((uI_o (show ¬ (ka = 210 ∧ ja = 2) from by first | (intro e; obtain ⟨rfl, rfl⟩ := e; exact hk (by decide)) | omega))).trans (((uI_o (show ¬ (ka = 212 ∧ ja = (Int.toNat (I 210 2))) from by first | (intro e; obtain ⟨rfl, _⟩ := e; exact hk (by decide)) | omega))).trans ((uI_o (show ¬ (ka = 211 ∧ ja = (Int.toNat (I 210 2))) from by first | (intro e; obtain ⟨rfl, _⟩ := e; exact hk (by decide)) | omega))))) ((by
                              refine ⟨fun z => absurd z (by omega), fun _ => ⟨(show (wr ((I 210 2) + 1)) = I 210 2 + 1 from by omega), fun i hi => ⟨(uI_o (show ¬ (211 = 210 ∧ i = 2) from fun e => absurd e.1 (Nat.ne_of_beq_eq_false rfl))).trans ((uI_o (show ¬ (211 = 212 ∧ i = (Int.toNat (I 210 2))) from fun e => absurd e.1 (Nat.ne_of_beq_eq_false rfl))).trans (uJ_ne (show ¬ i = (Int.toNat (I 210 2)) from by omega))), (uI_o (show ¬ (212 = 210 ∧ i = 2) from fun e => absurd e.1 (Nat.ne_of_beq_eq_false rfl))).trans ((uJ_ne (show ¬ i = (Int.toNat (I 210 2)) from by omega)).trans (uI_o (show ¬ (212 = 211 ∧ i = (Int.toNat (I 210 2))) from fun e => absurd e.1 (Nat.ne_of_beq_eq_false rfl))))⟩, (I 209 (Int.toNat (I 208 10 - P 4) % 6)), (I 209 (Int.toNat ((wr ((I 208 10) - (I 208 7))) % 6))), fun _ => rfl, fun z => absurd (by omega) z, fun z => ?_, fun z => ⟨fun y => ?_, fun y => ?_⟩, fun i hi => ⟨(uI_o (show ¬ (211 = 210 ∧ i = 2) from fun e => absurd e.1 (Nat.ne_of_beq_eq_false rfl))).trans ((uI_o (show ¬ (211 = 212 ∧ i = (Int.toNat (I 210 2))) from fun e => absurd e.1 (Nat.ne_of_beq_eq_false rfl))).trans (uJ_eqj (show i = (Int.toNat (I 210 2)) from by omega))), (uI_o (show ¬ (212 = 210 ∧ i = 2) from fun e => absurd e.1 (Nat.ne_of_beq_eq_false rfl))).trans (uJ_eqj (show i = (Int.toNat (I 210 2)) from by omega))⟩⟩⟩
                              all_goals omega))⟩
          ·
            refine ⟨_, rfl, (by decide), ?_⟩
            refine fun w0 hw0 => ?_; obtain rfl : w0 = some 210 := hw0.symm.trans (FS.g hF rfl)
            refine ⟨_, rfl, (by decide), ?_⟩
            refine ⟨⟨_, rfl, (by decide)⟩, ?_⟩
            refine Call_wp (lv := [some (vr 210), some (vi (I 208 8)), some (vi (-2))]) (by decide) ckX6_add [] rfl rfl ?_
            refine ⟨_, rfl, (by decide), ?_⟩
            refine ⟨fun c => absurd c (show (¬ (((I 210 2) : Int) < 0)) from by first | omega | (simp only [wr, wl] at *; omega)), fun _ => ?_⟩
            refine ⟨_, rfl, (by decide), ?_⟩
            refine ⟨fun c => absurd c (show (¬ ((24 : Int) ≤ (I 210 2))) from by first | omega | (simp only [wr, wl] at *; omega)), fun _ => ?_⟩
            refine ⟨_, rfl, (by decide), ?_⟩
            refine fun w0 hw0 => ?_; obtain rfl : w0 = some 211 := hw0.symm.trans (FS.g hF rfl)
            refine ⟨_, rfl, (by decide), ?_⟩
            refine ⟨_, rfl, (by decide), (show (0 : Int) ≤ (I 210 2) from by first | with_reducible assumption | omega | (simp only [wr, wl] at *; omega)), (show (I 210 2) < (24 : Int) from by first | with_reducible assumption | omega | (simp only [wr, wl] at *; omega)), ?_⟩
            refine ⟨_, rfl, (by decide), ?_⟩
            refine fun w0 hw0 => ?_; obtain rfl : w0 = some 212 := hw0.symm.trans (FS.g hF rfl)
            refine ⟨_, rfl, (by decide), ?_⟩
            refine ⟨_, rfl, (by decide), (show (0 : Int) ≤ (I 210 2) from by first | with_reducible assumption | omega | (simp only [wr, wl] at *; omega)), (show (I 210 2) < (24 : Int) from by first | with_reducible assumption | omega | (simp only [wr, wl] at *; omega)), ?_⟩
            refine ⟨_, rfl, (by decide), ?_⟩
            refine ⟨_, rfl, (by decide), ?_⟩
            refine ⟨rfl, ?_⟩
            exact ⟨rfl, fun hv hA' => hQ _ (Rg.u (Rg.u (Rg.u hR (Pr_p (k := 211) rfl _ _)) (Pr_p (k := 212) rfl _ _)) (Pr_f rfl)) hA' (fun ka ja hk => ((uI_o (show ¬ (ka = 210 ∧ ja = 2) from by first | (intro e; obtain ⟨rfl, rfl⟩ := e; exact hk (by decide)) | omega))).trans (((uI_o (show ¬ (ka = 212 ∧ ja = (Int.toNat (I 210 2))) from by first | (intro e; obtain ⟨rfl, _⟩ := e; exact hk (by decide)) | omega))).trans ((uI_o (show ¬ (ka = 211 ∧ ja = (Int.toNat (I 210 2))) from by first | (intro e; obtain ⟨rfl, _⟩ := e; exact hk (by decide)) | omega))))) ((by
                              refine ⟨fun z => absurd z (by omega), fun _ => ⟨(show (wr ((I 210 2) + 1)) = I 210 2 + 1 from by omega), fun i hi => ⟨(uI_o (show ¬ (211 = 210 ∧ i = 2) from fun e => absurd e.1 (Nat.ne_of_beq_eq_false rfl))).trans ((uI_o (show ¬ (211 = 212 ∧ i = (Int.toNat (I 210 2))) from fun e => absurd e.1 (Nat.ne_of_beq_eq_false rfl))).trans (uJ_ne (show ¬ i = (Int.toNat (I 210 2)) from by omega))), (uI_o (show ¬ (212 = 210 ∧ i = 2) from fun e => absurd e.1 (Nat.ne_of_beq_eq_false rfl))).trans ((uJ_ne (show ¬ i = (Int.toNat (I 210 2)) from by omega)).trans (uI_o (show ¬ (212 = 211 ∧ i = (Int.toNat (I 210 2))) from fun e => absurd e.1 (Nat.ne_of_beq_eq_false rfl))))⟩, (I 209 (Int.toNat (I 208 10 - P 4) % 6)), (-2), fun _ => rfl, fun z => absurd (by omega) z, fun z => ?_, fun z => ⟨fun y => ?_, fun y => ?_⟩, fun i hi => ⟨(uI_o (show ¬ (211 = 210 ∧ i = 2) from fun e => absurd e.1 (Nat.ne_of_beq_eq_false rfl))).trans ((uI_o (show ¬ (211 = 212 ∧ i = (Int.toNat (I 210 2))) from fun e => absurd e.1 (Nat.ne_of_beq_eq_false rfl))).trans (uJ_eqj (show i = (Int.toNat (I 210 2)) from by omega))), (uI_o (show ¬ (212 = 210 ∧ i = 2) from fun e => absurd e.1 (Nat.ne_of_beq_eq_false rfl))).trans (uJ_eqj (show i = (Int.toNat (I 210 2)) from by omega))⟩⟩⟩
                              all_goals omega))⟩
        ·
          refine ⟨_, rfl, (by decide), ?_⟩
          refine fun w0 hw0 => ?_; obtain rfl : w0 = some 210 := hw0.symm.trans (FS.g hF rfl)
          refine ⟨_, rfl, (by decide), ?_⟩
          refine ⟨⟨_, rfl, (by decide)⟩, ?_⟩
          refine Call_wp (lv := [some (vr 210), some (vi (I 208 8)), some (vi (-1))]) (by decide) ckX6_add [] rfl rfl ?_
          refine ⟨_, rfl, (by decide), ?_⟩
          refine ⟨fun c => absurd c (show (¬ (((I 210 2) : Int) < 0)) from by first | omega | (simp only [wr, wl] at *; omega)), fun _ => ?_⟩
          refine ⟨_, rfl, (by decide), ?_⟩
          refine ⟨fun c => absurd c (show (¬ ((24 : Int) ≤ (I 210 2))) from by first | omega | (simp only [wr, wl] at *; omega)), fun _ => ?_⟩
          refine ⟨_, rfl, (by decide), ?_⟩
          refine fun w0 hw0 => ?_; obtain rfl : w0 = some 211 := hw0.symm.trans (FS.g hF rfl)
          refine ⟨_, rfl, (by decide), ?_⟩
          refine ⟨_, rfl, (by decide), (show (0 : Int) ≤ (I 210 2) from by first | with_reducible assumption | omega | (simp only [wr, wl] at *; omega)), (show (I 210 2) < (24 : Int) from by first | with_reducible assumption | omega | (simp only [wr, wl] at *; omega)), ?_⟩
          refine ⟨_, rfl, (by decide), ?_⟩
          refine fun w0 hw0 => ?_; obtain rfl : w0 = some 212 := hw0.symm.trans (FS.g hF rfl)
          refine ⟨_, rfl, (by decide), ?_⟩
          refine ⟨_, rfl, (by decide), (show (0 : Int) ≤ (I 210 2) from by first | with_reducible assumption | omega | (simp only [wr, wl] at *; omega)), (show (I 210 2) < (24 : Int) from by first | with_reducible assumption | omega | (simp only [wr, wl] at *; omega)), ?_⟩
          refine ⟨_, rfl, (by decide), ?_⟩
          refine ⟨_, rfl, (by decide), ?_⟩
          refine ⟨rfl, ?_⟩
          exact ⟨rfl, fun hv hA' => hQ _ (Rg.u (Rg.u (Rg.u hR (Pr_p (k := 211) rfl _ _)) (Pr_p (k := 212) rfl _ _)) (Pr_f rfl)) hA' (fun ka ja hk => ((uI_o (show ¬ (ka = 210 ∧ ja = 2) from by first | (intro e; obtain ⟨rfl, rfl⟩ := e; exact hk (by decide)) | omega))).trans (((uI_o (show ¬ (ka = 212 ∧ ja = (Int.toNat (I 210 2))) from by first | (intro e; obtain ⟨rfl, _⟩ := e; exact hk (by decide)) | omega))).trans ((uI_o (show ¬ (ka = 211 ∧ ja = (Int.toNat (I 210 2))) from by first | (intro e; obtain ⟨rfl, _⟩ := e; exact hk (by decide)) | omega))))) ((by
                              refine ⟨fun z => absurd z (by omega), fun _ => ⟨(show (wr ((I 210 2) + 1)) = I 210 2 + 1 from by omega), fun i hi => ⟨(uI_o (show ¬ (211 = 210 ∧ i = 2) from fun e => absurd e.1 (Nat.ne_of_beq_eq_false rfl))).trans ((uI_o (show ¬ (211 = 212 ∧ i = (Int.toNat (I 210 2))) from fun e => absurd e.1 (Nat.ne_of_beq_eq_false rfl))).trans (uJ_ne (show ¬ i = (Int.toNat (I 210 2)) from by omega))), (uI_o (show ¬ (212 = 210 ∧ i = 2) from fun e => absurd e.1 (Nat.ne_of_beq_eq_false rfl))).trans ((uJ_ne (show ¬ i = (Int.toNat (I 210 2)) from by omega)).trans (uI_o (show ¬ (212 = 211 ∧ i = (Int.toNat (I 210 2))) from fun e => absurd e.1 (Nat.ne_of_beq_eq_false rfl))))⟩, (I 209 (Int.toNat (I 208 10 - P 4) % 6)), (-1), fun _ => rfl, fun z => absurd (by omega) z, fun z => ?_, fun z => ⟨fun y => ?_, fun y => ?_⟩, fun i hi => ⟨(uI_o (show ¬ (211 = 210 ∧ i = 2) from fun e => absurd e.1 (Nat.ne_of_beq_eq_false rfl))).trans ((uI_o (show ¬ (211 = 212 ∧ i = (Int.toNat (I 210 2))) from fun e => absurd e.1 (Nat.ne_of_beq_eq_false rfl))).trans (uJ_eqj (show i = (Int.toNat (I 210 2)) from by omega))), (uI_o (show ¬ (212 = 210 ∧ i = 2) from fun e => absurd e.1 (Nat.ne_of_beq_eq_false rfl))).trans (uJ_eqj (show i = (Int.toNat (I 210 2)) from by omega))⟩⟩⟩
                              all_goals omega))⟩
  ·
    exact ⟨rfl, fun hv hA' => hQ _ hR hA' (fun _ _ _ => rfl) (⟨fun _ => ⟨rfl, fun i => ⟨rfl, rfl⟩⟩, fun z => absurd z (by omega)⟩)⟩
theorem c_ask10 (hF : FS F) (hR : Rg I) {v0 : Int} {q : Nat} (hq : F 208 2 = some q) (hp : PP F q) {ld : Int → Int} {P : Nat → Int} (hc : CR9 ld P q I) (hq2 : 20 ≤ q ∧ q + 4 < 90) (hQ : ∀ (I' : pI), Rg I' → AR I' → (∀ k j, ¬ (k = 208 ∧ j = 11) → I' k j = I k j) → (CAK P v0 I' I) → Q none F I') : CallN G d kX1_askLimits [vr 208, vi v0] NP F I Q := by
  refine CallN_in (fun hok hA => CallN_out ?_)
  have iv0 : -2147483648 ≤ v0 ∧ v0 < 2147483648 := hok (vi v0) (by simp)
  have hL := hc.1
  have hP := hc.2.1
  have hK := hc.2.2.1
  have h5 := hc.2.2.2.2.1
  refine Call_wp (lv := [some (vr 208), some (vi v0)]) (by decide) ckX1_askLimits [] rfl rfl ?_
  refine ⟨_, rfl, (by decide), ?_⟩
  have a1 : -2147483648 ≤ (I 208 13) ∧ (I 208 13) < 2147483648 := hA.1 _ _
  refine ⟨fun (c2 : (((I 208 13) : Int) = 0)) => ?_, fun (c2 : (¬ (((I 208 13) : Int) = 0))) => ?_⟩
  ·
    refine ⟨_, rfl, (by decide), ?_⟩
    have a3 : -2147483648 ≤ (I 208 3) ∧ (I 208 3) < 2147483648 := hA.1 _ _
    refine ⟨fun (c4 : ((v0 : Int) ≤ (I 208 3))) => ?_, fun (c4 : (¬ ((v0 : Int) ≤ (I 208 3)))) => ?_⟩
    ·
      refine ⟨_, rfl, (by decide), ?_⟩
      refine ⟨_, rfl, (by decide), ?_⟩
      have a5 : -2147483648 ≤ (I 208 8) ∧ (I 208 8) < 2147483648 := hA.1 _ _
      have a6 : -2147483648 ≤ (I 208 4) ∧ (I 208 4) < 2147483648 := hA.1 _ _
      refine ⟨fun (c7 : (((I 208 8) : Int) ≤ (I 208 4))) => ?_, fun (c7 : (¬ (((I 208 8) : Int) ≤ (I 208 4)))) => ?_⟩
      ·
        exact ⟨rfl, fun hv hA' => hQ _ hR hA' (fun _ _ _ => rfl) ((by
                              show (¬ I 208 13 = 0 → ((I 208 11) : Int) = 3) ∧ (I 208 13 = 0 → (P 0 < v0 → ((I 208 11) : Int) = 1) ∧ (¬ P 0 < v0 → (P 1 < I 208 8 → ((I 208 11) : Int) = 2) ∧ (¬ P 1 < I 208 8 → ((I 208 11) : Int) = I 208 11)))
                              omega))⟩
      ·
        refine ⟨_, rfl, (by decide), ?_⟩
        exact ⟨rfl, fun hv hA' => hQ _ (Rg.u hR (Pr_f rfl)) hA' (fun ka ja hk => (uI_o (show ¬ (ka = 208 ∧ ja = 11) from by first | (intro e; obtain ⟨rfl, rfl⟩ := e; exact hk (by decide)) | omega))) ((by
                              show (¬ I 208 13 = 0 → (2 : Int) = 3) ∧ (I 208 13 = 0 → (P 0 < v0 → (2 : Int) = 1) ∧ (¬ P 0 < v0 → (P 1 < I 208 8 → (2 : Int) = 2) ∧ (¬ P 1 < I 208 8 → (2 : Int) = I 208 11)))
                              omega))⟩
    ·
      refine ⟨_, rfl, (by decide), ?_⟩
      exact ⟨rfl, fun hv hA' => hQ _ (Rg.u hR (Pr_f rfl)) hA' (fun ka ja hk => (uI_o (show ¬ (ka = 208 ∧ ja = 11) from by first | (intro e; obtain ⟨rfl, rfl⟩ := e; exact hk (by decide)) | omega))) ((by
                              show (¬ I 208 13 = 0 → (1 : Int) = 3) ∧ (I 208 13 = 0 → (P 0 < v0 → (1 : Int) = 1) ∧ (¬ P 0 < v0 → (P 1 < I 208 8 → (1 : Int) = 2) ∧ (¬ P 1 < I 208 8 → (1 : Int) = I 208 11)))
                              omega))⟩
  ·
    refine ⟨_, rfl, (by decide), ?_⟩
    exact ⟨rfl, fun hv hA' => hQ _ (Rg.u hR (Pr_f rfl)) hA' (fun ka ja hk => (uI_o (show ¬ (ka = 208 ∧ ja = 11) from by first | (intro e; obtain ⟨rfl, rfl⟩ := e; exact hk (by decide)) | omega))) ((by
                              show (¬ I 208 13 = 0 → (3 : Int) = 3) ∧ (I 208 13 = 0 → (P 0 < v0 → (3 : Int) = 1) ∧ (¬ P 0 < v0 → (P 1 < I 208 8 → (3 : Int) = 2) ∧ (¬ P 1 < I 208 8 → (3 : Int) = I 208 11)))
                              omega))⟩
set_option maxHeartbeats 20000000 in
theorem c_once10 (hF : FS F) (hR : Rg I) {v0 : Int} {q : Nat} (hq : F 208 2 = some q) (hp : PP F q) {ld : Int → Int} {P : Nat → Int} (hc : CR9 ld P q I) (hq2 : 20 ≤ q ∧ q + 4 < 90) {il : Int} {S : pI} (hil : il = 0 ∨ il = 1) (hv0 : 0 ≤ v0 ∧ v0 ≤ 5) (hM : MC il S I) (hW : WS S) (hy : il = 0 → S 0 2 = 0) (hB : S 0 3 ≤ 19400000) (hQ : ∀ (I' : pI), Rg I' → AR I' → (∀ k j, ¬ ((k = 208 ∧ 8 ≤ j ∧ j ≤ 13 ∧ j ≠ 12) ∨ k = 209 ∨ (210 ≤ k ∧ k ≤ 212)) → I' k j = I k j) → (MC il (onc ld P il v0 S) I') → Q none F I') : CallN G (d + 6) kX1_doOnce [vr 208, vi v0] NP F I Q := by
  refine CallN_in (fun hok hA => CallN_out ?_)
  have iv0 : -2147483648 ≤ v0 ∧ v0 < 2147483648 := hok (vi v0) (by simp)
  have hL := hc.1
  have hP := hc.2.1
  have hK := hc.2.2.1
  have h5 := hc.2.2.2.2.1
  have hM2 := hM
  obtain ⟨⟨m8, m13, m14, m11, m10, m9, m2⟩, ma, mr⟩ := hM2
  have hW2 := hW
  obtain ⟨wa, wb_, wc, wd⟩ := hW2
  have k0 : mvF P v0 (I 208 9) = mvF P v0 (S 0 4) := by rw [m9]
  refine Call_wp (lv := [some (vr 208), some (vi v0), none]) (by decide) ckX1_doOnce [] rfl rfl ?_
  refine ⟨_, rfl, (by decide), ?_⟩
  have r1 : 0 ≤ (I 208 8) ∧ (I 208 8) ≤ 19400000 := (by omega)
  refine ⟨⟨_, rfl, (by decide)⟩, ?_⟩
  have r2 : 0 ≤ (I 208 9) ∧ (I 208 9) ≤ 19400000 := (by omega)
  refine c_more10 (v0 := v0) hF hR hq hp hc hq2 (show 0 ≤ (I 208 9) ∧ (I 208 9) ≤ 20000000 from by first | omega | (simp only [wr, wl] at *; omega)) (by omega) (fun vr4 I5 hR6 hA7 hr9 hW8 q10 q11 q12 q13 => ?_)
  have hr9 : -2147483648 ≤ vr4 ∧ vr4 < 2147483648 := hr9
  have q10 : -1 ≤ vr4 ∧ vr4 ≤ 1 := q10
  have q11 : vr4 = mvF P (v0 : Int) (I 208 9) := q11
  have q12 : (v0 : Int) = 2 → (I5 208 9) = (I 208 9) + 1 := q12
  have q13 : ¬ (v0 : Int) = 2 → (I5 208 9) = (I 208 9) := q13
  have n15 : (wr ((I 208 8) + vr4)) = (I 208 8) + vr4 := wr_id (show -2147483648 ≤ ((I 208 8) + vr4 : Int) ∧ ((I 208 8) + vr4 : Int) < 2147483648 from by omega)
  refine j_max (fun w16 h17 h18 h19 => ?_)
  refine ⟨_, rfl, (by decide), ?_⟩
  refine ⟨_, rfl, (by decide), ?_⟩
  have r20 : 0 ≤ (I 208 13) ∧ (I 208 13) ≤ 1 := (by omega)
  have u21 : (I5 208 13) = (I 208 13) := hW8 _ _ (by first | decide | omega)
  have a23 : -2147483648 ≤ (I5 208 13) ∧ (I5 208 13) < 2147483648 := hA7.1 _ _
  refine ⟨fun (c24 : (¬ ((I5 208 13) : Int) = 0)) => ?_, fun (c24 : (((I5 208 13) : Int) = 0)) => ?_⟩
  ·
    refine ⟨_, rfl, (by decide), (by decide), ?_⟩
    refine ⟨_, rfl, (by decide), ?_⟩
    have r25 : 0 ≤ (I 208 10) ∧ (I 208 10) ≤ 19400000 := (by omega)
    have u26 : (I5 208 10) = (I 208 10) := hW8 _ _ (by first | decide | omega)
    have a28 : -2147483648 ≤ (I5 208 10) ∧ (I5 208 10) < 2147483648 := hA7.1 _ _
    refine ⟨_, rfl, (by decide), ?_⟩
    refine ⟨⟨_, rfl, (by decide)⟩, ?_⟩
    refine c_mload10  hF (Rg.u (Rg.u (Rg.u hR6 (Pr_f rfl)) (Pr_f rfl)) (Pr_f rfl)) hq hp (CR9_f hc (fun j h1 h2 => (uJ_ne (show ¬ j = 10 from by omega)).trans ((uJ_ne (show ¬ j = 13 from by omega)).trans ((uJ_ne (show ¬ j = 8 from by omega)).trans (hW8 208 j (by omega))))) (fun j => (uI_o (show ¬ (q = 208 ∧ j = 10) from by omega)).trans ((uI_o (show ¬ (q = 208 ∧ j = 13) from by omega)).trans ((uI_o (show ¬ (q = 208 ∧ j = 8) from by omega)).trans (hW8 q j (by omega))))) (fun j => (uI_o (show ¬ ((q + 1) = 208 ∧ j = 10) from by omega)).trans ((uI_o (show ¬ ((q + 1) = 208 ∧ j = 13) from by omega)).trans ((uI_o (show ¬ ((q + 1) = 208 ∧ j = 8) from by omega)).trans (hW8 (q + 1) j (by omega)))))) hq2 (fun vr29 hr30 qr31 => ?_)
    have hr30 : -2147483648 ≤ vr29 ∧ vr29 < 2147483648 := hr30
    have hl32 : vr29 = 0 := qr31.2 (show ¬ (1 : Int) = 0 from by decide)
    refine ⟨_, rfl, (by decide), ?_⟩
    refine fun w0 hw0 => ?_; obtain rfl : w0 = some 209 := hw0.symm.trans (FS.g hF rfl)
    refine ⟨_, rfl, (by decide), ?_⟩
    refine ⟨_, rfl, (by decide), ?_⟩
    refine fun w0 hw0 => ?_; obtain rfl : w0 = some 209 := hw0.symm.trans (FS.g hF rfl)
    refine ⟨_, _, (by decide), rfl, (by decide), ?_⟩
    have n33 : (wr ((I5 208 10) + 1)) = (I5 208 10) + 1 := wr_id (show -2147483648 ≤ ((I5 208 10) + 1 : Int) ∧ ((I5 208 10) + 1 : Int) < 2147483648 from by omega)
    refine c_mod6e (x := (wr ((I5 208 10) + 1))) (by omega) ?_
    refine ⟨_, rfl, (by decide), (show (0 : Int) ≤ ((wr ((I5 208 10) + 1)) % 6) from by first | with_reducible assumption | omega | (simp only [wr, wl] at *; omega)), (show ((wr ((I5 208 10) + 1)) % 6) < (6 : Int) from by first | with_reducible assumption | omega | (simp only [wr, wl] at *; omega)), ?_⟩
    refine ⟨fun (c34 : (¬ (v0 : Int) = 4)) => ?_, fun (c34 : ((v0 : Int) = 4)) => ?_⟩
    ·
      refine ⟨_, rfl, (by decide), ?_⟩
      have r35 : 0 ≤ (I 208 14) ∧ (I 208 14) ≤ 1 := (by omega)
      have u36 : (I5 208 14) = (I 208 14) := hW8 _ _ (by first | decide | omega)
      have a38 : -2147483648 ≤ (I5 208 14) ∧ (I5 208 14) < 2147483648 := hA7.1 _ _
      refine ⟨fun (c39 : (¬ ((I5 208 14) : Int) = 0)) => ?_, fun (c39 : (((I5 208 14) : Int) = 0)) => ?_⟩
      ·
        exact ⟨rfl, fun hv hA' => hQ _ (Rg.u (Rg.u (Rg.u (Rg.u hR6 (Pr_f rfl)) (Pr_f rfl)) (Pr_f rfl)) (Pr_p (k := 209) rfl _ _)) hA' (fun ka ja hk => ((uI_o (show ¬ (ka = 209 ∧ ja = (Int.toNat ((wr ((I5 208 10) + 1)) % 6))) from by omega))).trans (((uI_o (show ¬ (ka = 208 ∧ ja = 10) from by first | (intro e; obtain ⟨rfl, rfl⟩ := e; exact hk (by decide)) | omega))).trans (((uI_o (show ¬ (ka = 208 ∧ ja = 13) from by first | (intro e; obtain ⟨rfl, rfl⟩ := e; exact hk (by decide)) | omega))).trans (((uI_o (show ¬ (ka = 208 ∧ ja = 8) from by first | (intro e; obtain ⟨rfl, rfl⟩ := e; exact hk (by decide)) | omega))).trans ((hW8 ka ja (by omega))))))) ((by
                              have e8 : w16 = xxF P v0 S := by have k2 := xxF_c (P := P) (act := v0) (S := S); omega
                              have eb : (1 : Int) = bF P v0 S := ((bF_c (P := P) (act := v0) (S := S)).1 (by omega)).symm
                              have el : vr29 = ldF ld P v0 S := by rw [(ldF_c (ld := ld) (P := P) (act := v0) (S := S)).1 (by omega), hl32]
                              exact MC_n (M := (uI (uI (uI (uI I5 208 8 w16) 208 13 1) 208 10 (wr ((I5 208 10) + 1))) 209 (Int.toNat ((wr ((I5 208 10) + 1)) % 6)) vr29)) (K := (uI (uI (uI (uI I5 208 8 w16) 208 13 1) 208 10 (wr ((I5 208 10) + 1))) 209 (Int.toNat ((wr ((I5 208 10) + 1)) % 6)) vr29)) hil hW hM hy hP.1 (((uI_o (show ¬ (208 = 209 ∧ 8 = (Int.toNat ((wr ((I5 208 10) + 1)) % 6))) from fun e => absurd e.1 (Nat.ne_of_beq_eq_false rfl))).trans ((uJ_ne (show ¬ 8 = 10 from Nat.ne_of_beq_eq_false rfl)).trans ((uJ_ne (show ¬ 8 = 13 from Nat.ne_of_beq_eq_false rfl)).trans (uJ_eq)))).trans e8) (((uI_o (show ¬ (208 = 209 ∧ 13 = (Int.toNat ((wr ((I5 208 10) + 1)) % 6))) from fun e => absurd e.1 (Nat.ne_of_beq_eq_false rfl))).trans ((uJ_ne (show ¬ 13 = 10 from Nat.ne_of_beq_eq_false rfl)).trans (uJ_eq))).trans eb) (((uI_o (show ¬ (208 = 209 ∧ 14 = (Int.toNat ((wr ((I5 208 10) + 1)) % 6))) from fun e => absurd e.1 (Nat.ne_of_beq_eq_false rfl))).trans ((uJ_ne (show ¬ 14 = 10 from Nat.ne_of_beq_eq_false rfl)).trans ((uJ_ne (show ¬ 14 = 13 from Nat.ne_of_beq_eq_false rfl)).trans ((uJ_ne (show ¬ 14 = 8 from Nat.ne_of_beq_eq_false rfl)).trans (hW8 208 14 (by first | decide | omega)))))).trans (show (I 208 14) = il from by omega)) (((uI_o (show ¬ (208 = 209 ∧ 11 = (Int.toNat ((wr ((I5 208 10) + 1)) % 6))) from fun e => absurd e.1 (Nat.ne_of_beq_eq_false rfl))).trans ((uJ_ne (show ¬ 11 = 10 from Nat.ne_of_beq_eq_false rfl)).trans ((uJ_ne (show ¬ 11 = 13 from Nat.ne_of_beq_eq_false rfl)).trans ((uJ_ne (show ¬ 11 = 8 from Nat.ne_of_beq_eq_false rfl)).trans (hW8 208 11 (by first | decide | omega)))))).trans (show (I 208 11) = S 0 2 from by omega)) (((uI_o (show ¬ (208 = 209 ∧ 10 = (Int.toNat ((wr ((I5 208 10) + 1)) % 6))) from fun e => absurd e.1 (Nat.ne_of_beq_eq_false rfl))).trans (uJ_eq)).trans (show (wr ((I5 208 10) + 1)) = S 0 3 + 1 from by omega)) (((uI_o (show ¬ (208 = 209 ∧ 9 = (Int.toNat ((wr ((I5 208 10) + 1)) % 6))) from fun e => absurd e.1 (Nat.ne_of_beq_eq_false rfl))).trans ((uJ_ne (show ¬ 9 = 10 from Nat.ne_of_beq_eq_false rfl)).trans ((uJ_ne (show ¬ 9 = 13 from Nat.ne_of_beq_eq_false rfl)).trans (uJ_ne (show ¬ 9 = 8 from Nat.ne_of_beq_eq_false rfl))))).trans (show (I5 208 9) = hoF v0 S from by have k4 := hoF_c (act := v0) (S := S); omega)) (((uI_o (show ¬ (210 = 209 ∧ 2 = (Int.toNat ((wr ((I5 208 10) + 1)) % 6))) from fun e => absurd e.1 (Nat.ne_of_beq_eq_false rfl))).trans ((uI_o (show ¬ (210 = 208 ∧ 2 = 10) from fun e => absurd e.1 (Nat.ne_of_beq_eq_false rfl))).trans ((uI_o (show ¬ (210 = 208 ∧ 2 = 13) from fun e => absurd e.1 (Nat.ne_of_beq_eq_false rfl))).trans ((uI_o (show ¬ (210 = 208 ∧ 2 = 8) from fun e => absurd e.1 (Nat.ne_of_beq_eq_false rfl))).trans (hW8 210 2 (by first | decide | omega)))))).trans (show (I 210 2) = S 0 5 from by omega)) (fun i => ⟨(uI_o (show ¬ (211 = 209 ∧ i = (Int.toNat ((wr ((I5 208 10) + 1)) % 6))) from fun e => absurd e.1 (Nat.ne_of_beq_eq_false rfl))).trans ((uI_o (show ¬ (211 = 208 ∧ i = 10) from fun e => absurd e.1 (Nat.ne_of_beq_eq_false rfl))).trans ((uI_o (show ¬ (211 = 208 ∧ i = 13) from fun e => absurd e.1 (Nat.ne_of_beq_eq_false rfl))).trans ((uI_o (show ¬ (211 = 208 ∧ i = 8) from fun e => absurd e.1 (Nat.ne_of_beq_eq_false rfl))).trans (hW8 211 i (by omega))))), (uI_o (show ¬ (212 = 209 ∧ i = (Int.toNat ((wr ((I5 208 10) + 1)) % 6))) from fun e => absurd e.1 (Nat.ne_of_beq_eq_false rfl))).trans ((uI_o (show ¬ (212 = 208 ∧ i = 10) from fun e => absurd e.1 (Nat.ne_of_beq_eq_false rfl))).trans ((uI_o (show ¬ (212 = 208 ∧ i = 13) from fun e => absurd e.1 (Nat.ne_of_beq_eq_false rfl))).trans ((uI_o (show ¬ (212 = 208 ∧ i = 8) from fun e => absurd e.1 (Nat.ne_of_beq_eq_false rfl))).trans (hW8 212 i (by omega)))))⟩) ((uJ_eqj (show (Int.toNat (S 0 3 + 1) % 6) = (Int.toNat ((wr ((I5 208 10) + 1)) % 6)) from by omega)).trans el) (fun j hj => (uJ_ne (show ¬ j = (Int.toNat ((wr ((I5 208 10) + 1)) % 6)) from by omega)).trans ((uI_o (show ¬ (209 = 208 ∧ j = 10) from fun e => absurd e.1 (Nat.ne_of_beq_eq_false rfl))).trans ((uI_o (show ¬ (209 = 208 ∧ j = 13) from fun e => absurd e.1 (Nat.ne_of_beq_eq_false rfl))).trans ((uI_o (show ¬ (209 = 208 ∧ j = 8) from fun e => absurd e.1 (Nat.ne_of_beq_eq_false rfl))).trans (hW8 209 (j) (by omega)))))) (Or.inr ⟨by omega, rfl, fun i => ⟨rfl, rfl⟩⟩) (fun j => rfl) (fun j => rfl) (Or.inl ⟨by omega, rfl⟩) (fun j hj => rfl) (fun j => rfl) (rfl) (fun i => ⟨rfl, rfl⟩)))⟩
      ·
        refine ⟨⟨_, rfl, (by decide)⟩, ?_⟩
        refine c_ask10 (v0 := vr29) hF (Rg.u (Rg.u (Rg.u (Rg.u hR6 (Pr_f rfl)) (Pr_f rfl)) (Pr_f rfl)) (Pr_p (k := 209) rfl _ _)) hq hp (CR9_f hc (fun j h1 h2 => (uI_o (show ¬ (208 = 209 ∧ j = (Int.toNat ((wr ((I5 208 10) + 1)) % 6))) from fun e => absurd e.1 (Nat.ne_of_beq_eq_false rfl))).trans ((uJ_ne (show ¬ j = 10 from by omega)).trans ((uJ_ne (show ¬ j = 13 from by omega)).trans ((uJ_ne (show ¬ j = 8 from by omega)).trans (hW8 208 j (by omega)))))) (fun j => (uI_o (show ¬ (q = 209 ∧ j = (Int.toNat ((wr ((I5 208 10) + 1)) % 6))) from by omega)).trans ((uI_o (show ¬ (q = 208 ∧ j = 10) from by omega)).trans ((uI_o (show ¬ (q = 208 ∧ j = 13) from by omega)).trans ((uI_o (show ¬ (q = 208 ∧ j = 8) from by omega)).trans (hW8 q j (by omega)))))) (fun j => (uI_o (show ¬ ((q + 1) = 209 ∧ j = (Int.toNat ((wr ((I5 208 10) + 1)) % 6))) from by omega)).trans ((uI_o (show ¬ ((q + 1) = 208 ∧ j = 10) from by omega)).trans ((uI_o (show ¬ ((q + 1) = 208 ∧ j = 13) from by omega)).trans ((uI_o (show ¬ ((q + 1) = 208 ∧ j = 8) from by omega)).trans (hW8 (q + 1) j (by omega))))))) hq2 (fun I40 hR41 hA42 hW43 qr44 => ?_)
        exact ⟨rfl, fun hv hA' => hQ _ hR41 hA' (fun ka ja hk => ((hW43 ka ja (by omega))).trans (((uI_o (show ¬ (ka = 209 ∧ ja = (Int.toNat ((wr ((I5 208 10) + 1)) % 6))) from by omega))).trans (((uI_o (show ¬ (ka = 208 ∧ ja = 10) from by first | (intro e; obtain ⟨rfl, rfl⟩ := e; exact hk (by decide)) | omega))).trans (((uI_o (show ¬ (ka = 208 ∧ ja = 13) from by first | (intro e; obtain ⟨rfl, rfl⟩ := e; exact hk (by decide)) | omega))).trans (((uI_o (show ¬ (ka = 208 ∧ ja = 8) from by first | (intro e; obtain ⟨rfl, rfl⟩ := e; exact hk (by decide)) | omega))).trans ((hW8 ka ja (by omega)))))))) ((by
                              have e8 : w16 = xxF P v0 S := by have k2 := xxF_c (P := P) (act := v0) (S := S); omega
                              have eb : (1 : Int) = bF P v0 S := ((bF_c (P := P) (act := v0) (S := S)).1 (by omega)).symm
                              have el : vr29 = ldF ld P v0 S := by rw [(ldF_c (ld := ld) (P := P) (act := v0) (S := S)).1 (by omega), hl32]
                              exact MC_n (M := (uI (uI (uI (uI I5 208 8 w16) 208 13 1) 208 10 (wr ((I5 208 10) + 1))) 209 (Int.toNat ((wr ((I5 208 10) + 1)) % 6)) vr29)) (K := (uI (uI (uI (uI I5 208 8 w16) 208 13 1) 208 10 (wr ((I5 208 10) + 1))) 209 (Int.toNat ((wr ((I5 208 10) + 1)) % 6)) vr29)) hil hW hM hy hP.1 (((uI_o (show ¬ (208 = 209 ∧ 8 = (Int.toNat ((wr ((I5 208 10) + 1)) % 6))) from fun e => absurd e.1 (Nat.ne_of_beq_eq_false rfl))).trans ((uJ_ne (show ¬ 8 = 10 from Nat.ne_of_beq_eq_false rfl)).trans ((uJ_ne (show ¬ 8 = 13 from Nat.ne_of_beq_eq_false rfl)).trans (uJ_eq)))).trans e8) (((uI_o (show ¬ (208 = 209 ∧ 13 = (Int.toNat ((wr ((I5 208 10) + 1)) % 6))) from fun e => absurd e.1 (Nat.ne_of_beq_eq_false rfl))).trans ((uJ_ne (show ¬ 13 = 10 from Nat.ne_of_beq_eq_false rfl)).trans (uJ_eq))).trans eb) (((uI_o (show ¬ (208 = 209 ∧ 14 = (Int.toNat ((wr ((I5 208 10) + 1)) % 6))) from fun e => absurd e.1 (Nat.ne_of_beq_eq_false rfl))).trans ((uJ_ne (show ¬ 14 = 10 from Nat.ne_of_beq_eq_false rfl)).trans ((uJ_ne (show ¬ 14 = 13 from Nat.ne_of_beq_eq_false rfl)).trans ((uJ_ne (show ¬ 14 = 8 from Nat.ne_of_beq_eq_false rfl)).trans (hW8 208 14 (by first | decide | omega)))))).trans (show (I 208 14) = il from by omega)) (((uI_o (show ¬ (208 = 209 ∧ 11 = (Int.toNat ((wr ((I5 208 10) + 1)) % 6))) from fun e => absurd e.1 (Nat.ne_of_beq_eq_false rfl))).trans ((uJ_ne (show ¬ 11 = 10 from Nat.ne_of_beq_eq_false rfl)).trans ((uJ_ne (show ¬ 11 = 13 from Nat.ne_of_beq_eq_false rfl)).trans ((uJ_ne (show ¬ 11 = 8 from Nat.ne_of_beq_eq_false rfl)).trans (hW8 208 11 (by first | decide | omega)))))).trans (show (I 208 11) = S 0 2 from by omega)) (((uI_o (show ¬ (208 = 209 ∧ 10 = (Int.toNat ((wr ((I5 208 10) + 1)) % 6))) from fun e => absurd e.1 (Nat.ne_of_beq_eq_false rfl))).trans (uJ_eq)).trans (show (wr ((I5 208 10) + 1)) = S 0 3 + 1 from by omega)) (((uI_o (show ¬ (208 = 209 ∧ 9 = (Int.toNat ((wr ((I5 208 10) + 1)) % 6))) from fun e => absurd e.1 (Nat.ne_of_beq_eq_false rfl))).trans ((uJ_ne (show ¬ 9 = 10 from Nat.ne_of_beq_eq_false rfl)).trans ((uJ_ne (show ¬ 9 = 13 from Nat.ne_of_beq_eq_false rfl)).trans (uJ_ne (show ¬ 9 = 8 from Nat.ne_of_beq_eq_false rfl))))).trans (show (I5 208 9) = hoF v0 S from by have k4 := hoF_c (act := v0) (S := S); omega)) (((uI_o (show ¬ (210 = 209 ∧ 2 = (Int.toNat ((wr ((I5 208 10) + 1)) % 6))) from fun e => absurd e.1 (Nat.ne_of_beq_eq_false rfl))).trans ((uI_o (show ¬ (210 = 208 ∧ 2 = 10) from fun e => absurd e.1 (Nat.ne_of_beq_eq_false rfl))).trans ((uI_o (show ¬ (210 = 208 ∧ 2 = 13) from fun e => absurd e.1 (Nat.ne_of_beq_eq_false rfl))).trans ((uI_o (show ¬ (210 = 208 ∧ 2 = 8) from fun e => absurd e.1 (Nat.ne_of_beq_eq_false rfl))).trans (hW8 210 2 (by first | decide | omega)))))).trans (show (I 210 2) = S 0 5 from by omega)) (fun i => ⟨(uI_o (show ¬ (211 = 209 ∧ i = (Int.toNat ((wr ((I5 208 10) + 1)) % 6))) from fun e => absurd e.1 (Nat.ne_of_beq_eq_false rfl))).trans ((uI_o (show ¬ (211 = 208 ∧ i = 10) from fun e => absurd e.1 (Nat.ne_of_beq_eq_false rfl))).trans ((uI_o (show ¬ (211 = 208 ∧ i = 13) from fun e => absurd e.1 (Nat.ne_of_beq_eq_false rfl))).trans ((uI_o (show ¬ (211 = 208 ∧ i = 8) from fun e => absurd e.1 (Nat.ne_of_beq_eq_false rfl))).trans (hW8 211 i (by omega))))), (uI_o (show ¬ (212 = 209 ∧ i = (Int.toNat ((wr ((I5 208 10) + 1)) % 6))) from fun e => absurd e.1 (Nat.ne_of_beq_eq_false rfl))).trans ((uI_o (show ¬ (212 = 208 ∧ i = 10) from fun e => absurd e.1 (Nat.ne_of_beq_eq_false rfl))).trans ((uI_o (show ¬ (212 = 208 ∧ i = 13) from fun e => absurd e.1 (Nat.ne_of_beq_eq_false rfl))).trans ((uI_o (show ¬ (212 = 208 ∧ i = 8) from fun e => absurd e.1 (Nat.ne_of_beq_eq_false rfl))).trans (hW8 212 i (by omega)))))⟩) ((uJ_eqj (show (Int.toNat (S 0 3 + 1) % 6) = (Int.toNat ((wr ((I5 208 10) + 1)) % 6)) from by omega)).trans el) (fun j hj => (uJ_ne (show ¬ j = (Int.toNat ((wr ((I5 208 10) + 1)) % 6)) from by omega)).trans ((uI_o (show ¬ (209 = 208 ∧ j = 10) from fun e => absurd e.1 (Nat.ne_of_beq_eq_false rfl))).trans ((uI_o (show ¬ (209 = 208 ∧ j = 13) from fun e => absurd e.1 (Nat.ne_of_beq_eq_false rfl))).trans ((uI_o (show ¬ (209 = 208 ∧ j = 8) from fun e => absurd e.1 (Nat.ne_of_beq_eq_false rfl))).trans (hW8 209 (j) (by omega)))))) (Or.inr ⟨by omega, rfl, fun i => ⟨rfl, rfl⟩⟩) (fun j => rfl) (fun j => rfl) (Or.inr ⟨by omega, by rw [← el]; exact qr44⟩) (fun j hj => hW43 208 j (by omega)) (fun j => hW43 209 j (by omega)) (hW43 210 2 (by first | decide | omega)) (fun i => ⟨hW43 211 i (by omega), hW43 212 i (by omega)⟩)))⟩
    ·
      refine ⟨⟨_, rfl, (by decide)⟩, ?_⟩
      have r45 : 0 ≤ (I 210 2) ∧ (I 210 2) ≤ 24 := (by omega)
      have u46 : (I5 210 2) = (I 210 2) := hW8 _ _ (by first | decide | omega)
      have a48 : -2147483648 ≤ (I5 210 2) ∧ (I5 210 2) < 2147483648 := hA7.1 _ _
      refine c_take10  hF (Rg.u (Rg.u (Rg.u (Rg.u hR6 (Pr_f rfl)) (Pr_f rfl)) (Pr_f rfl)) (Pr_p (k := 209) rfl _ _)) hq hp (CR9_f hc (fun j h1 h2 => (uI_o (show ¬ (208 = 209 ∧ j = (Int.toNat ((wr ((I5 208 10) + 1)) % 6))) from fun e => absurd e.1 (Nat.ne_of_beq_eq_false rfl))).trans ((uJ_ne (show ¬ j = 10 from by omega)).trans ((uJ_ne (show ¬ j = 13 from by omega)).trans ((uJ_ne (show ¬ j = 8 from by omega)).trans (hW8 208 j (by omega)))))) (fun j => (uI_o (show ¬ (q = 209 ∧ j = (Int.toNat ((wr ((I5 208 10) + 1)) % 6))) from by omega)).trans ((uI_o (show ¬ (q = 208 ∧ j = 10) from by omega)).trans ((uI_o (show ¬ (q = 208 ∧ j = 13) from by omega)).trans ((uI_o (show ¬ (q = 208 ∧ j = 8) from by omega)).trans (hW8 q j (by omega)))))) (fun j => (uI_o (show ¬ ((q + 1) = 209 ∧ j = (Int.toNat ((wr ((I5 208 10) + 1)) % 6))) from by omega)).trans ((uI_o (show ¬ ((q + 1) = 208 ∧ j = 10) from by omega)).trans ((uI_o (show ¬ ((q + 1) = 208 ∧ j = 13) from by omega)).trans ((uI_o (show ¬ ((q + 1) = 208 ∧ j = 8) from by omega)).trans (hW8 (q + 1) j (by omega))))))) hq2 (show 0 ≤ (wr ((I5 208 10) + 1)) ∧ (wr ((I5 208 10) + 1)) ≤ 20000000 from by first | omega | (simp only [wr, wl] at *; omega)) (show 0 ≤ (I5 210 2) ∧ (I5 210 2) ≤ 24 from by first | omega | (simp only [wr, wl] at *; omega)) (fun I49 hR50 hA51 hW52 qr53 => ?_)
      refine ⟨_, rfl, (by decide), ?_⟩
      have r54 : 0 ≤ (I 208 14) ∧ (I 208 14) ≤ 1 := (by omega)
      have u55 : (I5 208 14) = (I 208 14) := hW8 _ _ (by first | decide | omega)
      have a57 : -2147483648 ≤ (I5 208 14) ∧ (I5 208 14) < 2147483648 := hA7.1 _ _
      have u58 : (I49 208 14) = ((uI (uI (uI (uI I5 208 8 w16) 208 13 1) 208 10 (wr ((I5 208 10) + 1))) 209 (Int.toNat ((wr ((I5 208 10) + 1)) % 6)) vr29) 208 14) := hW52 _ _ (by first | decide | omega)
      have u59 : ((uI (uI (uI (uI I5 208 8 w16) 208 13 1) 208 10 (wr ((I5 208 10) + 1))) 209 (Int.toNat ((wr ((I5 208 10) + 1)) % 6)) vr29) 208 14) = (I5 208 14) := rfl
      have a60 : -2147483648 ≤ (I49 208 14) ∧ (I49 208 14) < 2147483648 := hA51.1 _ _
      refine ⟨fun (c61 : (¬ ((I49 208 14) : Int) = 0)) => ?_, fun (c61 : (((I49 208 14) : Int) = 0)) => ?_⟩
      ·
        exact ⟨rfl, fun hv hA' => hQ _ hR50 hA' (fun ka ja hk => ((hW52 ka ja (by omega))).trans (((uI_o (show ¬ (ka = 209 ∧ ja = (Int.toNat ((wr ((I5 208 10) + 1)) % 6))) from by omega))).trans (((uI_o (show ¬ (ka = 208 ∧ ja = 10) from by first | (intro e; obtain ⟨rfl, rfl⟩ := e; exact hk (by decide)) | omega))).trans (((uI_o (show ¬ (ka = 208 ∧ ja = 13) from by first | (intro e; obtain ⟨rfl, rfl⟩ := e; exact hk (by decide)) | omega))).trans (((uI_o (show ¬ (ka = 208 ∧ ja = 8) from by first | (intro e; obtain ⟨rfl, rfl⟩ := e; exact hk (by decide)) | omega))).trans ((hW8 ka ja (by omega)))))))) ((by
                              have e8 : w16 = xxF P v0 S := by have k2 := xxF_c (P := P) (act := v0) (S := S); omega
                              have eb : (1 : Int) = bF P v0 S := ((bF_c (P := P) (act := v0) (S := S)).1 (by omega)).symm
                              have el : vr29 = ldF ld P v0 S := by rw [(ldF_c (ld := ld) (P := P) (act := v0) (S := S)).1 (by omega), hl32]
                              exact MC_n (M := (uI (uI (uI (uI I5 208 8 w16) 208 13 1) 208 10 (wr ((I5 208 10) + 1))) 209 (Int.toNat ((wr ((I5 208 10) + 1)) % 6)) vr29)) (K := I49) hil hW hM hy hP.1 (((uI_o (show ¬ (208 = 209 ∧ 8 = (Int.toNat ((wr ((I5 208 10) + 1)) % 6))) from fun e => absurd e.1 (Nat.ne_of_beq_eq_false rfl))).trans ((uJ_ne (show ¬ 8 = 10 from Nat.ne_of_beq_eq_false rfl)).trans ((uJ_ne (show ¬ 8 = 13 from Nat.ne_of_beq_eq_false rfl)).trans (uJ_eq)))).trans e8) (((uI_o (show ¬ (208 = 209 ∧ 13 = (Int.toNat ((wr ((I5 208 10) + 1)) % 6))) from fun e => absurd e.1 (Nat.ne_of_beq_eq_false rfl))).trans ((uJ_ne (show ¬ 13 = 10 from Nat.ne_of_beq_eq_false rfl)).trans (uJ_eq))).trans eb) (((uI_o (show ¬ (208 = 209 ∧ 14 = (Int.toNat ((wr ((I5 208 10) + 1)) % 6))) from fun e => absurd e.1 (Nat.ne_of_beq_eq_false rfl))).trans ((uJ_ne (show ¬ 14 = 10 from Nat.ne_of_beq_eq_false rfl)).trans ((uJ_ne (show ¬ 14 = 13 from Nat.ne_of_beq_eq_false rfl)).trans ((uJ_ne (show ¬ 14 = 8 from Nat.ne_of_beq_eq_false rfl)).trans (hW8 208 14 (by first | decide | omega)))))).trans (show (I 208 14) = il from by omega)) (((uI_o (show ¬ (208 = 209 ∧ 11 = (Int.toNat ((wr ((I5 208 10) + 1)) % 6))) from fun e => absurd e.1 (Nat.ne_of_beq_eq_false rfl))).trans ((uJ_ne (show ¬ 11 = 10 from Nat.ne_of_beq_eq_false rfl)).trans ((uJ_ne (show ¬ 11 = 13 from Nat.ne_of_beq_eq_false rfl)).trans ((uJ_ne (show ¬ 11 = 8 from Nat.ne_of_beq_eq_false rfl)).trans (hW8 208 11 (by first | decide | omega)))))).trans (show (I 208 11) = S 0 2 from by omega)) (((uI_o (show ¬ (208 = 209 ∧ 10 = (Int.toNat ((wr ((I5 208 10) + 1)) % 6))) from fun e => absurd e.1 (Nat.ne_of_beq_eq_false rfl))).trans (uJ_eq)).trans (show (wr ((I5 208 10) + 1)) = S 0 3 + 1 from by omega)) (((uI_o (show ¬ (208 = 209 ∧ 9 = (Int.toNat ((wr ((I5 208 10) + 1)) % 6))) from fun e => absurd e.1 (Nat.ne_of_beq_eq_false rfl))).trans ((uJ_ne (show ¬ 9 = 10 from Nat.ne_of_beq_eq_false rfl)).trans ((uJ_ne (show ¬ 9 = 13 from Nat.ne_of_beq_eq_false rfl)).trans (uJ_ne (show ¬ 9 = 8 from Nat.ne_of_beq_eq_false rfl))))).trans (show (I5 208 9) = hoF v0 S from by have k4 := hoF_c (act := v0) (S := S); omega)) (((uI_o (show ¬ (210 = 209 ∧ 2 = (Int.toNat ((wr ((I5 208 10) + 1)) % 6))) from fun e => absurd e.1 (Nat.ne_of_beq_eq_false rfl))).trans ((uI_o (show ¬ (210 = 208 ∧ 2 = 10) from fun e => absurd e.1 (Nat.ne_of_beq_eq_false rfl))).trans ((uI_o (show ¬ (210 = 208 ∧ 2 = 13) from fun e => absurd e.1 (Nat.ne_of_beq_eq_false rfl))).trans ((uI_o (show ¬ (210 = 208 ∧ 2 = 8) from fun e => absurd e.1 (Nat.ne_of_beq_eq_false rfl))).trans (hW8 210 2 (by first | decide | omega)))))).trans (show (I 210 2) = S 0 5 from by omega)) (fun i => ⟨(uI_o (show ¬ (211 = 209 ∧ i = (Int.toNat ((wr ((I5 208 10) + 1)) % 6))) from fun e => absurd e.1 (Nat.ne_of_beq_eq_false rfl))).trans ((uI_o (show ¬ (211 = 208 ∧ i = 10) from fun e => absurd e.1 (Nat.ne_of_beq_eq_false rfl))).trans ((uI_o (show ¬ (211 = 208 ∧ i = 13) from fun e => absurd e.1 (Nat.ne_of_beq_eq_false rfl))).trans ((uI_o (show ¬ (211 = 208 ∧ i = 8) from fun e => absurd e.1 (Nat.ne_of_beq_eq_false rfl))).trans (hW8 211 i (by omega))))), (uI_o (show ¬ (212 = 209 ∧ i = (Int.toNat ((wr ((I5 208 10) + 1)) % 6))) from fun e => absurd e.1 (Nat.ne_of_beq_eq_false rfl))).trans ((uI_o (show ¬ (212 = 208 ∧ i = 10) from fun e => absurd e.1 (Nat.ne_of_beq_eq_false rfl))).trans ((uI_o (show ¬ (212 = 208 ∧ i = 13) from fun e => absurd e.1 (Nat.ne_of_beq_eq_false rfl))).trans ((uI_o (show ¬ (212 = 208 ∧ i = 8) from fun e => absurd e.1 (Nat.ne_of_beq_eq_false rfl))).trans (hW8 212 i (by omega)))))⟩) ((uJ_eqj (show (Int.toNat (S 0 3 + 1) % 6) = (Int.toNat ((wr ((I5 208 10) + 1)) % 6)) from by omega)).trans el) (fun j hj => (uJ_ne (show ¬ j = (Int.toNat ((wr ((I5 208 10) + 1)) % 6)) from by omega)).trans ((uI_o (show ¬ (209 = 208 ∧ j = 10) from fun e => absurd e.1 (Nat.ne_of_beq_eq_false rfl))).trans ((uI_o (show ¬ (209 = 208 ∧ j = 13) from fun e => absurd e.1 (Nat.ne_of_beq_eq_false rfl))).trans ((uI_o (show ¬ (209 = 208 ∧ j = 8) from fun e => absurd e.1 (Nat.ne_of_beq_eq_false rfl))).trans (hW8 209 (j) (by omega)))))) (Or.inl ⟨by omega, qr53⟩) (fun j => hW52 208 j (by omega)) (fun j => hW52 209 j (by omega)) (Or.inl ⟨by omega, rfl⟩) (fun j hj => rfl) (fun j => rfl) (rfl) (fun i => ⟨rfl, rfl⟩)))⟩
      ·
        refine ⟨⟨_, rfl, (by decide)⟩, ?_⟩
        refine c_ask10 (v0 := vr29) hF hR50 hq hp (CR9_f hc (fun j h1 h2 => (hW52 208 j (by omega)).trans ((uI_o (show ¬ (208 = 209 ∧ j = (Int.toNat ((wr ((I5 208 10) + 1)) % 6))) from fun e => absurd e.1 (Nat.ne_of_beq_eq_false rfl))).trans ((uJ_ne (show ¬ j = 10 from by omega)).trans ((uJ_ne (show ¬ j = 13 from by omega)).trans ((uJ_ne (show ¬ j = 8 from by omega)).trans (hW8 208 j (by omega))))))) (fun j => (hW52 q j (by omega)).trans ((uI_o (show ¬ (q = 209 ∧ j = (Int.toNat ((wr ((I5 208 10) + 1)) % 6))) from by omega)).trans ((uI_o (show ¬ (q = 208 ∧ j = 10) from by omega)).trans ((uI_o (show ¬ (q = 208 ∧ j = 13) from by omega)).trans ((uI_o (show ¬ (q = 208 ∧ j = 8) from by omega)).trans (hW8 q j (by omega))))))) (fun j => (hW52 (q + 1) j (by omega)).trans ((uI_o (show ¬ ((q + 1) = 209 ∧ j = (Int.toNat ((wr ((I5 208 10) + 1)) % 6))) from by omega)).trans ((uI_o (show ¬ ((q + 1) = 208 ∧ j = 10) from by omega)).trans ((uI_o (show ¬ ((q + 1) = 208 ∧ j = 13) from by omega)).trans ((uI_o (show ¬ ((q + 1) = 208 ∧ j = 8) from by omega)).trans (hW8 (q + 1) j (by omega)))))))) hq2 (fun I62 hR63 hA64 hW65 qr66 => ?_)
        exact ⟨rfl, fun hv hA' => hQ _ hR63 hA' (fun ka ja hk => ((hW65 ka ja (by omega))).trans (((hW52 ka ja (by omega))).trans (((uI_o (show ¬ (ka = 209 ∧ ja = (Int.toNat ((wr ((I5 208 10) + 1)) % 6))) from by omega))).trans (((uI_o (show ¬ (ka = 208 ∧ ja = 10) from by first | (intro e; obtain ⟨rfl, rfl⟩ := e; exact hk (by decide)) | omega))).trans (((uI_o (show ¬ (ka = 208 ∧ ja = 13) from by first | (intro e; obtain ⟨rfl, rfl⟩ := e; exact hk (by decide)) | omega))).trans (((uI_o (show ¬ (ka = 208 ∧ ja = 8) from by first | (intro e; obtain ⟨rfl, rfl⟩ := e; exact hk (by decide)) | omega))).trans ((hW8 ka ja (by omega))))))))) ((by
                              have e8 : w16 = xxF P v0 S := by have k2 := xxF_c (P := P) (act := v0) (S := S); omega
                              have eb : (1 : Int) = bF P v0 S := ((bF_c (P := P) (act := v0) (S := S)).1 (by omega)).symm
                              have el : vr29 = ldF ld P v0 S := by rw [(ldF_c (ld := ld) (P := P) (act := v0) (S := S)).1 (by omega), hl32]
                              exact MC_n (M := (uI (uI (uI (uI I5 208 8 w16) 208 13 1) 208 10 (wr ((I5 208 10) + 1))) 209 (Int.toNat ((wr ((I5 208 10) + 1)) % 6)) vr29)) (K := I49) hil hW hM hy hP.1 (((uI_o (show ¬ (208 = 209 ∧ 8 = (Int.toNat ((wr ((I5 208 10) + 1)) % 6))) from fun e => absurd e.1 (Nat.ne_of_beq_eq_false rfl))).trans ((uJ_ne (show ¬ 8 = 10 from Nat.ne_of_beq_eq_false rfl)).trans ((uJ_ne (show ¬ 8 = 13 from Nat.ne_of_beq_eq_false rfl)).trans (uJ_eq)))).trans e8) (((uI_o (show ¬ (208 = 209 ∧ 13 = (Int.toNat ((wr ((I5 208 10) + 1)) % 6))) from fun e => absurd e.1 (Nat.ne_of_beq_eq_false rfl))).trans ((uJ_ne (show ¬ 13 = 10 from Nat.ne_of_beq_eq_false rfl)).trans (uJ_eq))).trans eb) (((uI_o (show ¬ (208 = 209 ∧ 14 = (Int.toNat ((wr ((I5 208 10) + 1)) % 6))) from fun e => absurd e.1 (Nat.ne_of_beq_eq_false rfl))).trans ((uJ_ne (show ¬ 14 = 10 from Nat.ne_of_beq_eq_false rfl)).trans ((uJ_ne (show ¬ 14 = 13 from Nat.ne_of_beq_eq_false rfl)).trans ((uJ_ne (show ¬ 14 = 8 from Nat.ne_of_beq_eq_false rfl)).trans (hW8 208 14 (by first | decide | omega)))))).trans (show (I 208 14) = il from by omega)) (((uI_o (show ¬ (208 = 209 ∧ 11 = (Int.toNat ((wr ((I5 208 10) + 1)) % 6))) from fun e => absurd e.1 (Nat.ne_of_beq_eq_false rfl))).trans ((uJ_ne (show ¬ 11 = 10 from Nat.ne_of_beq_eq_false rfl)).trans ((uJ_ne (show ¬ 11 = 13 from Nat.ne_of_beq_eq_false rfl)).trans ((uJ_ne (show ¬ 11 = 8 from Nat.ne_of_beq_eq_false rfl)).trans (hW8 208 11 (by first | decide | omega)))))).trans (show (I 208 11) = S 0 2 from by omega)) (((uI_o (show ¬ (208 = 209 ∧ 10 = (Int.toNat ((wr ((I5 208 10) + 1)) % 6))) from fun e => absurd e.1 (Nat.ne_of_beq_eq_false rfl))).trans (uJ_eq)).trans (show (wr ((I5 208 10) + 1)) = S 0 3 + 1 from by omega)) (((uI_o (show ¬ (208 = 209 ∧ 9 = (Int.toNat ((wr ((I5 208 10) + 1)) % 6))) from fun e => absurd e.1 (Nat.ne_of_beq_eq_false rfl))).trans ((uJ_ne (show ¬ 9 = 10 from Nat.ne_of_beq_eq_false rfl)).trans ((uJ_ne (show ¬ 9 = 13 from Nat.ne_of_beq_eq_false rfl)).trans (uJ_ne (show ¬ 9 = 8 from Nat.ne_of_beq_eq_false rfl))))).trans (show (I5 208 9) = hoF v0 S from by have k4 := hoF_c (act := v0) (S := S); omega)) (((uI_o (show ¬ (210 = 209 ∧ 2 = (Int.toNat ((wr ((I5 208 10) + 1)) % 6))) from fun e => absurd e.1 (Nat.ne_of_beq_eq_false rfl))).trans ((uI_o (show ¬ (210 = 208 ∧ 2 = 10) from fun e => absurd e.1 (Nat.ne_of_beq_eq_false rfl))).trans ((uI_o (show ¬ (210 = 208 ∧ 2 = 13) from fun e => absurd e.1 (Nat.ne_of_beq_eq_false rfl))).trans ((uI_o (show ¬ (210 = 208 ∧ 2 = 8) from fun e => absurd e.1 (Nat.ne_of_beq_eq_false rfl))).trans (hW8 210 2 (by first | decide | omega)))))).trans (show (I 210 2) = S 0 5 from by omega)) (fun i => ⟨(uI_o (show ¬ (211 = 209 ∧ i = (Int.toNat ((wr ((I5 208 10) + 1)) % 6))) from fun e => absurd e.1 (Nat.ne_of_beq_eq_false rfl))).trans ((uI_o (show ¬ (211 = 208 ∧ i = 10) from fun e => absurd e.1 (Nat.ne_of_beq_eq_false rfl))).trans ((uI_o (show ¬ (211 = 208 ∧ i = 13) from fun e => absurd e.1 (Nat.ne_of_beq_eq_false rfl))).trans ((uI_o (show ¬ (211 = 208 ∧ i = 8) from fun e => absurd e.1 (Nat.ne_of_beq_eq_false rfl))).trans (hW8 211 i (by omega))))), (uI_o (show ¬ (212 = 209 ∧ i = (Int.toNat ((wr ((I5 208 10) + 1)) % 6))) from fun e => absurd e.1 (Nat.ne_of_beq_eq_false rfl))).trans ((uI_o (show ¬ (212 = 208 ∧ i = 10) from fun e => absurd e.1 (Nat.ne_of_beq_eq_false rfl))).trans ((uI_o (show ¬ (212 = 208 ∧ i = 13) from fun e => absurd e.1 (Nat.ne_of_beq_eq_false rfl))).trans ((uI_o (show ¬ (212 = 208 ∧ i = 8) from fun e => absurd e.1 (Nat.ne_of_beq_eq_false rfl))).trans (hW8 212 i (by omega)))))⟩) ((uJ_eqj (show (Int.toNat (S 0 3 + 1) % 6) = (Int.toNat ((wr ((I5 208 10) + 1)) % 6)) from by omega)).trans el) (fun j hj => (uJ_ne (show ¬ j = (Int.toNat ((wr ((I5 208 10) + 1)) % 6)) from by omega)).trans ((uI_o (show ¬ (209 = 208 ∧ j = 10) from fun e => absurd e.1 (Nat.ne_of_beq_eq_false rfl))).trans ((uI_o (show ¬ (209 = 208 ∧ j = 13) from fun e => absurd e.1 (Nat.ne_of_beq_eq_false rfl))).trans ((uI_o (show ¬ (209 = 208 ∧ j = 8) from fun e => absurd e.1 (Nat.ne_of_beq_eq_false rfl))).trans (hW8 209 (j) (by omega)))))) (Or.inl ⟨by omega, qr53⟩) (fun j => hW52 208 j (by omega)) (fun j => hW52 209 j (by omega)) (Or.inr ⟨by omega, by rw [← el]; exact qr66⟩) (fun j hj => hW65 208 j (by omega)) (fun j => hW65 209 j (by omega)) (hW65 210 2 (by first | decide | omega)) (fun i => ⟨hW65 211 i (by omega), hW65 212 i (by omega)⟩)))⟩
  ·
    refine ⟨_, rfl, (by decide), ?_⟩
    refine ⟨_, rfl, (by decide), ?_⟩
    refine fun w0 hw0 => ?_; obtain rfl : w0 = some q := hw0.symm.trans hq
    refine ⟨⟨_, hp.1.1, (by have := hp.2; show _ < 254; omega)⟩, ?_⟩
    refine Call_wp (lv := [some (vr q)]) (by decide) ckX4_lastStretch [] rfl rfl ?_
    refine ⟨_, hp.1.1, (by have := hp.2; show _ < 254; omega), ?_⟩
    have r67 : 2 ≤ (I q 4) ∧ (I q 4) ≤ 12 := hc.2.2.1.2.2
    have u68 : (I5 q 4) = (I q 4) := hW8 _ _ (by first | decide | omega)
    have a70 : -2147483648 ≤ (I5 q 4) ∧ (I5 q 4) < 2147483648 := hA7.1 _ _
    have u71 : ((uI I5 208 8 w16) q 4) = (I5 q 4) := uI_o (fun e => absurd e.1 (lay_ne hp.1.1 (show lay 208 = (1, 15) from rfl) (by decide)))
    refine ⟨rfl, ?_⟩
    have n72 : (wr (((uI I5 208 8 w16) q 4) - 1)) = ((uI I5 208 8 w16) q 4) - 1 := wr_id (show -2147483648 ≤ (((uI I5 208 8 w16) q 4) - 1 : Int) ∧ (((uI I5 208 8 w16) q 4) - 1 : Int) < 2147483648 from by omega)
    have n73 : (wr (10 * (wr (((uI I5 208 8 w16) q 4) - 1)))) = 10 * (wr (((uI I5 208 8 w16) q 4) - 1)) := wr_id (show -2147483648 ≤ (10 * (wr (((uI I5 208 8 w16) q 4) - 1)) : Int) ∧ (10 * (wr (((uI I5 208 8 w16) q 4) - 1)) : Int) < 2147483648 from by omega)
    refine ⟨fun (c74 : ((w16 : Int) ≤ (wr (10 * (wr (((uI I5 208 8 w16) q 4) - 1)))))) => ?_, fun (c74 : (¬ ((w16 : Int) ≤ (wr (10 * (wr (((uI I5 208 8 w16) q 4) - 1))))))) => ?_⟩
    ·
      refine ⟨_, rfl, (by decide), (by decide), ?_⟩
      refine ⟨_, rfl, (by decide), ?_⟩
      have r75 : 0 ≤ (I 208 10) ∧ (I 208 10) ≤ 19400000 := (by omega)
      have u76 : (I5 208 10) = (I 208 10) := hW8 _ _ (by first | decide | omega)
      have a78 : -2147483648 ≤ (I5 208 10) ∧ (I5 208 10) < 2147483648 := hA7.1 _ _
      refine ⟨_, rfl, (by decide), ?_⟩
      refine ⟨⟨_, rfl, (by decide)⟩, ?_⟩
      refine c_mload10  hF (Rg.u (Rg.u (Rg.u hR6 (Pr_f rfl)) (Pr_f rfl)) (Pr_f rfl)) hq hp (CR9_f hc (fun j h1 h2 => (uJ_ne (show ¬ j = 10 from by omega)).trans ((uJ_ne (show ¬ j = 13 from by omega)).trans ((uJ_ne (show ¬ j = 8 from by omega)).trans (hW8 208 j (by omega))))) (fun j => (uI_o (show ¬ (q = 208 ∧ j = 10) from by omega)).trans ((uI_o (show ¬ (q = 208 ∧ j = 13) from by omega)).trans ((uI_o (show ¬ (q = 208 ∧ j = 8) from by omega)).trans (hW8 q j (by omega))))) (fun j => (uI_o (show ¬ ((q + 1) = 208 ∧ j = 10) from by omega)).trans ((uI_o (show ¬ ((q + 1) = 208 ∧ j = 13) from by omega)).trans ((uI_o (show ¬ ((q + 1) = 208 ∧ j = 8) from by omega)).trans (hW8 (q + 1) j (by omega)))))) hq2 (fun vr79 hr80 qr81 => ?_)
      have hr80 : -2147483648 ≤ vr79 ∧ vr79 < 2147483648 := hr80
      have hl82 : vr79 = ld w16 := qr81.1 rfl
      refine ⟨_, rfl, (by decide), ?_⟩
      refine fun w0 hw0 => ?_; obtain rfl : w0 = some 209 := hw0.symm.trans (FS.g hF rfl)
      refine ⟨_, rfl, (by decide), ?_⟩
      refine ⟨_, rfl, (by decide), ?_⟩
      refine fun w0 hw0 => ?_; obtain rfl : w0 = some 209 := hw0.symm.trans (FS.g hF rfl)
      refine ⟨_, _, (by decide), rfl, (by decide), ?_⟩
      have n83 : (wr ((I5 208 10) + 1)) = (I5 208 10) + 1 := wr_id (show -2147483648 ≤ ((I5 208 10) + 1 : Int) ∧ ((I5 208 10) + 1 : Int) < 2147483648 from by omega)
      refine c_mod6e (x := (wr ((I5 208 10) + 1))) (by omega) ?_
      refine ⟨_, rfl, (by decide), (show (0 : Int) ≤ ((wr ((I5 208 10) + 1)) % 6) from by first | with_reducible assumption | omega | (simp only [wr, wl] at *; omega)), (show ((wr ((I5 208 10) + 1)) % 6) < (6 : Int) from by first | with_reducible assumption | omega | (simp only [wr, wl] at *; omega)), ?_⟩
      refine ⟨fun (c84 : (¬ (v0 : Int) = 4)) => ?_, fun (c84 : ((v0 : Int) = 4)) => ?_⟩
      ·
        refine ⟨_, rfl, (by decide), ?_⟩
        have r85 : 0 ≤ (I 208 14) ∧ (I 208 14) ≤ 1 := (by omega)
        have u86 : (I5 208 14) = (I 208 14) := hW8 _ _ (by first | decide | omega)
        have a88 : -2147483648 ≤ (I5 208 14) ∧ (I5 208 14) < 2147483648 := hA7.1 _ _
        refine ⟨fun (c89 : (¬ ((I5 208 14) : Int) = 0)) => ?_, fun (c89 : (((I5 208 14) : Int) = 0)) => ?_⟩
        ·
          exact ⟨rfl, fun hv hA' => hQ _ (Rg.u (Rg.u (Rg.u (Rg.u hR6 (Pr_f rfl)) (Pr_f rfl)) (Pr_f rfl)) (Pr_p (k := 209) rfl _ _)) hA' (fun ka ja hk => ((uI_o (show ¬ (ka = 209 ∧ ja = (Int.toNat ((wr ((I5 208 10) + 1)) % 6))) from by omega))).trans (((uI_o (show ¬ (ka = 208 ∧ ja = 10) from by first | (intro e; obtain ⟨rfl, rfl⟩ := e; exact hk (by decide)) | omega))).trans (((uI_o (show ¬ (ka = 208 ∧ ja = 13) from by first | (intro e; obtain ⟨rfl, rfl⟩ := e; exact hk (by decide)) | omega))).trans (((uI_o (show ¬ (ka = 208 ∧ ja = 8) from by first | (intro e; obtain ⟨rfl, rfl⟩ := e; exact hk (by decide)) | omega))).trans ((hW8 ka ja (by omega))))))) ((by
                              have e8 : w16 = xxF P v0 S := by have k2 := xxF_c (P := P) (act := v0) (S := S); omega
                              have eb : (0 : Int) = bF P v0 S := ((bF_c (P := P) (act := v0) (S := S)).2 (by omega)).symm
                              have el : vr79 = ldF ld P v0 S := by rw [(ldF_c (ld := ld) (P := P) (act := v0) (S := S)).2 (by omega), hl82, e8]
                              exact MC_n (M := (uI (uI (uI (uI I5 208 8 w16) 208 13 0) 208 10 (wr ((I5 208 10) + 1))) 209 (Int.toNat ((wr ((I5 208 10) + 1)) % 6)) vr79)) (K := (uI (uI (uI (uI I5 208 8 w16) 208 13 0) 208 10 (wr ((I5 208 10) + 1))) 209 (Int.toNat ((wr ((I5 208 10) + 1)) % 6)) vr79)) hil hW hM hy hP.1 (((uI_o (show ¬ (208 = 209 ∧ 8 = (Int.toNat ((wr ((I5 208 10) + 1)) % 6))) from fun e => absurd e.1 (Nat.ne_of_beq_eq_false rfl))).trans ((uJ_ne (show ¬ 8 = 10 from Nat.ne_of_beq_eq_false rfl)).trans ((uJ_ne (show ¬ 8 = 13 from Nat.ne_of_beq_eq_false rfl)).trans (uJ_eq)))).trans e8) (((uI_o (show ¬ (208 = 209 ∧ 13 = (Int.toNat ((wr ((I5 208 10) + 1)) % 6))) from fun e => absurd e.1 (Nat.ne_of_beq_eq_false rfl))).trans ((uJ_ne (show ¬ 13 = 10 from Nat.ne_of_beq_eq_false rfl)).trans (uJ_eq))).trans eb) (((uI_o (show ¬ (208 = 209 ∧ 14 = (Int.toNat ((wr ((I5 208 10) + 1)) % 6))) from fun e => absurd e.1 (Nat.ne_of_beq_eq_false rfl))).trans ((uJ_ne (show ¬ 14 = 10 from Nat.ne_of_beq_eq_false rfl)).trans ((uJ_ne (show ¬ 14 = 13 from Nat.ne_of_beq_eq_false rfl)).trans ((uJ_ne (show ¬ 14 = 8 from Nat.ne_of_beq_eq_false rfl)).trans (hW8 208 14 (by first | decide | omega)))))).trans (show (I 208 14) = il from by omega)) (((uI_o (show ¬ (208 = 209 ∧ 11 = (Int.toNat ((wr ((I5 208 10) + 1)) % 6))) from fun e => absurd e.1 (Nat.ne_of_beq_eq_false rfl))).trans ((uJ_ne (show ¬ 11 = 10 from Nat.ne_of_beq_eq_false rfl)).trans ((uJ_ne (show ¬ 11 = 13 from Nat.ne_of_beq_eq_false rfl)).trans ((uJ_ne (show ¬ 11 = 8 from Nat.ne_of_beq_eq_false rfl)).trans (hW8 208 11 (by first | decide | omega)))))).trans (show (I 208 11) = S 0 2 from by omega)) (((uI_o (show ¬ (208 = 209 ∧ 10 = (Int.toNat ((wr ((I5 208 10) + 1)) % 6))) from fun e => absurd e.1 (Nat.ne_of_beq_eq_false rfl))).trans (uJ_eq)).trans (show (wr ((I5 208 10) + 1)) = S 0 3 + 1 from by omega)) (((uI_o (show ¬ (208 = 209 ∧ 9 = (Int.toNat ((wr ((I5 208 10) + 1)) % 6))) from fun e => absurd e.1 (Nat.ne_of_beq_eq_false rfl))).trans ((uJ_ne (show ¬ 9 = 10 from Nat.ne_of_beq_eq_false rfl)).trans ((uJ_ne (show ¬ 9 = 13 from Nat.ne_of_beq_eq_false rfl)).trans (uJ_ne (show ¬ 9 = 8 from Nat.ne_of_beq_eq_false rfl))))).trans (show (I5 208 9) = hoF v0 S from by have k4 := hoF_c (act := v0) (S := S); omega)) (((uI_o (show ¬ (210 = 209 ∧ 2 = (Int.toNat ((wr ((I5 208 10) + 1)) % 6))) from fun e => absurd e.1 (Nat.ne_of_beq_eq_false rfl))).trans ((uI_o (show ¬ (210 = 208 ∧ 2 = 10) from fun e => absurd e.1 (Nat.ne_of_beq_eq_false rfl))).trans ((uI_o (show ¬ (210 = 208 ∧ 2 = 13) from fun e => absurd e.1 (Nat.ne_of_beq_eq_false rfl))).trans ((uI_o (show ¬ (210 = 208 ∧ 2 = 8) from fun e => absurd e.1 (Nat.ne_of_beq_eq_false rfl))).trans (hW8 210 2 (by first | decide | omega)))))).trans (show (I 210 2) = S 0 5 from by omega)) (fun i => ⟨(uI_o (show ¬ (211 = 209 ∧ i = (Int.toNat ((wr ((I5 208 10) + 1)) % 6))) from fun e => absurd e.1 (Nat.ne_of_beq_eq_false rfl))).trans ((uI_o (show ¬ (211 = 208 ∧ i = 10) from fun e => absurd e.1 (Nat.ne_of_beq_eq_false rfl))).trans ((uI_o (show ¬ (211 = 208 ∧ i = 13) from fun e => absurd e.1 (Nat.ne_of_beq_eq_false rfl))).trans ((uI_o (show ¬ (211 = 208 ∧ i = 8) from fun e => absurd e.1 (Nat.ne_of_beq_eq_false rfl))).trans (hW8 211 i (by omega))))), (uI_o (show ¬ (212 = 209 ∧ i = (Int.toNat ((wr ((I5 208 10) + 1)) % 6))) from fun e => absurd e.1 (Nat.ne_of_beq_eq_false rfl))).trans ((uI_o (show ¬ (212 = 208 ∧ i = 10) from fun e => absurd e.1 (Nat.ne_of_beq_eq_false rfl))).trans ((uI_o (show ¬ (212 = 208 ∧ i = 13) from fun e => absurd e.1 (Nat.ne_of_beq_eq_false rfl))).trans ((uI_o (show ¬ (212 = 208 ∧ i = 8) from fun e => absurd e.1 (Nat.ne_of_beq_eq_false rfl))).trans (hW8 212 i (by omega)))))⟩) ((uJ_eqj (show (Int.toNat (S 0 3 + 1) % 6) = (Int.toNat ((wr ((I5 208 10) + 1)) % 6)) from by omega)).trans el) (fun j hj => (uJ_ne (show ¬ j = (Int.toNat ((wr ((I5 208 10) + 1)) % 6)) from by omega)).trans ((uI_o (show ¬ (209 = 208 ∧ j = 10) from fun e => absurd e.1 (Nat.ne_of_beq_eq_false rfl))).trans ((uI_o (show ¬ (209 = 208 ∧ j = 13) from fun e => absurd e.1 (Nat.ne_of_beq_eq_false rfl))).trans ((uI_o (show ¬ (209 = 208 ∧ j = 8) from fun e => absurd e.1 (Nat.ne_of_beq_eq_false rfl))).trans (hW8 209 (j) (by omega)))))) (Or.inr ⟨by omega, rfl, fun i => ⟨rfl, rfl⟩⟩) (fun j => rfl) (fun j => rfl) (Or.inl ⟨by omega, rfl⟩) (fun j hj => rfl) (fun j => rfl) (rfl) (fun i => ⟨rfl, rfl⟩)))⟩
        ·
          refine ⟨⟨_, rfl, (by decide)⟩, ?_⟩
          refine c_ask10 (v0 := vr79) hF (Rg.u (Rg.u (Rg.u (Rg.u hR6 (Pr_f rfl)) (Pr_f rfl)) (Pr_f rfl)) (Pr_p (k := 209) rfl _ _)) hq hp (CR9_f hc (fun j h1 h2 => (uI_o (show ¬ (208 = 209 ∧ j = (Int.toNat ((wr ((I5 208 10) + 1)) % 6))) from fun e => absurd e.1 (Nat.ne_of_beq_eq_false rfl))).trans ((uJ_ne (show ¬ j = 10 from by omega)).trans ((uJ_ne (show ¬ j = 13 from by omega)).trans ((uJ_ne (show ¬ j = 8 from by omega)).trans (hW8 208 j (by omega)))))) (fun j => (uI_o (show ¬ (q = 209 ∧ j = (Int.toNat ((wr ((I5 208 10) + 1)) % 6))) from by omega)).trans ((uI_o (show ¬ (q = 208 ∧ j = 10) from by omega)).trans ((uI_o (show ¬ (q = 208 ∧ j = 13) from by omega)).trans ((uI_o (show ¬ (q = 208 ∧ j = 8) from by omega)).trans (hW8 q j (by omega)))))) (fun j => (uI_o (show ¬ ((q + 1) = 209 ∧ j = (Int.toNat ((wr ((I5 208 10) + 1)) % 6))) from by omega)).trans ((uI_o (show ¬ ((q + 1) = 208 ∧ j = 10) from by omega)).trans ((uI_o (show ¬ ((q + 1) = 208 ∧ j = 13) from by omega)).trans ((uI_o (show ¬ ((q + 1) = 208 ∧ j = 8) from by omega)).trans (hW8 (q + 1) j (by omega))))))) hq2 (fun I90 hR91 hA92 hW93 qr94 => ?_)
          exact ⟨rfl, fun hv hA' => hQ _ hR91 hA' (fun ka ja hk => ((hW93 ka ja (by omega))).trans (((uI_o (show ¬ (ka = 209 ∧ ja = (Int.toNat ((wr ((I5 208 10) + 1)) % 6))) from by omega))).trans (((uI_o (show ¬ (ka = 208 ∧ ja = 10) from by first | (intro e; obtain ⟨rfl, rfl⟩ := e; exact hk (by decide)) | omega))).trans (((uI_o (show ¬ (ka = 208 ∧ ja = 13) from by first | (intro e; obtain ⟨rfl, rfl⟩ := e; exact hk (by decide)) | omega))).trans (((uI_o (show ¬ (ka = 208 ∧ ja = 8) from by first | (intro e; obtain ⟨rfl, rfl⟩ := e; exact hk (by decide)) | omega))).trans ((hW8 ka ja (by omega)))))))) ((by
                              have e8 : w16 = xxF P v0 S := by have k2 := xxF_c (P := P) (act := v0) (S := S); omega
                              have eb : (0 : Int) = bF P v0 S := ((bF_c (P := P) (act := v0) (S := S)).2 (by omega)).symm
                              have el : vr79 = ldF ld P v0 S := by rw [(ldF_c (ld := ld) (P := P) (act := v0) (S := S)).2 (by omega), hl82, e8]
                              exact MC_n (M := (uI (uI (uI (uI I5 208 8 w16) 208 13 0) 208 10 (wr ((I5 208 10) + 1))) 209 (Int.toNat ((wr ((I5 208 10) + 1)) % 6)) vr79)) (K := (uI (uI (uI (uI I5 208 8 w16) 208 13 0) 208 10 (wr ((I5 208 10) + 1))) 209 (Int.toNat ((wr ((I5 208 10) + 1)) % 6)) vr79)) hil hW hM hy hP.1 (((uI_o (show ¬ (208 = 209 ∧ 8 = (Int.toNat ((wr ((I5 208 10) + 1)) % 6))) from fun e => absurd e.1 (Nat.ne_of_beq_eq_false rfl))).trans ((uJ_ne (show ¬ 8 = 10 from Nat.ne_of_beq_eq_false rfl)).trans ((uJ_ne (show ¬ 8 = 13 from Nat.ne_of_beq_eq_false rfl)).trans (uJ_eq)))).trans e8) (((uI_o (show ¬ (208 = 209 ∧ 13 = (Int.toNat ((wr ((I5 208 10) + 1)) % 6))) from fun e => absurd e.1 (Nat.ne_of_beq_eq_false rfl))).trans ((uJ_ne (show ¬ 13 = 10 from Nat.ne_of_beq_eq_false rfl)).trans (uJ_eq))).trans eb) (((uI_o (show ¬ (208 = 209 ∧ 14 = (Int.toNat ((wr ((I5 208 10) + 1)) % 6))) from fun e => absurd e.1 (Nat.ne_of_beq_eq_false rfl))).trans ((uJ_ne (show ¬ 14 = 10 from Nat.ne_of_beq_eq_false rfl)).trans ((uJ_ne (show ¬ 14 = 13 from Nat.ne_of_beq_eq_false rfl)).trans ((uJ_ne (show ¬ 14 = 8 from Nat.ne_of_beq_eq_false rfl)).trans (hW8 208 14 (by first | decide | omega)))))).trans (show (I 208 14) = il from by omega)) (((uI_o (show ¬ (208 = 209 ∧ 11 = (Int.toNat ((wr ((I5 208 10) + 1)) % 6))) from fun e => absurd e.1 (Nat.ne_of_beq_eq_false rfl))).trans ((uJ_ne (show ¬ 11 = 10 from Nat.ne_of_beq_eq_false rfl)).trans ((uJ_ne (show ¬ 11 = 13 from Nat.ne_of_beq_eq_false rfl)).trans ((uJ_ne (show ¬ 11 = 8 from Nat.ne_of_beq_eq_false rfl)).trans (hW8 208 11 (by first | decide | omega)))))).trans (show (I 208 11) = S 0 2 from by omega)) (((uI_o (show ¬ (208 = 209 ∧ 10 = (Int.toNat ((wr ((I5 208 10) + 1)) % 6))) from fun e => absurd e.1 (Nat.ne_of_beq_eq_false rfl))).trans (uJ_eq)).trans (show (wr ((I5 208 10) + 1)) = S 0 3 + 1 from by omega)) (((uI_o (show ¬ (208 = 209 ∧ 9 = (Int.toNat ((wr ((I5 208 10) + 1)) % 6))) from fun e => absurd e.1 (Nat.ne_of_beq_eq_false rfl))).trans ((uJ_ne (show ¬ 9 = 10 from Nat.ne_of_beq_eq_false rfl)).trans ((uJ_ne (show ¬ 9 = 13 from Nat.ne_of_beq_eq_false rfl)).trans (uJ_ne (show ¬ 9 = 8 from Nat.ne_of_beq_eq_false rfl))))).trans (show (I5 208 9) = hoF v0 S from by have k4 := hoF_c (act := v0) (S := S); omega)) (((uI_o (show ¬ (210 = 209 ∧ 2 = (Int.toNat ((wr ((I5 208 10) + 1)) % 6))) from fun e => absurd e.1 (Nat.ne_of_beq_eq_false rfl))).trans ((uI_o (show ¬ (210 = 208 ∧ 2 = 10) from fun e => absurd e.1 (Nat.ne_of_beq_eq_false rfl))).trans ((uI_o (show ¬ (210 = 208 ∧ 2 = 13) from fun e => absurd e.1 (Nat.ne_of_beq_eq_false rfl))).trans ((uI_o (show ¬ (210 = 208 ∧ 2 = 8) from fun e => absurd e.1 (Nat.ne_of_beq_eq_false rfl))).trans (hW8 210 2 (by first | decide | omega)))))).trans (show (I 210 2) = S 0 5 from by omega)) (fun i => ⟨(uI_o (show ¬ (211 = 209 ∧ i = (Int.toNat ((wr ((I5 208 10) + 1)) % 6))) from fun e => absurd e.1 (Nat.ne_of_beq_eq_false rfl))).trans ((uI_o (show ¬ (211 = 208 ∧ i = 10) from fun e => absurd e.1 (Nat.ne_of_beq_eq_false rfl))).trans ((uI_o (show ¬ (211 = 208 ∧ i = 13) from fun e => absurd e.1 (Nat.ne_of_beq_eq_false rfl))).trans ((uI_o (show ¬ (211 = 208 ∧ i = 8) from fun e => absurd e.1 (Nat.ne_of_beq_eq_false rfl))).trans (hW8 211 i (by omega))))), (uI_o (show ¬ (212 = 209 ∧ i = (Int.toNat ((wr ((I5 208 10) + 1)) % 6))) from fun e => absurd e.1 (Nat.ne_of_beq_eq_false rfl))).trans ((uI_o (show ¬ (212 = 208 ∧ i = 10) from fun e => absurd e.1 (Nat.ne_of_beq_eq_false rfl))).trans ((uI_o (show ¬ (212 = 208 ∧ i = 13) from fun e => absurd e.1 (Nat.ne_of_beq_eq_false rfl))).trans ((uI_o (show ¬ (212 = 208 ∧ i = 8) from fun e => absurd e.1 (Nat.ne_of_beq_eq_false rfl))).trans (hW8 212 i (by omega)))))⟩) ((uJ_eqj (show (Int.toNat (S 0 3 + 1) % 6) = (Int.toNat ((wr ((I5 208 10) + 1)) % 6)) from by omega)).trans el) (fun j hj => (uJ_ne (show ¬ j = (Int.toNat ((wr ((I5 208 10) + 1)) % 6)) from by omega)).trans ((uI_o (show ¬ (209 = 208 ∧ j = 10) from fun e => absurd e.1 (Nat.ne_of_beq_eq_false rfl))).trans ((uI_o (show ¬ (209 = 208 ∧ j = 13) from fun e => absurd e.1 (Nat.ne_of_beq_eq_false rfl))).trans ((uI_o (show ¬ (209 = 208 ∧ j = 8) from fun e => absurd e.1 (Nat.ne_of_beq_eq_false rfl))).trans (hW8 209 (j) (by omega)))))) (Or.inr ⟨by omega, rfl, fun i => ⟨rfl, rfl⟩⟩) (fun j => rfl) (fun j => rfl) (Or.inr ⟨by omega, by rw [← el]; exact qr94⟩) (fun j hj => hW93 208 j (by omega)) (fun j => hW93 209 j (by omega)) (hW93 210 2 (by first | decide | omega)) (fun i => ⟨hW93 211 i (by omega), hW93 212 i (by omega)⟩)))⟩
      ·
        refine ⟨⟨_, rfl, (by decide)⟩, ?_⟩
        have r95 : 0 ≤ (I 210 2) ∧ (I 210 2) ≤ 24 := (by omega)
        have u96 : (I5 210 2) = (I 210 2) := hW8 _ _ (by first | decide | omega)
        have a98 : -2147483648 ≤ (I5 210 2) ∧ (I5 210 2) < 2147483648 := hA7.1 _ _
        refine c_take10  hF (Rg.u (Rg.u (Rg.u (Rg.u hR6 (Pr_f rfl)) (Pr_f rfl)) (Pr_f rfl)) (Pr_p (k := 209) rfl _ _)) hq hp (CR9_f hc (fun j h1 h2 => (uI_o (show ¬ (208 = 209 ∧ j = (Int.toNat ((wr ((I5 208 10) + 1)) % 6))) from fun e => absurd e.1 (Nat.ne_of_beq_eq_false rfl))).trans ((uJ_ne (show ¬ j = 10 from by omega)).trans ((uJ_ne (show ¬ j = 13 from by omega)).trans ((uJ_ne (show ¬ j = 8 from by omega)).trans (hW8 208 j (by omega)))))) (fun j => (uI_o (show ¬ (q = 209 ∧ j = (Int.toNat ((wr ((I5 208 10) + 1)) % 6))) from by omega)).trans ((uI_o (show ¬ (q = 208 ∧ j = 10) from by omega)).trans ((uI_o (show ¬ (q = 208 ∧ j = 13) from by omega)).trans ((uI_o (show ¬ (q = 208 ∧ j = 8) from by omega)).trans (hW8 q j (by omega)))))) (fun j => (uI_o (show ¬ ((q + 1) = 209 ∧ j = (Int.toNat ((wr ((I5 208 10) + 1)) % 6))) from by omega)).trans ((uI_o (show ¬ ((q + 1) = 208 ∧ j = 10) from by omega)).trans ((uI_o (show ¬ ((q + 1) = 208 ∧ j = 13) from by omega)).trans ((uI_o (show ¬ ((q + 1) = 208 ∧ j = 8) from by omega)).trans (hW8 (q + 1) j (by omega))))))) hq2 (show 0 ≤ (wr ((I5 208 10) + 1)) ∧ (wr ((I5 208 10) + 1)) ≤ 20000000 from by first | omega | (simp only [wr, wl] at *; omega)) (show 0 ≤ (I5 210 2) ∧ (I5 210 2) ≤ 24 from by first | omega | (simp only [wr, wl] at *; omega)) (fun I99 hR100 hA101 hW102 qr103 => ?_)
        refine ⟨_, rfl, (by decide), ?_⟩
        have r104 : 0 ≤ (I 208 14) ∧ (I 208 14) ≤ 1 := (by omega)
        have u105 : (I5 208 14) = (I 208 14) := hW8 _ _ (by first | decide | omega)
        have a107 : -2147483648 ≤ (I5 208 14) ∧ (I5 208 14) < 2147483648 := hA7.1 _ _
        have u108 : (I99 208 14) = ((uI (uI (uI (uI I5 208 8 w16) 208 13 0) 208 10 (wr ((I5 208 10) + 1))) 209 (Int.toNat ((wr ((I5 208 10) + 1)) % 6)) vr79) 208 14) := hW102 _ _ (by first | decide | omega)
        have u109 : ((uI (uI (uI (uI I5 208 8 w16) 208 13 0) 208 10 (wr ((I5 208 10) + 1))) 209 (Int.toNat ((wr ((I5 208 10) + 1)) % 6)) vr79) 208 14) = (I5 208 14) := rfl
        have a110 : -2147483648 ≤ (I99 208 14) ∧ (I99 208 14) < 2147483648 := hA101.1 _ _
        refine ⟨fun (c111 : (¬ ((I99 208 14) : Int) = 0)) => ?_, fun (c111 : (((I99 208 14) : Int) = 0)) => ?_⟩
        ·
          exact ⟨rfl, fun hv hA' => hQ _ hR100 hA' (fun ka ja hk => ((hW102 ka ja (by omega))).trans (((uI_o (show ¬ (ka = 209 ∧ ja = (Int.toNat ((wr ((I5 208 10) + 1)) % 6))) from by omega))).trans (((uI_o (show ¬ (ka = 208 ∧ ja = 10) from by first | (intro e; obtain ⟨rfl, rfl⟩ := e; exact hk (by decide)) | omega))).trans (((uI_o (show ¬ (ka = 208 ∧ ja = 13) from by first | (intro e; obtain ⟨rfl, rfl⟩ := e; exact hk (by decide)) | omega))).trans (((uI_o (show ¬ (ka = 208 ∧ ja = 8) from by first | (intro e; obtain ⟨rfl, rfl⟩ := e; exact hk (by decide)) | omega))).trans ((hW8 ka ja (by omega)))))))) ((by
                              have e8 : w16 = xxF P v0 S := by have k2 := xxF_c (P := P) (act := v0) (S := S); omega
                              have eb : (0 : Int) = bF P v0 S := ((bF_c (P := P) (act := v0) (S := S)).2 (by omega)).symm
                              have el : vr79 = ldF ld P v0 S := by rw [(ldF_c (ld := ld) (P := P) (act := v0) (S := S)).2 (by omega), hl82, e8]
                              exact MC_n (M := (uI (uI (uI (uI I5 208 8 w16) 208 13 0) 208 10 (wr ((I5 208 10) + 1))) 209 (Int.toNat ((wr ((I5 208 10) + 1)) % 6)) vr79)) (K := I99) hil hW hM hy hP.1 (((uI_o (show ¬ (208 = 209 ∧ 8 = (Int.toNat ((wr ((I5 208 10) + 1)) % 6))) from fun e => absurd e.1 (Nat.ne_of_beq_eq_false rfl))).trans ((uJ_ne (show ¬ 8 = 10 from Nat.ne_of_beq_eq_false rfl)).trans ((uJ_ne (show ¬ 8 = 13 from Nat.ne_of_beq_eq_false rfl)).trans (uJ_eq)))).trans e8) (((uI_o (show ¬ (208 = 209 ∧ 13 = (Int.toNat ((wr ((I5 208 10) + 1)) % 6))) from fun e => absurd e.1 (Nat.ne_of_beq_eq_false rfl))).trans ((uJ_ne (show ¬ 13 = 10 from Nat.ne_of_beq_eq_false rfl)).trans (uJ_eq))).trans eb) (((uI_o (show ¬ (208 = 209 ∧ 14 = (Int.toNat ((wr ((I5 208 10) + 1)) % 6))) from fun e => absurd e.1 (Nat.ne_of_beq_eq_false rfl))).trans ((uJ_ne (show ¬ 14 = 10 from Nat.ne_of_beq_eq_false rfl)).trans ((uJ_ne (show ¬ 14 = 13 from Nat.ne_of_beq_eq_false rfl)).trans ((uJ_ne (show ¬ 14 = 8 from Nat.ne_of_beq_eq_false rfl)).trans (hW8 208 14 (by first | decide | omega)))))).trans (show (I 208 14) = il from by omega)) (((uI_o (show ¬ (208 = 209 ∧ 11 = (Int.toNat ((wr ((I5 208 10) + 1)) % 6))) from fun e => absurd e.1 (Nat.ne_of_beq_eq_false rfl))).trans ((uJ_ne (show ¬ 11 = 10 from Nat.ne_of_beq_eq_false rfl)).trans ((uJ_ne (show ¬ 11 = 13 from Nat.ne_of_beq_eq_false rfl)).trans ((uJ_ne (show ¬ 11 = 8 from Nat.ne_of_beq_eq_false rfl)).trans (hW8 208 11 (by first | decide | omega)))))).trans (show (I 208 11) = S 0 2 from by omega)) (((uI_o (show ¬ (208 = 209 ∧ 10 = (Int.toNat ((wr ((I5 208 10) + 1)) % 6))) from fun e => absurd e.1 (Nat.ne_of_beq_eq_false rfl))).trans (uJ_eq)).trans (show (wr ((I5 208 10) + 1)) = S 0 3 + 1 from by omega)) (((uI_o (show ¬ (208 = 209 ∧ 9 = (Int.toNat ((wr ((I5 208 10) + 1)) % 6))) from fun e => absurd e.1 (Nat.ne_of_beq_eq_false rfl))).trans ((uJ_ne (show ¬ 9 = 10 from Nat.ne_of_beq_eq_false rfl)).trans ((uJ_ne (show ¬ 9 = 13 from Nat.ne_of_beq_eq_false rfl)).trans (uJ_ne (show ¬ 9 = 8 from Nat.ne_of_beq_eq_false rfl))))).trans (show (I5 208 9) = hoF v0 S from by have k4 := hoF_c (act := v0) (S := S); omega)) (((uI_o (show ¬ (210 = 209 ∧ 2 = (Int.toNat ((wr ((I5 208 10) + 1)) % 6))) from fun e => absurd e.1 (Nat.ne_of_beq_eq_false rfl))).trans ((uI_o (show ¬ (210 = 208 ∧ 2 = 10) from fun e => absurd e.1 (Nat.ne_of_beq_eq_false rfl))).trans ((uI_o (show ¬ (210 = 208 ∧ 2 = 13) from fun e => absurd e.1 (Nat.ne_of_beq_eq_false rfl))).trans ((uI_o (show ¬ (210 = 208 ∧ 2 = 8) from fun e => absurd e.1 (Nat.ne_of_beq_eq_false rfl))).trans (hW8 210 2 (by first | decide | omega)))))).trans (show (I 210 2) = S 0 5 from by omega)) (fun i => ⟨(uI_o (show ¬ (211 = 209 ∧ i = (Int.toNat ((wr ((I5 208 10) + 1)) % 6))) from fun e => absurd e.1 (Nat.ne_of_beq_eq_false rfl))).trans ((uI_o (show ¬ (211 = 208 ∧ i = 10) from fun e => absurd e.1 (Nat.ne_of_beq_eq_false rfl))).trans ((uI_o (show ¬ (211 = 208 ∧ i = 13) from fun e => absurd e.1 (Nat.ne_of_beq_eq_false rfl))).trans ((uI_o (show ¬ (211 = 208 ∧ i = 8) from fun e => absurd e.1 (Nat.ne_of_beq_eq_false rfl))).trans (hW8 211 i (by omega))))), (uI_o (show ¬ (212 = 209 ∧ i = (Int.toNat ((wr ((I5 208 10) + 1)) % 6))) from fun e => absurd e.1 (Nat.ne_of_beq_eq_false rfl))).trans ((uI_o (show ¬ (212 = 208 ∧ i = 10) from fun e => absurd e.1 (Nat.ne_of_beq_eq_false rfl))).trans ((uI_o (show ¬ (212 = 208 ∧ i = 13) from fun e => absurd e.1 (Nat.ne_of_beq_eq_false rfl))).trans ((uI_o (show ¬ (212 = 208 ∧ i = 8) from fun e => absurd e.1 (Nat.ne_of_beq_eq_false rfl))).trans (hW8 212 i (by omega)))))⟩) ((uJ_eqj (show (Int.toNat (S 0 3 + 1) % 6) = (Int.toNat ((wr ((I5 208 10) + 1)) % 6)) from by omega)).trans el) (fun j hj => (uJ_ne (show ¬ j = (Int.toNat ((wr ((I5 208 10) + 1)) % 6)) from by omega)).trans ((uI_o (show ¬ (209 = 208 ∧ j = 10) from fun e => absurd e.1 (Nat.ne_of_beq_eq_false rfl))).trans ((uI_o (show ¬ (209 = 208 ∧ j = 13) from fun e => absurd e.1 (Nat.ne_of_beq_eq_false rfl))).trans ((uI_o (show ¬ (209 = 208 ∧ j = 8) from fun e => absurd e.1 (Nat.ne_of_beq_eq_false rfl))).trans (hW8 209 (j) (by omega)))))) (Or.inl ⟨by omega, qr103⟩) (fun j => hW102 208 j (by omega)) (fun j => hW102 209 j (by omega)) (Or.inl ⟨by omega, rfl⟩) (fun j hj => rfl) (fun j => rfl) (rfl) (fun i => ⟨rfl, rfl⟩)))⟩
        ·
          refine ⟨⟨_, rfl, (by decide)⟩, ?_⟩
          refine c_ask10 (v0 := vr79) hF hR100 hq hp (CR9_f hc (fun j h1 h2 => (hW102 208 j (by omega)).trans ((uI_o (show ¬ (208 = 209 ∧ j = (Int.toNat ((wr ((I5 208 10) + 1)) % 6))) from fun e => absurd e.1 (Nat.ne_of_beq_eq_false rfl))).trans ((uJ_ne (show ¬ j = 10 from by omega)).trans ((uJ_ne (show ¬ j = 13 from by omega)).trans ((uJ_ne (show ¬ j = 8 from by omega)).trans (hW8 208 j (by omega))))))) (fun j => (hW102 q j (by omega)).trans ((uI_o (show ¬ (q = 209 ∧ j = (Int.toNat ((wr ((I5 208 10) + 1)) % 6))) from by omega)).trans ((uI_o (show ¬ (q = 208 ∧ j = 10) from by omega)).trans ((uI_o (show ¬ (q = 208 ∧ j = 13) from by omega)).trans ((uI_o (show ¬ (q = 208 ∧ j = 8) from by omega)).trans (hW8 q j (by omega))))))) (fun j => (hW102 (q + 1) j (by omega)).trans ((uI_o (show ¬ ((q + 1) = 209 ∧ j = (Int.toNat ((wr ((I5 208 10) + 1)) % 6))) from by omega)).trans ((uI_o (show ¬ ((q + 1) = 208 ∧ j = 10) from by omega)).trans ((uI_o (show ¬ ((q + 1) = 208 ∧ j = 13) from by omega)).trans ((uI_o (show ¬ ((q + 1) = 208 ∧ j = 8) from by omega)).trans (hW8 (q + 1) j (by omega)))))))) hq2 (fun I112 hR113 hA114 hW115 qr116 => ?_)
          exact ⟨rfl, fun hv hA' => hQ _ hR113 hA' (fun ka ja hk => ((hW115 ka ja (by omega))).trans (((hW102 ka ja (by omega))).trans (((uI_o (show ¬ (ka = 209 ∧ ja = (Int.toNat ((wr ((I5 208 10) + 1)) % 6))) from by omega))).trans (((uI_o (show ¬ (ka = 208 ∧ ja = 10) from by first | (intro e; obtain ⟨rfl, rfl⟩ := e; exact hk (by decide)) | omega))).trans (((uI_o (show ¬ (ka = 208 ∧ ja = 13) from by first | (intro e; obtain ⟨rfl, rfl⟩ := e; exact hk (by decide)) | omega))).trans (((uI_o (show ¬ (ka = 208 ∧ ja = 8) from by first | (intro e; obtain ⟨rfl, rfl⟩ := e; exact hk (by decide)) | omega))).trans ((hW8 ka ja (by omega))))))))) ((by
                              have e8 : w16 = xxF P v0 S := by have k2 := xxF_c (P := P) (act := v0) (S := S); omega
                              have eb : (0 : Int) = bF P v0 S := ((bF_c (P := P) (act := v0) (S := S)).2 (by omega)).symm
                              have el : vr79 = ldF ld P v0 S := by rw [(ldF_c (ld := ld) (P := P) (act := v0) (S := S)).2 (by omega), hl82, e8]
                              exact MC_n (M := (uI (uI (uI (uI I5 208 8 w16) 208 13 0) 208 10 (wr ((I5 208 10) + 1))) 209 (Int.toNat ((wr ((I5 208 10) + 1)) % 6)) vr79)) (K := I99) hil hW hM hy hP.1 (((uI_o (show ¬ (208 = 209 ∧ 8 = (Int.toNat ((wr ((I5 208 10) + 1)) % 6))) from fun e => absurd e.1 (Nat.ne_of_beq_eq_false rfl))).trans ((uJ_ne (show ¬ 8 = 10 from Nat.ne_of_beq_eq_false rfl)).trans ((uJ_ne (show ¬ 8 = 13 from Nat.ne_of_beq_eq_false rfl)).trans (uJ_eq)))).trans e8) (((uI_o (show ¬ (208 = 209 ∧ 13 = (Int.toNat ((wr ((I5 208 10) + 1)) % 6))) from fun e => absurd e.1 (Nat.ne_of_beq_eq_false rfl))).trans ((uJ_ne (show ¬ 13 = 10 from Nat.ne_of_beq_eq_false rfl)).trans (uJ_eq))).trans eb) (((uI_o (show ¬ (208 = 209 ∧ 14 = (Int.toNat ((wr ((I5 208 10) + 1)) % 6))) from fun e => absurd e.1 (Nat.ne_of_beq_eq_false rfl))).trans ((uJ_ne (show ¬ 14 = 10 from Nat.ne_of_beq_eq_false rfl)).trans ((uJ_ne (show ¬ 14 = 13 from Nat.ne_of_beq_eq_false rfl)).trans ((uJ_ne (show ¬ 14 = 8 from Nat.ne_of_beq_eq_false rfl)).trans (hW8 208 14 (by first | decide | omega)))))).trans (show (I 208 14) = il from by omega)) (((uI_o (show ¬ (208 = 209 ∧ 11 = (Int.toNat ((wr ((I5 208 10) + 1)) % 6))) from fun e => absurd e.1 (Nat.ne_of_beq_eq_false rfl))).trans ((uJ_ne (show ¬ 11 = 10 from Nat.ne_of_beq_eq_false rfl)).trans ((uJ_ne (show ¬ 11 = 13 from Nat.ne_of_beq_eq_false rfl)).trans ((uJ_ne (show ¬ 11 = 8 from Nat.ne_of_beq_eq_false rfl)).trans (hW8 208 11 (by first | decide | omega)))))).trans (show (I 208 11) = S 0 2 from by omega)) (((uI_o (show ¬ (208 = 209 ∧ 10 = (Int.toNat ((wr ((I5 208 10) + 1)) % 6))) from fun e => absurd e.1 (Nat.ne_of_beq_eq_false rfl))).trans (uJ_eq)).trans (show (wr ((I5 208 10) + 1)) = S 0 3 + 1 from by omega)) (((uI_o (show ¬ (208 = 209 ∧ 9 = (Int.toNat ((wr ((I5 208 10) + 1)) % 6))) from fun e => absurd e.1 (Nat.ne_of_beq_eq_false rfl))).trans ((uJ_ne (show ¬ 9 = 10 from Nat.ne_of_beq_eq_false rfl)).trans ((uJ_ne (show ¬ 9 = 13 from Nat.ne_of_beq_eq_false rfl)).trans (uJ_ne (show ¬ 9 = 8 from Nat.ne_of_beq_eq_false rfl))))).trans (show (I5 208 9) = hoF v0 S from by have k4 := hoF_c (act := v0) (S := S); omega)) (((uI_o (show ¬ (210 = 209 ∧ 2 = (Int.toNat ((wr ((I5 208 10) + 1)) % 6))) from fun e => absurd e.1 (Nat.ne_of_beq_eq_false rfl))).trans ((uI_o (show ¬ (210 = 208 ∧ 2 = 10) from fun e => absurd e.1 (Nat.ne_of_beq_eq_false rfl))).trans ((uI_o (show ¬ (210 = 208 ∧ 2 = 13) from fun e => absurd e.1 (Nat.ne_of_beq_eq_false rfl))).trans ((uI_o (show ¬ (210 = 208 ∧ 2 = 8) from fun e => absurd e.1 (Nat.ne_of_beq_eq_false rfl))).trans (hW8 210 2 (by first | decide | omega)))))).trans (show (I 210 2) = S 0 5 from by omega)) (fun i => ⟨(uI_o (show ¬ (211 = 209 ∧ i = (Int.toNat ((wr ((I5 208 10) + 1)) % 6))) from fun e => absurd e.1 (Nat.ne_of_beq_eq_false rfl))).trans ((uI_o (show ¬ (211 = 208 ∧ i = 10) from fun e => absurd e.1 (Nat.ne_of_beq_eq_false rfl))).trans ((uI_o (show ¬ (211 = 208 ∧ i = 13) from fun e => absurd e.1 (Nat.ne_of_beq_eq_false rfl))).trans ((uI_o (show ¬ (211 = 208 ∧ i = 8) from fun e => absurd e.1 (Nat.ne_of_beq_eq_false rfl))).trans (hW8 211 i (by omega))))), (uI_o (show ¬ (212 = 209 ∧ i = (Int.toNat ((wr ((I5 208 10) + 1)) % 6))) from fun e => absurd e.1 (Nat.ne_of_beq_eq_false rfl))).trans ((uI_o (show ¬ (212 = 208 ∧ i = 10) from fun e => absurd e.1 (Nat.ne_of_beq_eq_false rfl))).trans ((uI_o (show ¬ (212 = 208 ∧ i = 13) from fun e => absurd e.1 (Nat.ne_of_beq_eq_false rfl))).trans ((uI_o (show ¬ (212 = 208 ∧ i = 8) from fun e => absurd e.1 (Nat.ne_of_beq_eq_false rfl))).trans (hW8 212 i (by omega)))))⟩) ((uJ_eqj (show (Int.toNat (S 0 3 + 1) % 6) = (Int.toNat ((wr ((I5 208 10) + 1)) % 6)) from by omega)).trans el) (fun j hj => (uJ_ne (show ¬ j = (Int.toNat ((wr ((I5 208 10) + 1)) % 6)) from by omega)).trans ((uI_o (show ¬ (209 = 208 ∧ j = 10) from fun e => absurd e.1 (Nat.ne_of_beq_eq_false rfl))).trans ((uI_o (show ¬ (209 = 208 ∧ j = 13) from fun e => absurd e.1 (Nat.ne_of_beq_eq_false rfl))).trans ((uI_o (show ¬ (209 = 208 ∧ j = 8) from fun e => absurd e.1 (Nat.ne_of_beq_eq_false rfl))).trans (hW8 209 (j) (by omega)))))) (Or.inl ⟨by omega, qr103⟩) (fun j => hW102 208 j (by omega)) (fun j => hW102 209 j (by omega)) (Or.inr ⟨by omega, by rw [← el]; exact qr116⟩) (fun j hj => hW115 208 j (by omega)) (fun j => hW115 209 j (by omega)) (hW115 210 2 (by first | decide | omega)) (fun i => ⟨hW115 211 i (by omega), hW115 212 i (by omega)⟩)))⟩
    ·
      refine ⟨_, rfl, (by decide), (by decide), ?_⟩
      refine ⟨_, rfl, (by decide), ?_⟩
      have r117 : 0 ≤ (I 208 10) ∧ (I 208 10) ≤ 19400000 := (by omega)
      have u118 : (I5 208 10) = (I 208 10) := hW8 _ _ (by first | decide | omega)
      have a120 : -2147483648 ≤ (I5 208 10) ∧ (I5 208 10) < 2147483648 := hA7.1 _ _
      refine ⟨_, rfl, (by decide), ?_⟩
      refine ⟨⟨_, rfl, (by decide)⟩, ?_⟩
      refine c_mload10  hF (Rg.u (Rg.u (Rg.u hR6 (Pr_f rfl)) (Pr_f rfl)) (Pr_f rfl)) hq hp (CR9_f hc (fun j h1 h2 => (uJ_ne (show ¬ j = 10 from by omega)).trans ((uJ_ne (show ¬ j = 13 from by omega)).trans ((uJ_ne (show ¬ j = 8 from by omega)).trans (hW8 208 j (by omega))))) (fun j => (uI_o (show ¬ (q = 208 ∧ j = 10) from by omega)).trans ((uI_o (show ¬ (q = 208 ∧ j = 13) from by omega)).trans ((uI_o (show ¬ (q = 208 ∧ j = 8) from by omega)).trans (hW8 q j (by omega))))) (fun j => (uI_o (show ¬ ((q + 1) = 208 ∧ j = 10) from by omega)).trans ((uI_o (show ¬ ((q + 1) = 208 ∧ j = 13) from by omega)).trans ((uI_o (show ¬ ((q + 1) = 208 ∧ j = 8) from by omega)).trans (hW8 (q + 1) j (by omega)))))) hq2 (fun vr121 hr122 qr123 => ?_)
      have hr122 : -2147483648 ≤ vr121 ∧ vr121 < 2147483648 := hr122
      have hl124 : vr121 = 0 := qr123.2 (show ¬ (1 : Int) = 0 from by decide)
      refine ⟨_, rfl, (by decide), ?_⟩
      refine fun w0 hw0 => ?_; obtain rfl : w0 = some 209 := hw0.symm.trans (FS.g hF rfl)
      refine ⟨_, rfl, (by decide), ?_⟩
      refine ⟨_, rfl, (by decide), ?_⟩
      refine fun w0 hw0 => ?_; obtain rfl : w0 = some 209 := hw0.symm.trans (FS.g hF rfl)
      refine ⟨_, _, (by decide), rfl, (by decide), ?_⟩
      have n125 : (wr ((I5 208 10) + 1)) = (I5 208 10) + 1 := wr_id (show -2147483648 ≤ ((I5 208 10) + 1 : Int) ∧ ((I5 208 10) + 1 : Int) < 2147483648 from by omega)
      refine c_mod6e (x := (wr ((I5 208 10) + 1))) (by omega) ?_
      refine ⟨_, rfl, (by decide), (show (0 : Int) ≤ ((wr ((I5 208 10) + 1)) % 6) from by first | with_reducible assumption | omega | (simp only [wr, wl] at *; omega)), (show ((wr ((I5 208 10) + 1)) % 6) < (6 : Int) from by first | with_reducible assumption | omega | (simp only [wr, wl] at *; omega)), ?_⟩
      refine ⟨fun (c126 : (¬ (v0 : Int) = 4)) => ?_, fun (c126 : ((v0 : Int) = 4)) => ?_⟩
      ·
        refine ⟨_, rfl, (by decide), ?_⟩
        have r127 : 0 ≤ (I 208 14) ∧ (I 208 14) ≤ 1 := (by omega)
        have u128 : (I5 208 14) = (I 208 14) := hW8 _ _ (by first | decide | omega)
        have a130 : -2147483648 ≤ (I5 208 14) ∧ (I5 208 14) < 2147483648 := hA7.1 _ _
        refine ⟨fun (c131 : (¬ ((I5 208 14) : Int) = 0)) => ?_, fun (c131 : (((I5 208 14) : Int) = 0)) => ?_⟩
        ·
          exact ⟨rfl, fun hv hA' => hQ _ (Rg.u (Rg.u (Rg.u (Rg.u hR6 (Pr_f rfl)) (Pr_f rfl)) (Pr_f rfl)) (Pr_p (k := 209) rfl _ _)) hA' (fun ka ja hk => ((uI_o (show ¬ (ka = 209 ∧ ja = (Int.toNat ((wr ((I5 208 10) + 1)) % 6))) from by omega))).trans (((uI_o (show ¬ (ka = 208 ∧ ja = 10) from by first | (intro e; obtain ⟨rfl, rfl⟩ := e; exact hk (by decide)) | omega))).trans (((uI_o (show ¬ (ka = 208 ∧ ja = 13) from by first | (intro e; obtain ⟨rfl, rfl⟩ := e; exact hk (by decide)) | omega))).trans (((uI_o (show ¬ (ka = 208 ∧ ja = 8) from by first | (intro e; obtain ⟨rfl, rfl⟩ := e; exact hk (by decide)) | omega))).trans ((hW8 ka ja (by omega))))))) ((by
                              have e8 : w16 = xxF P v0 S := by have k2 := xxF_c (P := P) (act := v0) (S := S); omega
                              have eb : (1 : Int) = bF P v0 S := ((bF_c (P := P) (act := v0) (S := S)).1 (by omega)).symm
                              have el : vr121 = ldF ld P v0 S := by rw [(ldF_c (ld := ld) (P := P) (act := v0) (S := S)).1 (by omega), hl124]
                              exact MC_n (M := (uI (uI (uI (uI I5 208 8 w16) 208 13 1) 208 10 (wr ((I5 208 10) + 1))) 209 (Int.toNat ((wr ((I5 208 10) + 1)) % 6)) vr121)) (K := (uI (uI (uI (uI I5 208 8 w16) 208 13 1) 208 10 (wr ((I5 208 10) + 1))) 209 (Int.toNat ((wr ((I5 208 10) + 1)) % 6)) vr121)) hil hW hM hy hP.1 (((uI_o (show ¬ (208 = 209 ∧ 8 = (Int.toNat ((wr ((I5 208 10) + 1)) % 6))) from fun e => absurd e.1 (Nat.ne_of_beq_eq_false rfl))).trans ((uJ_ne (show ¬ 8 = 10 from Nat.ne_of_beq_eq_false rfl)).trans ((uJ_ne (show ¬ 8 = 13 from Nat.ne_of_beq_eq_false rfl)).trans (uJ_eq)))).trans e8) (((uI_o (show ¬ (208 = 209 ∧ 13 = (Int.toNat ((wr ((I5 208 10) + 1)) % 6))) from fun e => absurd e.1 (Nat.ne_of_beq_eq_false rfl))).trans ((uJ_ne (show ¬ 13 = 10 from Nat.ne_of_beq_eq_false rfl)).trans (uJ_eq))).trans eb) (((uI_o (show ¬ (208 = 209 ∧ 14 = (Int.toNat ((wr ((I5 208 10) + 1)) % 6))) from fun e => absurd e.1 (Nat.ne_of_beq_eq_false rfl))).trans ((uJ_ne (show ¬ 14 = 10 from Nat.ne_of_beq_eq_false rfl)).trans ((uJ_ne (show ¬ 14 = 13 from Nat.ne_of_beq_eq_false rfl)).trans ((uJ_ne (show ¬ 14 = 8 from Nat.ne_of_beq_eq_false rfl)).trans (hW8 208 14 (by first | decide | omega)))))).trans (show (I 208 14) = il from by omega)) (((uI_o (show ¬ (208 = 209 ∧ 11 = (Int.toNat ((wr ((I5 208 10) + 1)) % 6))) from fun e => absurd e.1 (Nat.ne_of_beq_eq_false rfl))).trans ((uJ_ne (show ¬ 11 = 10 from Nat.ne_of_beq_eq_false rfl)).trans ((uJ_ne (show ¬ 11 = 13 from Nat.ne_of_beq_eq_false rfl)).trans ((uJ_ne (show ¬ 11 = 8 from Nat.ne_of_beq_eq_false rfl)).trans (hW8 208 11 (by first | decide | omega)))))).trans (show (I 208 11) = S 0 2 from by omega)) (((uI_o (show ¬ (208 = 209 ∧ 10 = (Int.toNat ((wr ((I5 208 10) + 1)) % 6))) from fun e => absurd e.1 (Nat.ne_of_beq_eq_false rfl))).trans (uJ_eq)).trans (show (wr ((I5 208 10) + 1)) = S 0 3 + 1 from by omega)) (((uI_o (show ¬ (208 = 209 ∧ 9 = (Int.toNat ((wr ((I5 208 10) + 1)) % 6))) from fun e => absurd e.1 (Nat.ne_of_beq_eq_false rfl))).trans ((uJ_ne (show ¬ 9 = 10 from Nat.ne_of_beq_eq_false rfl)).trans ((uJ_ne (show ¬ 9 = 13 from Nat.ne_of_beq_eq_false rfl)).trans (uJ_ne (show ¬ 9 = 8 from Nat.ne_of_beq_eq_false rfl))))).trans (show (I5 208 9) = hoF v0 S from by have k4 := hoF_c (act := v0) (S := S); omega)) (((uI_o (show ¬ (210 = 209 ∧ 2 = (Int.toNat ((wr ((I5 208 10) + 1)) % 6))) from fun e => absurd e.1 (Nat.ne_of_beq_eq_false rfl))).trans ((uI_o (show ¬ (210 = 208 ∧ 2 = 10) from fun e => absurd e.1 (Nat.ne_of_beq_eq_false rfl))).trans ((uI_o (show ¬ (210 = 208 ∧ 2 = 13) from fun e => absurd e.1 (Nat.ne_of_beq_eq_false rfl))).trans ((uI_o (show ¬ (210 = 208 ∧ 2 = 8) from fun e => absurd e.1 (Nat.ne_of_beq_eq_false rfl))).trans (hW8 210 2 (by first | decide | omega)))))).trans (show (I 210 2) = S 0 5 from by omega)) (fun i => ⟨(uI_o (show ¬ (211 = 209 ∧ i = (Int.toNat ((wr ((I5 208 10) + 1)) % 6))) from fun e => absurd e.1 (Nat.ne_of_beq_eq_false rfl))).trans ((uI_o (show ¬ (211 = 208 ∧ i = 10) from fun e => absurd e.1 (Nat.ne_of_beq_eq_false rfl))).trans ((uI_o (show ¬ (211 = 208 ∧ i = 13) from fun e => absurd e.1 (Nat.ne_of_beq_eq_false rfl))).trans ((uI_o (show ¬ (211 = 208 ∧ i = 8) from fun e => absurd e.1 (Nat.ne_of_beq_eq_false rfl))).trans (hW8 211 i (by omega))))), (uI_o (show ¬ (212 = 209 ∧ i = (Int.toNat ((wr ((I5 208 10) + 1)) % 6))) from fun e => absurd e.1 (Nat.ne_of_beq_eq_false rfl))).trans ((uI_o (show ¬ (212 = 208 ∧ i = 10) from fun e => absurd e.1 (Nat.ne_of_beq_eq_false rfl))).trans ((uI_o (show ¬ (212 = 208 ∧ i = 13) from fun e => absurd e.1 (Nat.ne_of_beq_eq_false rfl))).trans ((uI_o (show ¬ (212 = 208 ∧ i = 8) from fun e => absurd e.1 (Nat.ne_of_beq_eq_false rfl))).trans (hW8 212 i (by omega)))))⟩) ((uJ_eqj (show (Int.toNat (S 0 3 + 1) % 6) = (Int.toNat ((wr ((I5 208 10) + 1)) % 6)) from by omega)).trans el) (fun j hj => (uJ_ne (show ¬ j = (Int.toNat ((wr ((I5 208 10) + 1)) % 6)) from by omega)).trans ((uI_o (show ¬ (209 = 208 ∧ j = 10) from fun e => absurd e.1 (Nat.ne_of_beq_eq_false rfl))).trans ((uI_o (show ¬ (209 = 208 ∧ j = 13) from fun e => absurd e.1 (Nat.ne_of_beq_eq_false rfl))).trans ((uI_o (show ¬ (209 = 208 ∧ j = 8) from fun e => absurd e.1 (Nat.ne_of_beq_eq_false rfl))).trans (hW8 209 (j) (by omega)))))) (Or.inr ⟨by omega, rfl, fun i => ⟨rfl, rfl⟩⟩) (fun j => rfl) (fun j => rfl) (Or.inl ⟨by omega, rfl⟩) (fun j hj => rfl) (fun j => rfl) (rfl) (fun i => ⟨rfl, rfl⟩)))⟩
        ·
          refine ⟨⟨_, rfl, (by decide)⟩, ?_⟩
          refine c_ask10 (v0 := vr121) hF (Rg.u (Rg.u (Rg.u (Rg.u hR6 (Pr_f rfl)) (Pr_f rfl)) (Pr_f rfl)) (Pr_p (k := 209) rfl _ _)) hq hp (CR9_f hc (fun j h1 h2 => (uI_o (show ¬ (208 = 209 ∧ j = (Int.toNat ((wr ((I5 208 10) + 1)) % 6))) from fun e => absurd e.1 (Nat.ne_of_beq_eq_false rfl))).trans ((uJ_ne (show ¬ j = 10 from by omega)).trans ((uJ_ne (show ¬ j = 13 from by omega)).trans ((uJ_ne (show ¬ j = 8 from by omega)).trans (hW8 208 j (by omega)))))) (fun j => (uI_o (show ¬ (q = 209 ∧ j = (Int.toNat ((wr ((I5 208 10) + 1)) % 6))) from by omega)).trans ((uI_o (show ¬ (q = 208 ∧ j = 10) from by omega)).trans ((uI_o (show ¬ (q = 208 ∧ j = 13) from by omega)).trans ((uI_o (show ¬ (q = 208 ∧ j = 8) from by omega)).trans (hW8 q j (by omega)))))) (fun j => (uI_o (show ¬ ((q + 1) = 209 ∧ j = (Int.toNat ((wr ((I5 208 10) + 1)) % 6))) from by omega)).trans ((uI_o (show ¬ ((q + 1) = 208 ∧ j = 10) from by omega)).trans ((uI_o (show ¬ ((q + 1) = 208 ∧ j = 13) from by omega)).trans ((uI_o (show ¬ ((q + 1) = 208 ∧ j = 8) from by omega)).trans (hW8 (q + 1) j (by omega))))))) hq2 (fun I132 hR133 hA134 hW135 qr136 => ?_)
          exact ⟨rfl, fun hv hA' => hQ _ hR133 hA' (fun ka ja hk => ((hW135 ka ja (by omega))).trans (((uI_o (show ¬ (ka = 209 ∧ ja = (Int.toNat ((wr ((I5 208 10) + 1)) % 6))) from by omega))).trans (((uI_o (show ¬ (ka = 208 ∧ ja = 10) from by first | (intro e; obtain ⟨rfl, rfl⟩ := e; exact hk (by decide)) | omega))).trans (((uI_o (show ¬ (ka = 208 ∧ ja = 13) from by first | (intro e; obtain ⟨rfl, rfl⟩ := e; exact hk (by decide)) | omega))).trans (((uI_o (show ¬ (ka = 208 ∧ ja = 8) from by first | (intro e; obtain ⟨rfl, rfl⟩ := e; exact hk (by decide)) | omega))).trans ((hW8 ka ja (by omega)))))))) ((by
                              have e8 : w16 = xxF P v0 S := by have k2 := xxF_c (P := P) (act := v0) (S := S); omega
                              have eb : (1 : Int) = bF P v0 S := ((bF_c (P := P) (act := v0) (S := S)).1 (by omega)).symm
                              have el : vr121 = ldF ld P v0 S := by rw [(ldF_c (ld := ld) (P := P) (act := v0) (S := S)).1 (by omega), hl124]
                              exact MC_n (M := (uI (uI (uI (uI I5 208 8 w16) 208 13 1) 208 10 (wr ((I5 208 10) + 1))) 209 (Int.toNat ((wr ((I5 208 10) + 1)) % 6)) vr121)) (K := (uI (uI (uI (uI I5 208 8 w16) 208 13 1) 208 10 (wr ((I5 208 10) + 1))) 209 (Int.toNat ((wr ((I5 208 10) + 1)) % 6)) vr121)) hil hW hM hy hP.1 (((uI_o (show ¬ (208 = 209 ∧ 8 = (Int.toNat ((wr ((I5 208 10) + 1)) % 6))) from fun e => absurd e.1 (Nat.ne_of_beq_eq_false rfl))).trans ((uJ_ne (show ¬ 8 = 10 from Nat.ne_of_beq_eq_false rfl)).trans ((uJ_ne (show ¬ 8 = 13 from Nat.ne_of_beq_eq_false rfl)).trans (uJ_eq)))).trans e8) (((uI_o (show ¬ (208 = 209 ∧ 13 = (Int.toNat ((wr ((I5 208 10) + 1)) % 6))) from fun e => absurd e.1 (Nat.ne_of_beq_eq_false rfl))).trans ((uJ_ne (show ¬ 13 = 10 from Nat.ne_of_beq_eq_false rfl)).trans (uJ_eq))).trans eb) (((uI_o (show ¬ (208 = 209 ∧ 14 = (Int.toNat ((wr ((I5 208 10) + 1)) % 6))) from fun e => absurd e.1 (Nat.ne_of_beq_eq_false rfl))).trans ((uJ_ne (show ¬ 14 = 10 from Nat.ne_of_beq_eq_false rfl)).trans ((uJ_ne (show ¬ 14 = 13 from Nat.ne_of_beq_eq_false rfl)).trans ((uJ_ne (show ¬ 14 = 8 from Nat.ne_of_beq_eq_false rfl)).trans (hW8 208 14 (by first | decide | omega)))))).trans (show (I 208 14) = il from by omega)) (((uI_o (show ¬ (208 = 209 ∧ 11 = (Int.toNat ((wr ((I5 208 10) + 1)) % 6))) from fun e => absurd e.1 (Nat.ne_of_beq_eq_false rfl))).trans ((uJ_ne (show ¬ 11 = 10 from Nat.ne_of_beq_eq_false rfl)).trans ((uJ_ne (show ¬ 11 = 13 from Nat.ne_of_beq_eq_false rfl)).trans ((uJ_ne (show ¬ 11 = 8 from Nat.ne_of_beq_eq_false rfl)).trans (hW8 208 11 (by first | decide | omega)))))).trans (show (I 208 11) = S 0 2 from by omega)) (((uI_o (show ¬ (208 = 209 ∧ 10 = (Int.toNat ((wr ((I5 208 10) + 1)) % 6))) from fun e => absurd e.1 (Nat.ne_of_beq_eq_false rfl))).trans (uJ_eq)).trans (show (wr ((I5 208 10) + 1)) = S 0 3 + 1 from by omega)) (((uI_o (show ¬ (208 = 209 ∧ 9 = (Int.toNat ((wr ((I5 208 10) + 1)) % 6))) from fun e => absurd e.1 (Nat.ne_of_beq_eq_false rfl))).trans ((uJ_ne (show ¬ 9 = 10 from Nat.ne_of_beq_eq_false rfl)).trans ((uJ_ne (show ¬ 9 = 13 from Nat.ne_of_beq_eq_false rfl)).trans (uJ_ne (show ¬ 9 = 8 from Nat.ne_of_beq_eq_false rfl))))).trans (show (I5 208 9) = hoF v0 S from by have k4 := hoF_c (act := v0) (S := S); omega)) (((uI_o (show ¬ (210 = 209 ∧ 2 = (Int.toNat ((wr ((I5 208 10) + 1)) % 6))) from fun e => absurd e.1 (Nat.ne_of_beq_eq_false rfl))).trans ((uI_o (show ¬ (210 = 208 ∧ 2 = 10) from fun e => absurd e.1 (Nat.ne_of_beq_eq_false rfl))).trans ((uI_o (show ¬ (210 = 208 ∧ 2 = 13) from fun e => absurd e.1 (Nat.ne_of_beq_eq_false rfl))).trans ((uI_o (show ¬ (210 = 208 ∧ 2 = 8) from fun e => absurd e.1 (Nat.ne_of_beq_eq_false rfl))).trans (hW8 210 2 (by first | decide | omega)))))).trans (show (I 210 2) = S 0 5 from by omega)) (fun i => ⟨(uI_o (show ¬ (211 = 209 ∧ i = (Int.toNat ((wr ((I5 208 10) + 1)) % 6))) from fun e => absurd e.1 (Nat.ne_of_beq_eq_false rfl))).trans ((uI_o (show ¬ (211 = 208 ∧ i = 10) from fun e => absurd e.1 (Nat.ne_of_beq_eq_false rfl))).trans ((uI_o (show ¬ (211 = 208 ∧ i = 13) from fun e => absurd e.1 (Nat.ne_of_beq_eq_false rfl))).trans ((uI_o (show ¬ (211 = 208 ∧ i = 8) from fun e => absurd e.1 (Nat.ne_of_beq_eq_false rfl))).trans (hW8 211 i (by omega))))), (uI_o (show ¬ (212 = 209 ∧ i = (Int.toNat ((wr ((I5 208 10) + 1)) % 6))) from fun e => absurd e.1 (Nat.ne_of_beq_eq_false rfl))).trans ((uI_o (show ¬ (212 = 208 ∧ i = 10) from fun e => absurd e.1 (Nat.ne_of_beq_eq_false rfl))).trans ((uI_o (show ¬ (212 = 208 ∧ i = 13) from fun e => absurd e.1 (Nat.ne_of_beq_eq_false rfl))).trans ((uI_o (show ¬ (212 = 208 ∧ i = 8) from fun e => absurd e.1 (Nat.ne_of_beq_eq_false rfl))).trans (hW8 212 i (by omega)))))⟩) ((uJ_eqj (show (Int.toNat (S 0 3 + 1) % 6) = (Int.toNat ((wr ((I5 208 10) + 1)) % 6)) from by omega)).trans el) (fun j hj => (uJ_ne (show ¬ j = (Int.toNat ((wr ((I5 208 10) + 1)) % 6)) from by omega)).trans ((uI_o (show ¬ (209 = 208 ∧ j = 10) from fun e => absurd e.1 (Nat.ne_of_beq_eq_false rfl))).trans ((uI_o (show ¬ (209 = 208 ∧ j = 13) from fun e => absurd e.1 (Nat.ne_of_beq_eq_false rfl))).trans ((uI_o (show ¬ (209 = 208 ∧ j = 8) from fun e => absurd e.1 (Nat.ne_of_beq_eq_false rfl))).trans (hW8 209 (j) (by omega)))))) (Or.inr ⟨by omega, rfl, fun i => ⟨rfl, rfl⟩⟩) (fun j => rfl) (fun j => rfl) (Or.inr ⟨by omega, by rw [← el]; exact qr136⟩) (fun j hj => hW135 208 j (by omega)) (fun j => hW135 209 j (by omega)) (hW135 210 2 (by first | decide | omega)) (fun i => ⟨hW135 211 i (by omega), hW135 212 i (by omega)⟩)))⟩
      ·
        refine ⟨⟨_, rfl, (by decide)⟩, ?_⟩
        have r137 : 0 ≤ (I 210 2) ∧ (I 210 2) ≤ 24 := (by omega)
        have u138 : (I5 210 2) = (I 210 2) := hW8 _ _ (by first | decide | omega)
        have a140 : -2147483648 ≤ (I5 210 2) ∧ (I5 210 2) < 2147483648 := hA7.1 _ _
        refine c_take10  hF (Rg.u (Rg.u (Rg.u (Rg.u hR6 (Pr_f rfl)) (Pr_f rfl)) (Pr_f rfl)) (Pr_p (k := 209) rfl _ _)) hq hp (CR9_f hc (fun j h1 h2 => (uI_o (show ¬ (208 = 209 ∧ j = (Int.toNat ((wr ((I5 208 10) + 1)) % 6))) from fun e => absurd e.1 (Nat.ne_of_beq_eq_false rfl))).trans ((uJ_ne (show ¬ j = 10 from by omega)).trans ((uJ_ne (show ¬ j = 13 from by omega)).trans ((uJ_ne (show ¬ j = 8 from by omega)).trans (hW8 208 j (by omega)))))) (fun j => (uI_o (show ¬ (q = 209 ∧ j = (Int.toNat ((wr ((I5 208 10) + 1)) % 6))) from by omega)).trans ((uI_o (show ¬ (q = 208 ∧ j = 10) from by omega)).trans ((uI_o (show ¬ (q = 208 ∧ j = 13) from by omega)).trans ((uI_o (show ¬ (q = 208 ∧ j = 8) from by omega)).trans (hW8 q j (by omega)))))) (fun j => (uI_o (show ¬ ((q + 1) = 209 ∧ j = (Int.toNat ((wr ((I5 208 10) + 1)) % 6))) from by omega)).trans ((uI_o (show ¬ ((q + 1) = 208 ∧ j = 10) from by omega)).trans ((uI_o (show ¬ ((q + 1) = 208 ∧ j = 13) from by omega)).trans ((uI_o (show ¬ ((q + 1) = 208 ∧ j = 8) from by omega)).trans (hW8 (q + 1) j (by omega))))))) hq2 (show 0 ≤ (wr ((I5 208 10) + 1)) ∧ (wr ((I5 208 10) + 1)) ≤ 20000000 from by first | omega | (simp only [wr, wl] at *; omega)) (show 0 ≤ (I5 210 2) ∧ (I5 210 2) ≤ 24 from by first | omega | (simp only [wr, wl] at *; omega)) (fun I141 hR142 hA143 hW144 qr145 => ?_)
        refine ⟨_, rfl, (by decide), ?_⟩
        have r146 : 0 ≤ (I 208 14) ∧ (I 208 14) ≤ 1 := (by omega)
        have u147 : (I5 208 14) = (I 208 14) := hW8 _ _ (by first | decide | omega)
        have a149 : -2147483648 ≤ (I5 208 14) ∧ (I5 208 14) < 2147483648 := hA7.1 _ _
        have u150 : (I141 208 14) = ((uI (uI (uI (uI I5 208 8 w16) 208 13 1) 208 10 (wr ((I5 208 10) + 1))) 209 (Int.toNat ((wr ((I5 208 10) + 1)) % 6)) vr121) 208 14) := hW144 _ _ (by first | decide | omega)
        have u151 : ((uI (uI (uI (uI I5 208 8 w16) 208 13 1) 208 10 (wr ((I5 208 10) + 1))) 209 (Int.toNat ((wr ((I5 208 10) + 1)) % 6)) vr121) 208 14) = (I5 208 14) := rfl
        have a152 : -2147483648 ≤ (I141 208 14) ∧ (I141 208 14) < 2147483648 := hA143.1 _ _
        refine ⟨fun (c153 : (¬ ((I141 208 14) : Int) = 0)) => ?_, fun (c153 : (((I141 208 14) : Int) = 0)) => ?_⟩
        ·
          exact ⟨rfl, fun hv hA' => hQ _ hR142 hA' (fun ka ja hk => ((hW144 ka ja (by omega))).trans (((uI_o (show ¬ (ka = 209 ∧ ja = (Int.toNat ((wr ((I5 208 10) + 1)) % 6))) from by omega))).trans (((uI_o (show ¬ (ka = 208 ∧ ja = 10) from by first | (intro e; obtain ⟨rfl, rfl⟩ := e; exact hk (by decide)) | omega))).trans (((uI_o (show ¬ (ka = 208 ∧ ja = 13) from by first | (intro e; obtain ⟨rfl, rfl⟩ := e; exact hk (by decide)) | omega))).trans (((uI_o (show ¬ (ka = 208 ∧ ja = 8) from by first | (intro e; obtain ⟨rfl, rfl⟩ := e; exact hk (by decide)) | omega))).trans ((hW8 ka ja (by omega)))))))) ((by
                              have e8 : w16 = xxF P v0 S := by have k2 := xxF_c (P := P) (act := v0) (S := S); omega
                              have eb : (1 : Int) = bF P v0 S := ((bF_c (P := P) (act := v0) (S := S)).1 (by omega)).symm
                              have el : vr121 = ldF ld P v0 S := by rw [(ldF_c (ld := ld) (P := P) (act := v0) (S := S)).1 (by omega), hl124]
                              exact MC_n (M := (uI (uI (uI (uI I5 208 8 w16) 208 13 1) 208 10 (wr ((I5 208 10) + 1))) 209 (Int.toNat ((wr ((I5 208 10) + 1)) % 6)) vr121)) (K := I141) hil hW hM hy hP.1 (((uI_o (show ¬ (208 = 209 ∧ 8 = (Int.toNat ((wr ((I5 208 10) + 1)) % 6))) from fun e => absurd e.1 (Nat.ne_of_beq_eq_false rfl))).trans ((uJ_ne (show ¬ 8 = 10 from Nat.ne_of_beq_eq_false rfl)).trans ((uJ_ne (show ¬ 8 = 13 from Nat.ne_of_beq_eq_false rfl)).trans (uJ_eq)))).trans e8) (((uI_o (show ¬ (208 = 209 ∧ 13 = (Int.toNat ((wr ((I5 208 10) + 1)) % 6))) from fun e => absurd e.1 (Nat.ne_of_beq_eq_false rfl))).trans ((uJ_ne (show ¬ 13 = 10 from Nat.ne_of_beq_eq_false rfl)).trans (uJ_eq))).trans eb) (((uI_o (show ¬ (208 = 209 ∧ 14 = (Int.toNat ((wr ((I5 208 10) + 1)) % 6))) from fun e => absurd e.1 (Nat.ne_of_beq_eq_false rfl))).trans ((uJ_ne (show ¬ 14 = 10 from Nat.ne_of_beq_eq_false rfl)).trans ((uJ_ne (show ¬ 14 = 13 from Nat.ne_of_beq_eq_false rfl)).trans ((uJ_ne (show ¬ 14 = 8 from Nat.ne_of_beq_eq_false rfl)).trans (hW8 208 14 (by first | decide | omega)))))).trans (show (I 208 14) = il from by omega)) (((uI_o (show ¬ (208 = 209 ∧ 11 = (Int.toNat ((wr ((I5 208 10) + 1)) % 6))) from fun e => absurd e.1 (Nat.ne_of_beq_eq_false rfl))).trans ((uJ_ne (show ¬ 11 = 10 from Nat.ne_of_beq_eq_false rfl)).trans ((uJ_ne (show ¬ 11 = 13 from Nat.ne_of_beq_eq_false rfl)).trans ((uJ_ne (show ¬ 11 = 8 from Nat.ne_of_beq_eq_false rfl)).trans (hW8 208 11 (by first | decide | omega)))))).trans (show (I 208 11) = S 0 2 from by omega)) (((uI_o (show ¬ (208 = 209 ∧ 10 = (Int.toNat ((wr ((I5 208 10) + 1)) % 6))) from fun e => absurd e.1 (Nat.ne_of_beq_eq_false rfl))).trans (uJ_eq)).trans (show (wr ((I5 208 10) + 1)) = S 0 3 + 1 from by omega)) (((uI_o (show ¬ (208 = 209 ∧ 9 = (Int.toNat ((wr ((I5 208 10) + 1)) % 6))) from fun e => absurd e.1 (Nat.ne_of_beq_eq_false rfl))).trans ((uJ_ne (show ¬ 9 = 10 from Nat.ne_of_beq_eq_false rfl)).trans ((uJ_ne (show ¬ 9 = 13 from Nat.ne_of_beq_eq_false rfl)).trans (uJ_ne (show ¬ 9 = 8 from Nat.ne_of_beq_eq_false rfl))))).trans (show (I5 208 9) = hoF v0 S from by have k4 := hoF_c (act := v0) (S := S); omega)) (((uI_o (show ¬ (210 = 209 ∧ 2 = (Int.toNat ((wr ((I5 208 10) + 1)) % 6))) from fun e => absurd e.1 (Nat.ne_of_beq_eq_false rfl))).trans ((uI_o (show ¬ (210 = 208 ∧ 2 = 10) from fun e => absurd e.1 (Nat.ne_of_beq_eq_false rfl))).trans ((uI_o (show ¬ (210 = 208 ∧ 2 = 13) from fun e => absurd e.1 (Nat.ne_of_beq_eq_false rfl))).trans ((uI_o (show ¬ (210 = 208 ∧ 2 = 8) from fun e => absurd e.1 (Nat.ne_of_beq_eq_false rfl))).trans (hW8 210 2 (by first | decide | omega)))))).trans (show (I 210 2) = S 0 5 from by omega)) (fun i => ⟨(uI_o (show ¬ (211 = 209 ∧ i = (Int.toNat ((wr ((I5 208 10) + 1)) % 6))) from fun e => absurd e.1 (Nat.ne_of_beq_eq_false rfl))).trans ((uI_o (show ¬ (211 = 208 ∧ i = 10) from fun e => absurd e.1 (Nat.ne_of_beq_eq_false rfl))).trans ((uI_o (show ¬ (211 = 208 ∧ i = 13) from fun e => absurd e.1 (Nat.ne_of_beq_eq_false rfl))).trans ((uI_o (show ¬ (211 = 208 ∧ i = 8) from fun e => absurd e.1 (Nat.ne_of_beq_eq_false rfl))).trans (hW8 211 i (by omega))))), (uI_o (show ¬ (212 = 209 ∧ i = (Int.toNat ((wr ((I5 208 10) + 1)) % 6))) from fun e => absurd e.1 (Nat.ne_of_beq_eq_false rfl))).trans ((uI_o (show ¬ (212 = 208 ∧ i = 10) from fun e => absurd e.1 (Nat.ne_of_beq_eq_false rfl))).trans ((uI_o (show ¬ (212 = 208 ∧ i = 13) from fun e => absurd e.1 (Nat.ne_of_beq_eq_false rfl))).trans ((uI_o (show ¬ (212 = 208 ∧ i = 8) from fun e => absurd e.1 (Nat.ne_of_beq_eq_false rfl))).trans (hW8 212 i (by omega)))))⟩) ((uJ_eqj (show (Int.toNat (S 0 3 + 1) % 6) = (Int.toNat ((wr ((I5 208 10) + 1)) % 6)) from by omega)).trans el) (fun j hj => (uJ_ne (show ¬ j = (Int.toNat ((wr ((I5 208 10) + 1)) % 6)) from by omega)).trans ((uI_o (show ¬ (209 = 208 ∧ j = 10) from fun e => absurd e.1 (Nat.ne_of_beq_eq_false rfl))).trans ((uI_o (show ¬ (209 = 208 ∧ j = 13) from fun e => absurd e.1 (Nat.ne_of_beq_eq_false rfl))).trans ((uI_o (show ¬ (209 = 208 ∧ j = 8) from fun e => absurd e.1 (Nat.ne_of_beq_eq_false rfl))).trans (hW8 209 (j) (by omega)))))) (Or.inl ⟨by omega, qr145⟩) (fun j => hW144 208 j (by omega)) (fun j => hW144 209 j (by omega)) (Or.inl ⟨by omega, rfl⟩) (fun j hj => rfl) (fun j => rfl) (rfl) (fun i => ⟨rfl, rfl⟩)))⟩
        ·
          refine ⟨⟨_, rfl, (by decide)⟩, ?_⟩
          refine c_ask10 (v0 := vr121) hF hR142 hq hp (CR9_f hc (fun j h1 h2 => (hW144 208 j (by omega)).trans ((uI_o (show ¬ (208 = 209 ∧ j = (Int.toNat ((wr ((I5 208 10) + 1)) % 6))) from fun e => absurd e.1 (Nat.ne_of_beq_eq_false rfl))).trans ((uJ_ne (show ¬ j = 10 from by omega)).trans ((uJ_ne (show ¬ j = 13 from by omega)).trans ((uJ_ne (show ¬ j = 8 from by omega)).trans (hW8 208 j (by omega))))))) (fun j => (hW144 q j (by omega)).trans ((uI_o (show ¬ (q = 209 ∧ j = (Int.toNat ((wr ((I5 208 10) + 1)) % 6))) from by omega)).trans ((uI_o (show ¬ (q = 208 ∧ j = 10) from by omega)).trans ((uI_o (show ¬ (q = 208 ∧ j = 13) from by omega)).trans ((uI_o (show ¬ (q = 208 ∧ j = 8) from by omega)).trans (hW8 q j (by omega))))))) (fun j => (hW144 (q + 1) j (by omega)).trans ((uI_o (show ¬ ((q + 1) = 209 ∧ j = (Int.toNat ((wr ((I5 208 10) + 1)) % 6))) from by omega)).trans ((uI_o (show ¬ ((q + 1) = 208 ∧ j = 10) from by omega)).trans ((uI_o (show ¬ ((q + 1) = 208 ∧ j = 13) from by omega)).trans ((uI_o (show ¬ ((q + 1) = 208 ∧ j = 8) from by omega)).trans (hW8 (q + 1) j (by omega)))))))) hq2 (fun I154 hR155 hA156 hW157 qr158 => ?_)
          exact ⟨rfl, fun hv hA' => hQ _ hR155 hA' (fun ka ja hk => ((hW157 ka ja (by omega))).trans (((hW144 ka ja (by omega))).trans (((uI_o (show ¬ (ka = 209 ∧ ja = (Int.toNat ((wr ((I5 208 10) + 1)) % 6))) from by omega))).trans (((uI_o (show ¬ (ka = 208 ∧ ja = 10) from by first | (intro e; obtain ⟨rfl, rfl⟩ := e; exact hk (by decide)) | omega))).trans (((uI_o (show ¬ (ka = 208 ∧ ja = 13) from by first | (intro e; obtain ⟨rfl, rfl⟩ := e; exact hk (by decide)) | omega))).trans (((uI_o (show ¬ (ka = 208 ∧ ja = 8) from by first | (intro e; obtain ⟨rfl, rfl⟩ := e; exact hk (by decide)) | omega))).trans ((hW8 ka ja (by omega))))))))) ((by
                              have e8 : w16 = xxF P v0 S := by have k2 := xxF_c (P := P) (act := v0) (S := S); omega
                              have eb : (1 : Int) = bF P v0 S := ((bF_c (P := P) (act := v0) (S := S)).1 (by omega)).symm
                              have el : vr121 = ldF ld P v0 S := by rw [(ldF_c (ld := ld) (P := P) (act := v0) (S := S)).1 (by omega), hl124]
                              exact MC_n (M := (uI (uI (uI (uI I5 208 8 w16) 208 13 1) 208 10 (wr ((I5 208 10) + 1))) 209 (Int.toNat ((wr ((I5 208 10) + 1)) % 6)) vr121)) (K := I141) hil hW hM hy hP.1 (((uI_o (show ¬ (208 = 209 ∧ 8 = (Int.toNat ((wr ((I5 208 10) + 1)) % 6))) from fun e => absurd e.1 (Nat.ne_of_beq_eq_false rfl))).trans ((uJ_ne (show ¬ 8 = 10 from Nat.ne_of_beq_eq_false rfl)).trans ((uJ_ne (show ¬ 8 = 13 from Nat.ne_of_beq_eq_false rfl)).trans (uJ_eq)))).trans e8) (((uI_o (show ¬ (208 = 209 ∧ 13 = (Int.toNat ((wr ((I5 208 10) + 1)) % 6))) from fun e => absurd e.1 (Nat.ne_of_beq_eq_false rfl))).trans ((uJ_ne (show ¬ 13 = 10 from Nat.ne_of_beq_eq_false rfl)).trans (uJ_eq))).trans eb) (((uI_o (show ¬ (208 = 209 ∧ 14 = (Int.toNat ((wr ((I5 208 10) + 1)) % 6))) from fun e => absurd e.1 (Nat.ne_of_beq_eq_false rfl))).trans ((uJ_ne (show ¬ 14 = 10 from Nat.ne_of_beq_eq_false rfl)).trans ((uJ_ne (show ¬ 14 = 13 from Nat.ne_of_beq_eq_false rfl)).trans ((uJ_ne (show ¬ 14 = 8 from Nat.ne_of_beq_eq_false rfl)).trans (hW8 208 14 (by first | decide | omega)))))).trans (show (I 208 14) = il from by omega)) (((uI_o (show ¬ (208 = 209 ∧ 11 = (Int.toNat ((wr ((I5 208 10) + 1)) % 6))) from fun e => absurd e.1 (Nat.ne_of_beq_eq_false rfl))).trans ((uJ_ne (show ¬ 11 = 10 from Nat.ne_of_beq_eq_false rfl)).trans ((uJ_ne (show ¬ 11 = 13 from Nat.ne_of_beq_eq_false rfl)).trans ((uJ_ne (show ¬ 11 = 8 from Nat.ne_of_beq_eq_false rfl)).trans (hW8 208 11 (by first | decide | omega)))))).trans (show (I 208 11) = S 0 2 from by omega)) (((uI_o (show ¬ (208 = 209 ∧ 10 = (Int.toNat ((wr ((I5 208 10) + 1)) % 6))) from fun e => absurd e.1 (Nat.ne_of_beq_eq_false rfl))).trans (uJ_eq)).trans (show (wr ((I5 208 10) + 1)) = S 0 3 + 1 from by omega)) (((uI_o (show ¬ (208 = 209 ∧ 9 = (Int.toNat ((wr ((I5 208 10) + 1)) % 6))) from fun e => absurd e.1 (Nat.ne_of_beq_eq_false rfl))).trans ((uJ_ne (show ¬ 9 = 10 from Nat.ne_of_beq_eq_false rfl)).trans ((uJ_ne (show ¬ 9 = 13 from Nat.ne_of_beq_eq_false rfl)).trans (uJ_ne (show ¬ 9 = 8 from Nat.ne_of_beq_eq_false rfl))))).trans (show (I5 208 9) = hoF v0 S from by have k4 := hoF_c (act := v0) (S := S); omega)) (((uI_o (show ¬ (210 = 209 ∧ 2 = (Int.toNat ((wr ((I5 208 10) + 1)) % 6))) from fun e => absurd e.1 (Nat.ne_of_beq_eq_false rfl))).trans ((uI_o (show ¬ (210 = 208 ∧ 2 = 10) from fun e => absurd e.1 (Nat.ne_of_beq_eq_false rfl))).trans ((uI_o (show ¬ (210 = 208 ∧ 2 = 13) from fun e => absurd e.1 (Nat.ne_of_beq_eq_false rfl))).trans ((uI_o (show ¬ (210 = 208 ∧ 2 = 8) from fun e => absurd e.1 (Nat.ne_of_beq_eq_false rfl))).trans (hW8 210 2 (by first | decide | omega)))))).trans (show (I 210 2) = S 0 5 from by omega)) (fun i => ⟨(uI_o (show ¬ (211 = 209 ∧ i = (Int.toNat ((wr ((I5 208 10) + 1)) % 6))) from fun e => absurd e.1 (Nat.ne_of_beq_eq_false rfl))).trans ((uI_o (show ¬ (211 = 208 ∧ i = 10) from fun e => absurd e.1 (Nat.ne_of_beq_eq_false rfl))).trans ((uI_o (show ¬ (211 = 208 ∧ i = 13) from fun e => absurd e.1 (Nat.ne_of_beq_eq_false rfl))).trans ((uI_o (show ¬ (211 = 208 ∧ i = 8) from fun e => absurd e.1 (Nat.ne_of_beq_eq_false rfl))).trans (hW8 211 i (by omega))))), (uI_o (show ¬ (212 = 209 ∧ i = (Int.toNat ((wr ((I5 208 10) + 1)) % 6))) from fun e => absurd e.1 (Nat.ne_of_beq_eq_false rfl))).trans ((uI_o (show ¬ (212 = 208 ∧ i = 10) from fun e => absurd e.1 (Nat.ne_of_beq_eq_false rfl))).trans ((uI_o (show ¬ (212 = 208 ∧ i = 13) from fun e => absurd e.1 (Nat.ne_of_beq_eq_false rfl))).trans ((uI_o (show ¬ (212 = 208 ∧ i = 8) from fun e => absurd e.1 (Nat.ne_of_beq_eq_false rfl))).trans (hW8 212 i (by omega)))))⟩) ((uJ_eqj (show (Int.toNat (S 0 3 + 1) % 6) = (Int.toNat ((wr ((I5 208 10) + 1)) % 6)) from by omega)).trans el) (fun j hj => (uJ_ne (show ¬ j = (Int.toNat ((wr ((I5 208 10) + 1)) % 6)) from by omega)).trans ((uI_o (show ¬ (209 = 208 ∧ j = 10) from fun e => absurd e.1 (Nat.ne_of_beq_eq_false rfl))).trans ((uI_o (show ¬ (209 = 208 ∧ j = 13) from fun e => absurd e.1 (Nat.ne_of_beq_eq_false rfl))).trans ((uI_o (show ¬ (209 = 208 ∧ j = 8) from fun e => absurd e.1 (Nat.ne_of_beq_eq_false rfl))).trans (hW8 209 (j) (by omega)))))) (Or.inl ⟨by omega, qr145⟩) (fun j => hW144 208 j (by omega)) (fun j => hW144 209 j (by omega)) (Or.inr ⟨by omega, by rw [← el]; exact qr158⟩) (fun j hj => hW157 208 j (by omega)) (fun j => hW157 209 j (by omega)) (hW157 210 2 (by first | decide | omega)) (fun i => ⟨hW157 211 i (by omega), hW157 212 i (by omega)⟩)))⟩
theorem c_wanted10 (hF : FS F) (hR : Rg I) {v0 v1 : Int} {q : Nat} (hq : F 208 2 = some q) (hp : PP F q) {ld : Int → Int} {P : Nat → Int} (hc : CR9 ld P q I) (hq2 : 20 ≤ q ∧ q + 4 < 90) {il : Int} {S : pI} (hv0 : 0 ≤ v0 ∧ v0 ≤ 5) (hM : MC il S I) (hW : WS S) (hB : S 0 3 ≤ 19400000) (hQ : ∀ r : Int, iR r → (0 ≤ r ∧ r ≤ 1) → ((r = 1 → wtF ld v0 v1 S) ∧ (r = 0 → ¬ wtF ld v0 v1 S)) → Q (some (vi r)) F I) : CallN G (d + 5) kX1_isWanted [vr 208, vi v0, vi v1] NP F I Q := by
  refine CallN_in (fun hok hA => CallN_out ?_)
  have iv0 : -2147483648 ≤ v0 ∧ v0 < 2147483648 := hok (vi v0) (by simp)
  have iv1 : -2147483648 ≤ v1 ∧ v1 < 2147483648 := hok (vi v1) (by simp)
  have hL := hc.1
  have hP := hc.2.1
  have hK := hc.2.2.1
  have h5 := hc.2.2.2.2.1
  have hM2 := hM
  obtain ⟨⟨m8, m13, m14, m11, m10, m9, m2⟩, ma, mr⟩ := hM2
  have hW2 := hW
  obtain ⟨wa, wb_, wc, wd⟩ := hW2
  refine Call_wp (lv := [some (vr 208), some (vi v0), some (vi v1)]) (by decide) ckX1_isWanted [] rfl rfl ?_
  refine ⟨fun (c1 : ((v0 : Int) = 1)) => ?_, fun (c1 : (¬ ((v0 : Int) = 1))) => ?_⟩
  ·
    refine ⟨⟨_, rfl, (by decide)⟩, ?_⟩
    refine c_mload10  hF hR hq hp hc hq2 (fun vr2 hr3 qr4 => ?_)
    have hr3 : -2147483648 ≤ vr2 ∧ vr2 < 2147483648 := hr3
    have r5 : 0 ≤ (I 208 13) ∧ (I 208 13) ≤ 1 := (by omega)
    have r6 : 0 ≤ (I 208 8) ∧ (I 208 8) ≤ 19400000 := (by omega)
    have hl7 : ((I 208 13) = 0 → vr2 = ld (I 208 8)) ∧ (¬ (I 208 13) = 0 → vr2 = 0) := qr4
    refine ⟨fun (c8 : ((v1 : Int) ≤ vr2)) => ?_, fun (c8 : (¬ ((v1 : Int) ≤ vr2))) => ?_⟩
    ·
      exact ⟨rfl, (by decide), fun hv hA' => hQ _ (hv _ rfl) (show 0 ≤ 0 ∧ 0 ≤ 1 from by decide) (⟨fun z => absurd z (by decide), fun _ z => (by
                              have y := z.1 (by omega)
                              by_cases b : S 0 1 = 1
                              · rw [if_pos b] at y; have q := hl7.2 (by omega); omega
                              · rw [if_neg b, ← m8] at y; have q := hl7.1 (by omega); omega)⟩)⟩
    ·
      exact ⟨rfl, (by decide), fun hv hA' => hQ _ (hv _ rfl) (show 0 ≤ 1 ∧ 1 ≤ 1 from by decide) (⟨fun _ => ⟨fun _ => (by
                              by_cases b : S 0 1 = 1
                              · rw [if_pos b]; have y := hl7.2 (by omega); omega
                              · rw [if_neg b, ← m8]; have y := hl7.1 (by omega); omega), fun e => absurd e (by omega)⟩, fun z => absurd z (by decide)⟩)⟩
  ·
    refine ⟨fun (c9 : ((v0 : Int) = 5)) => ?_, fun (c9 : (¬ ((v0 : Int) = 5))) => ?_⟩
    ·
      refine ⟨_, rfl, (by decide), ?_⟩
      have r10 : 0 ≤ (I 208 8) ∧ (I 208 8) ≤ 19400000 := (by omega)
      refine ⟨fun (c12 : ((v1 : Int) ≤ (I 208 8))) => ?_, fun (c12 : (¬ ((v1 : Int) ≤ (I 208 8)))) => ?_⟩
      ·
        exact ⟨rfl, (by decide), fun hv hA' => hQ _ (hv _ rfl) (show 0 ≤ 0 ∧ 0 ≤ 1 from by decide) (⟨fun z => absurd z (by decide), fun _ z => absurd (z.2 (by omega)) (by omega)⟩)⟩
      ·
        exact ⟨rfl, (by decide), fun hv hA' => hQ _ (hv _ rfl) (show 0 ≤ 1 ∧ 1 ≤ 1 from by decide) (⟨fun _ => ⟨fun e => absurd e (by omega), fun e => (by omega)⟩, fun z => absurd z (by decide)⟩)⟩
    ·
      exact ⟨rfl, (by decide), fun hv hA' => hQ _ (hv _ rfl) (show 0 ≤ 1 ∧ 1 ≤ 1 from by decide) (⟨fun _ => ⟨fun e => absurd e (by omega), fun e => (by omega)⟩, fun z => absurd z (by decide)⟩)⟩
theorem c_part10_l (hF : FS F) (hR : Rg I) {v0 v1 : Int} {q : Nat} (hq : F 208 2 = some q) (hp : PP F q) {ld : Int → Int} {P : Nat → Int} (hc : CR9 ld P q I) (hq2 : 20 ≤ q ∧ q + 4 < 90) {il : Int} {TT : pI} (hil : il = 0 ∨ il = 1) (hv0 : 0 ≤ v0 ∧ v0 ≤ 5) (B : Int) (hB : 0 ≤ B ∧ B ≤ 19000000) (hQ : ∀ (I' : pI), Rg I' → (∀ k j, ¬ ((k = 208 ∧ 8 ≤ j ∧ j ≤ 13 ∧ j ≠ 12) ∨ k = 209 ∨ (210 ≤ k ∧ k ≤ 212)) → I' k j = I k j) → (MC il TT I') → Q none F I') : ∀ (mz : Nat) (mo i : Int) (J : pI), Rg J → (∀ k j, ¬ ((k = 208 ∧ 8 ≤ j ∧ j ≤ 13 ∧ j ≠ 12) ∨ k = 209 ∨ (210 ≤ k ∧ k ≤ 212)) → J k j = I k j) → ((mo : Int) ≤ 300000) → ((0 : Int) ≤ i) → ((i : Int) ≤ 300000) → (∃ U : pI, MC il U J ∧ WS U ∧ U 0 3 ≤ B + i ∧ prtF ld P il v0 v1 (Int.toNat (mo - i)) U = TT) → (mo - i).toNat < mz → GoN G (d + 7) kX1_doPart NP NP 9 [some (vr 208), some (vi v0), some (vi v1), some (vi mo), some (vi i)] [] F J Q := by
  intro mz
  induction mz with
  | zero => intro mo i J hJ hV _ _ _ _ h; exact absurd h (Nat.not_lt_zero _)
  | succ mz ih =>
    intro mo i J hJ hV cc100 cc101 cc102 cc103 hm
    refine GoN_in (fun hok hA => ?_)
    have iiv0 : -2147483648 ≤ v0 ∧ v0 < 2147483648 := hok 1 _ rfl
    have iiv1 : -2147483648 ≤ v1 ∧ v1 < 2147483648 := hok 2 _ rfl
    have iimo : -2147483648 ≤ mo ∧ mo < 2147483648 := hok 3 _ rfl
    have iii : -2147483648 ≤ i ∧ i < 2147483648 := hok 4 _ rfl
    obtain ⟨U, hU, hW, hB2, hTT⟩ := cc103
    have hU2 := hU
    obtain ⟨⟨m8, m13, m14, m11, m10, m9, m2⟩, ma, mr⟩ := hU2
    refine Go_wp (by decide) ckX1_doPart [9] ?_
    refine ⟨fun (c1 : ((mo : Int) ≤ i)) => ?_, fun (c1 : (¬ ((mo : Int) ≤ i))) => ?_⟩
    ·
      exact ⟨rfl, hQ _ hJ (fun ka ja hk => (hV ka ja (by omega))) ((by
                              first | (exact ((prtF_e (Or.inl (by omega))).symm.trans hTT) ▸ hU) | (exact ((prtF_e (Or.inr (fun z => absurd z.1 (by omega)))).symm.trans hTT) ▸ hU)))⟩
    ·
      refine ⟨_, rfl, (by decide), ?_⟩
      have u2 : (J 208 14) = (I 208 14) := hV _ _ (by first | decide | omega)
      have a3 : -2147483648 ≤ (J 208 14) ∧ (J 208 14) < 2147483648 := hA.1 _ _
      have r4 : 0 ≤ (J 208 14) ∧ (J 208 14) ≤ 1 := (by omega)
      refine ⟨fun (c5 : (¬ ((J 208 14) : Int) = 0)) => ?_, fun (c5 : (((J 208 14) : Int) = 0)) => ?_⟩
      ·
        refine ⟨⟨_, rfl, (by decide)⟩, ?_⟩
        refine c_wanted10 (v0 := v0) (v1 := v1) hF hJ hq hp (CR9_f hc (fun j h1 h2 => hV 208 j (by omega)) (fun j => hV q j (by omega)) (fun j => hV (q + 1) j (by omega))) hq2 (by omega) hU hW (by omega) (fun vr6 hr7 q8 qr9 => ?_)
        have hr7 : -2147483648 ≤ vr6 ∧ vr6 < 2147483648 := hr7
        have q8 : 0 ≤ vr6 ∧ vr6 ≤ 1 := q8
        refine ⟨fun (c10 : ((vr6 : Int) = 0)) => ?_, fun (c10 : (¬ ((vr6 : Int) = 0))) => ?_⟩
        ·
          exact ⟨rfl, hQ _ hJ (fun ka ja hk => (hV ka ja (by omega))) ((by
                              exact ((prtF_e (Or.inr (fun z => qr9.2 (by omega) z.2))).symm.trans hTT) ▸ hU))⟩
        ·
          refine ⟨⟨_, rfl, (by decide)⟩, ?_⟩
          refine c_once10 (v0 := v0) hF hJ hq hp (CR9_f hc (fun j h1 h2 => hV 208 j (by omega)) (fun j => hV q j (by omega)) (fun j => hV (q + 1) j (by omega))) hq2 hil (by omega) hU hW (fun e => by omega) (by omega) (fun I11 hR12 hA13 hW14 qr15 => ?_)
          have n16 : (wr (i + 1)) = i + 1 := wr_id (show -2147483648 ≤ (i + 1 : Int) ∧ (i + 1 : Int) < 2147483648 from by omega)
          exact ih mo (wr (i + 1)) I11 hR12 (fun ka ja hk => ((hW14 ka ja (by omega))).trans ((hV ka ja (by omega)))) (show (mo : Int) ≤ 300000 from by first | with_reducible assumption | omega | (simp only [wr, wl] at *; omega)) (show (0 : Int) ≤ (wr (i + 1)) from by first | with_reducible assumption | omega | (simp only [wr, wl] at *; omega)) (show ((wr (i + 1)) : Int) ≤ 300000 from by first | with_reducible assumption | omega | (simp only [wr, wl] at *; omega)) ((by
                              have hs : (il = 1 ∨ U 0 2 = 0) ∧ wtF ld v0 v1 U := ⟨by omega, qr9.1 (by omega)⟩
                              rw [show Int.toNat (mo - i) = Int.toNat (mo - (wr (i + 1))) + 1 from by omega, prtF_s hs] at hTT
                              exact ⟨onc ld P il v0 U, qr15, WS_o hW, (show U 0 3 + 1 ≤ B + (wr (i + 1)) from by omega), hTT⟩)) (show (mo - (wr (i + 1))).toNat < mz from by omega)
      ·
        refine ⟨_, rfl, (by decide), ?_⟩
        have a17 : -2147483648 ≤ (J 208 11) ∧ (J 208 11) < 2147483648 := hA.1 _ _
        refine ⟨fun (c18 : (¬ ((J 208 11) : Int) = 0)) => ?_, fun (c18 : (((J 208 11) : Int) = 0)) => ?_⟩
        ·
          exact ⟨rfl, hQ _ hJ (fun ka ja hk => (hV ka ja (by omega))) ((by
                              first | (exact ((prtF_e (Or.inl (by omega))).symm.trans hTT) ▸ hU) | (exact ((prtF_e (Or.inr (fun z => absurd z.1 (by omega)))).symm.trans hTT) ▸ hU)))⟩
        ·
          refine ⟨⟨_, rfl, (by decide)⟩, ?_⟩
          refine c_wanted10 (v0 := v0) (v1 := v1) hF hJ hq hp (CR9_f hc (fun j h1 h2 => hV 208 j (by omega)) (fun j => hV q j (by omega)) (fun j => hV (q + 1) j (by omega))) hq2 (by omega) hU hW (by omega) (fun vr19 hr20 q21 qr22 => ?_)
          have hr20 : -2147483648 ≤ vr19 ∧ vr19 < 2147483648 := hr20
          have q21 : 0 ≤ vr19 ∧ vr19 ≤ 1 := q21
          refine ⟨fun (c23 : ((vr19 : Int) = 0)) => ?_, fun (c23 : (¬ ((vr19 : Int) = 0))) => ?_⟩
          ·
            exact ⟨rfl, hQ _ hJ (fun ka ja hk => (hV ka ja (by omega))) ((by
                              exact ((prtF_e (Or.inr (fun z => qr22.2 (by omega) z.2))).symm.trans hTT) ▸ hU))⟩
          ·
            refine ⟨⟨_, rfl, (by decide)⟩, ?_⟩
            refine c_once10 (v0 := v0) hF hJ hq hp (CR9_f hc (fun j h1 h2 => hV 208 j (by omega)) (fun j => hV q j (by omega)) (fun j => hV (q + 1) j (by omega))) hq2 hil (by omega) hU hW (fun e => by omega) (by omega) (fun I24 hR25 hA26 hW27 qr28 => ?_)
            have n29 : (wr (i + 1)) = i + 1 := wr_id (show -2147483648 ≤ (i + 1 : Int) ∧ (i + 1 : Int) < 2147483648 from by omega)
            exact ih mo (wr (i + 1)) I24 hR25 (fun ka ja hk => ((hW27 ka ja (by omega))).trans ((hV ka ja (by omega)))) (show (mo : Int) ≤ 300000 from by first | with_reducible assumption | omega | (simp only [wr, wl] at *; omega)) (show (0 : Int) ≤ (wr (i + 1)) from by first | with_reducible assumption | omega | (simp only [wr, wl] at *; omega)) (show ((wr (i + 1)) : Int) ≤ 300000 from by first | with_reducible assumption | omega | (simp only [wr, wl] at *; omega)) ((by
                              have hs : (il = 1 ∨ U 0 2 = 0) ∧ wtF ld v0 v1 U := ⟨by omega, qr22.1 (by omega)⟩
                              rw [show Int.toNat (mo - i) = Int.toNat (mo - (wr (i + 1))) + 1 from by omega, prtF_s hs] at hTT
                              exact ⟨onc ld P il v0 U, qr28, WS_o hW, (show U 0 3 + 1 ≤ B + (wr (i + 1)) from by omega), hTT⟩)) (show (mo - (wr (i + 1))).toNat < mz from by omega)
theorem c_part10 (hF : FS F) (hR : Rg I) {v0 v1 : Int} {q : Nat} (hq : F 208 2 = some q) (hp : PP F q) {ld : Int → Int} {P : Nat → Int} (hc : CR9 ld P q I) (hq2 : 20 ≤ q ∧ q + 4 < 90) {il : Int} {S : pI} (hil : il = 0 ∨ il = 1) (hv0 : 0 ≤ v0 ∧ v0 ≤ 5) (B : Int) (hB : 0 ≤ B ∧ B ≤ 19000000) (hn : v1 ≤ 300000) (hM : MC il S I) (hW : WS S) (hb : S 0 3 ≤ B) (hQ : ∀ (I' : pI), Rg I' → AR I' → (∀ k j, ¬ ((k = 208 ∧ 8 ≤ j ∧ j ≤ 13 ∧ j ≠ 12) ∨ k = 209 ∨ (210 ≤ k ∧ k ≤ 212)) → I' k j = I k j) → (MC il (doP ld P il v0 v1 S) I') → Q none F I') : CallN G (d + 7) kX1_doPart [vr 208, vi v0, vi v1] NP F I Q := by
  refine CallN_in (fun hok hA => CallN_out ?_)
  have iv0 : -2147483648 ≤ v0 ∧ v0 < 2147483648 := hok (vi v0) (by simp)
  have iv1 : -2147483648 ≤ v1 ∧ v1 < 2147483648 := hok (vi v1) (by simp)
  refine Call_wp (lv := [some (vr 208), some (vi v0), some (vi v1), none, none]) (by decide) ckX1_doPart [9] rfl rfl ?_
  refine Call_wp (lv := [some (vi v0), some (vi v1)]) (by decide) ckX1_timesAtMost [] rfl rfl ?_
  refine ⟨fun (c1 : ((v0 : Int) = 1)) => ?_, fun (c1 : (¬ ((v0 : Int) = 1))) => ?_⟩
  ·
    refine ⟨rfl, ?_⟩
    refine c_part10_l hF hR hq hp hc hq2 hil (by omega) B hB (fun I' g1 g2 g3 hv hA' => hQ _ g1 hA' g2 g3) _ 300 0 I hR (fun _ _ _ => rfl) (show ((300 : Int) : Int) ≤ 300000 from by first | with_reducible assumption | omega | (simp only [wr, wl] at *; omega)) (show (0 : Int) ≤ (0 : Int) from Int.le_refl _) (show ((0 : Int) : Int) ≤ 300000 from by first | with_reducible assumption | omega | (simp only [wr, wl] at *; omega)) ((by
                              refine ⟨S, hM, hW, by omega, ?_⟩
                              show prtF ld P il v0 v1 (Int.toNat (300 - 0)) S = doP ld P il v0 v1 S
                              unfold doP
                              congr 1
                              unfold tmF
                              first | (rw [if_pos (by omega)]; omega) | (rw [if_neg (by omega), if_pos (by omega)]; omega) | (rw [if_neg (by omega), if_neg (by omega)]; omega))) (Nat.lt_succ_self _)
  ·
    refine ⟨fun (c2 : ((v0 : Int) = 2)) => ?_, fun (c2 : (¬ ((v0 : Int) = 2))) => ?_⟩
    ·
      refine ⟨rfl, ?_⟩
      refine c_part10_l hF hR hq hp hc hq2 hil (by omega) B hB (fun I' g1 g2 g3 hv hA' => hQ _ g1 hA' g2 g3) _ v1 0 I hR (fun _ _ _ => rfl) (show (v1 : Int) ≤ 300000 from by first | with_reducible assumption | omega | (simp only [wr, wl] at *; omega)) (show (0 : Int) ≤ (0 : Int) from Int.le_refl _) (show ((0 : Int) : Int) ≤ 300000 from by first | with_reducible assumption | omega | (simp only [wr, wl] at *; omega)) ((by
                              refine ⟨S, hM, hW, by omega, ?_⟩
                              show prtF ld P il v0 v1 (Int.toNat (v1 - 0)) S = doP ld P il v0 v1 S
                              unfold doP
                              congr 1
                              unfold tmF
                              first | (rw [if_pos (by omega)]; omega) | (rw [if_neg (by omega), if_pos (by omega)]; omega) | (rw [if_neg (by omega), if_neg (by omega)]; omega))) (Nat.lt_succ_self _)
    ·
      refine ⟨fun (c3 : ((v0 : Int) = 3)) => ?_, fun (c3 : (¬ ((v0 : Int) = 3))) => ?_⟩
      ·
        refine ⟨rfl, ?_⟩
        refine c_part10_l hF hR hq hp hc hq2 hil (by omega) B hB (fun I' g1 g2 g3 hv hA' => hQ _ g1 hA' g2 g3) _ v1 0 I hR (fun _ _ _ => rfl) (show (v1 : Int) ≤ 300000 from by first | with_reducible assumption | omega | (simp only [wr, wl] at *; omega)) (show (0 : Int) ≤ (0 : Int) from Int.le_refl _) (show ((0 : Int) : Int) ≤ 300000 from by first | with_reducible assumption | omega | (simp only [wr, wl] at *; omega)) ((by
                              refine ⟨S, hM, hW, by omega, ?_⟩
                              show prtF ld P il v0 v1 (Int.toNat (v1 - 0)) S = doP ld P il v0 v1 S
                              unfold doP
                              congr 1
                              unfold tmF
                              first | (rw [if_pos (by omega)]; omega) | (rw [if_neg (by omega), if_pos (by omega)]; omega) | (rw [if_neg (by omega), if_neg (by omega)]; omega))) (Nat.lt_succ_self _)
      ·
        refine ⟨fun (c4 : ((v0 : Int) = 4)) => ?_, fun (c4 : (¬ ((v0 : Int) = 4))) => ?_⟩
        ·
          refine ⟨rfl, ?_⟩
          refine c_part10_l hF hR hq hp hc hq2 hil (by omega) B hB (fun I' g1 g2 g3 hv hA' => hQ _ g1 hA' g2 g3) _ 1 0 I hR (fun _ _ _ => rfl) (show ((1 : Int) : Int) ≤ 300000 from by first | with_reducible assumption | omega | (simp only [wr, wl] at *; omega)) (show (0 : Int) ≤ (0 : Int) from Int.le_refl _) (show ((0 : Int) : Int) ≤ 300000 from by first | with_reducible assumption | omega | (simp only [wr, wl] at *; omega)) ((by
                              refine ⟨S, hM, hW, by omega, ?_⟩
                              show prtF ld P il v0 v1 (Int.toNat (1 - 0)) S = doP ld P il v0 v1 S
                              unfold doP
                              congr 1
                              unfold tmF
                              first | (rw [if_pos (by omega)]; omega) | (rw [if_neg (by omega), if_pos (by omega)]; omega) | (rw [if_neg (by omega), if_neg (by omega)]; omega))) (Nat.lt_succ_self _)
        ·
          refine ⟨fun (c5 : ((v0 : Int) = 5)) => ?_, fun (c5 : (¬ ((v0 : Int) = 5))) => ?_⟩
          ·
            refine ⟨rfl, ?_⟩
            refine c_part10_l hF hR hq hp hc hq2 hil (by omega) B hB (fun I' g1 g2 g3 hv hA' => hQ _ g1 hA' g2 g3) _ 300 0 I hR (fun _ _ _ => rfl) (show ((300 : Int) : Int) ≤ 300000 from by first | with_reducible assumption | omega | (simp only [wr, wl] at *; omega)) (show (0 : Int) ≤ (0 : Int) from Int.le_refl _) (show ((0 : Int) : Int) ≤ 300000 from by first | with_reducible assumption | omega | (simp only [wr, wl] at *; omega)) ((by
                              refine ⟨S, hM, hW, by omega, ?_⟩
                              show prtF ld P il v0 v1 (Int.toNat (300 - 0)) S = doP ld P il v0 v1 S
                              unfold doP
                              congr 1
                              unfold tmF
                              first | (rw [if_pos (by omega)]; omega) | (rw [if_neg (by omega), if_pos (by omega)]; omega) | (rw [if_neg (by omega), if_neg (by omega)]; omega))) (Nat.lt_succ_self _)
          ·
            refine ⟨rfl, ?_⟩
            refine c_part10_l hF hR hq hp hc hq2 hil (by omega) B hB (fun I' g1 g2 g3 hv hA' => hQ _ g1 hA' g2 g3) _ v1 0 I hR (fun _ _ _ => rfl) (show (v1 : Int) ≤ 300000 from by first | with_reducible assumption | omega | (simp only [wr, wl] at *; omega)) (show (0 : Int) ≤ (0 : Int) from Int.le_refl _) (show ((0 : Int) : Int) ≤ 300000 from by first | with_reducible assumption | omega | (simp only [wr, wl] at *; omega)) ((by
                              refine ⟨S, hM, hW, by omega, ?_⟩
                              show prtF ld P il v0 v1 (Int.toNat (v1 - 0)) S = doP ld P il v0 v1 S
                              unfold doP
                              congr 1
                              unfold tmF
                              first | (rw [if_pos (by omega)]; omega) | (rw [if_neg (by omega), if_pos (by omega)]; omega) | (rw [if_neg (by omega), if_neg (by omega)]; omega))) (Nat.lt_succ_self _)
theorem c_perf10_l2 (hF : FS F) (hR : Rg I) {q : Nat} (hq : F 208 2 = some q) (hp : PP F q) {g : Nat} (hg : GP F g) (hn : g + 2 < 208) {ld : Int → Int} {P : Nat → Int} (hq2 : 20 ≤ q ∧ q + 4 < 90) (hpc : PC8 g I) {TT : pI} {EE : Int} (hQ : ∀ (I' : pI), Rg I' → (∀ k j, ¬ (208 ≤ k ∧ k ≤ 212) → I' k j = I k j) → (MC 1 TT I' ∧ I' 208 12 = EE) → Q none F I') : ∀ (mz : Nat) (p i : Int) (J : pI), Rg J → (∀ k j, ¬ (208 ≤ k ∧ k ≤ 212) → J k j = I k j) → ((0 : Int) ≤ i) → ((i : Int) ≤ 17) → ((J g 4) = I g 4) → (i ≤ (J g 4)) → (∃ U : pI, MC 1 U J ∧ WS U ∧ U 0 3 ≤ 5100000 + 300000 * i ∧ lsR ld P (I (g + 1)) (I (g + 2)) (Int.toNat (I g 4 - i)) (Int.toNat i) U = TT) → (J 208 12 = EE) → (CR9 ld P q J) → ((J g 4) - i).toNat < mz → GoN G (d + 8) kX1_perform NP NP 78 [some (vr 208), some (vr g), some (vr q), some (vr 1), some (vi p), some (vi i)] [] F J Q := by
  intro mz
  induction mz with
  | zero => intro p i J hJ hV _ _ _ _ _ _ _ h; exact absurd h (Nat.not_lt_zero _)
  | succ mz ih =>
    intro p i J hJ hV cc100 cc101 cc102 cc103 cc104 cc105 cc106 hm
    refine GoN_in (fun hok hA => ?_)
    have iip : -2147483648 ≤ p ∧ p < 2147483648 := hok 4 _ rfl
    have iii : -2147483648 ≤ i ∧ i < 2147483648 := hok 5 _ rfl
    obtain ⟨U, hU, hW, hB2, hTT⟩ := cc104
    have hU2 := hU
    obtain ⟨⟨m8, m13, m14, m11, m10, m9, m2⟩, ma, mr⟩ := hU2
    have hpp := hpc.1
    have hcJ := cc106
    have r1 : 0 ≤ (I g 4) ∧ (I g 4) ≤ 17 := (by omega)
    have u2 : (J g 4) = (I g 4) := hV _ _ (by first | decide | omega)
    have a3 : -2147483648 ≤ (J g 4) ∧ (J g 4) < 2147483648 := hA.1 _ _
    have r4 : 0 ≤ (J g 4) ∧ (J g 4) ≤ 17 := (by omega)
    refine Go_wp (by decide) ckX1_perform [78] ?_
    refine ⟨_, hg.1.1, (by have := hg.2; show _ < 254; omega), ?_⟩
    refine ⟨fun (c5 : (((J g 4) : Int) ≤ i)) => ?_, fun (c5 : (¬ (((J g 4) : Int) ≤ i))) => ?_⟩
    ·
      exact ⟨rfl, hQ _ hJ (fun ka ja hk => (hV ka ja (by omega))) ((by
                              have e : U = TT := by
                                rw [show Int.toNat (I g 4 - i) = 0 from by omega] at hTT; exact hTT
                              rw [← e]
                              exact ⟨hU, cc105⟩))⟩
    ·
      refine ⟨⟨_, hg.1.1, (by have := hg.2; show _ < 254; omega)⟩, ?_⟩
      refine Call_wp (lv := [some (vr g), some (vi i)]) (by decide) ckX5_actAt [] rfl rfl ?_
      refine ⟨fun c => absurd c (show (¬ ((i : Int) < 0)) from by first | omega | (simp only [wr, wl] at *; omega)), fun _ => ?_⟩
      refine ⟨fun c => absurd c (show (¬ ((32 : Int) ≤ i)) from by first | omega | (simp only [wr, wl] at *; omega)), fun _ => ?_⟩
      refine ⟨_, hg.1.1, (by have := hg.2; show _ < 254; omega), ?_⟩
      refine fun w0 hw0 => ?_; obtain rfl : w0 = some (g + 1) := hw0.symm.trans hg.1.2.2.2.2.1
      refine ⟨_, hg.1.2.1, (by have := hg.2; show _ < 254; omega), (show (0 : Int) ≤ i from by first | with_reducible assumption | omega | (simp only [wr, wl] at *; omega)), (show i < (32 : Int) from by first | with_reducible assumption | omega | (simp only [wr, wl] at *; omega)), ?_⟩
      have z6 := hpc.2 (Int.toNat i) (by omega)
      have u7 : (J (g + 1) (Int.toNat i)) = (I (g + 1) (Int.toNat i)) := hV _ _ (by first | decide | omega)
      have a8 : -2147483648 ≤ (J (g + 1) (Int.toNat i)) ∧ (J (g + 1) (Int.toNat i)) < 2147483648 := hA.1 _ _
      have z9 := hpc.2 (Int.toNat i) (by omega)
      refine ⟨rfl, ?_⟩
      refine ⟨⟨_, hg.1.1, (by have := hg.2; show _ < 254; omega)⟩, ?_⟩
      refine Call_wp (lv := [some (vr g), some (vi i)]) (by decide) ckX5_amountAt [] rfl rfl ?_
      refine ⟨fun c => absurd c (show (¬ ((i : Int) < 0)) from by first | omega | (simp only [wr, wl] at *; omega)), fun _ => ?_⟩
      refine ⟨fun c => absurd c (show (¬ ((32 : Int) ≤ i)) from by first | omega | (simp only [wr, wl] at *; omega)), fun _ => ?_⟩
      refine ⟨_, hg.1.1, (by have := hg.2; show _ < 254; omega), ?_⟩
      refine fun w0 hw0 => ?_; obtain rfl : w0 = some (g + 2) := hw0.symm.trans hg.1.2.2.2.2.2
      refine ⟨_, hg.1.2.2.1, (by have := hg.2; show _ < 254; omega), (show (0 : Int) ≤ i from by first | with_reducible assumption | omega | (simp only [wr, wl] at *; omega)), (show i < (32 : Int) from by first | with_reducible assumption | omega | (simp only [wr, wl] at *; omega)), ?_⟩
      have u10 : (J (g + 2) (Int.toNat i)) = (I (g + 2) (Int.toNat i)) := hV _ _ (by first | decide | omega)
      have a11 : -2147483648 ≤ (J (g + 2) (Int.toNat i)) ∧ (J (g + 2) (Int.toNat i)) < 2147483648 := hA.1 _ _
      refine ⟨rfl, ?_⟩
      refine ⟨⟨_, rfl, (by decide)⟩, ?_⟩
      refine c_part10 (v0 := (J (g + 1) (Int.toNat i))) (v1 := (J (g + 2) (Int.toNat i))) hF hJ hq hp hcJ hq2 (Or.inr rfl) (by omega) (5100000 + 300000 * i) (by omega) (by omega) hU hW (by omega) (fun I12 hR13 hA14 hW15 qr16 => ?_)
      have n17 : (wr (i + 1)) = i + 1 := wr_id (show -2147483648 ≤ (i + 1 : Int) ∧ (i + 1 : Int) < 2147483648 from by omega)
      have u18 : (I12 g 4) = (J g 4) := hW15 _ _ (by first | decide | omega)
      have a19 : -2147483648 ≤ (I12 g 4) ∧ (I12 g 4) < 2147483648 := hA14.1 _ _
      have r20 : 0 ≤ (I12 g 4) ∧ (I12 g 4) ≤ 17 := (by omega)
      exact ih p (wr (i + 1)) I12 hR13 (fun ka ja hk => ((hW15 ka ja (by omega))).trans ((hV ka ja (by omega)))) (show (0 : Int) ≤ (wr (i + 1)) from by first | rfl | omega) (show ((wr (i + 1)) : Int) ≤ 17 from by first | rfl | omega) (show (I12 g 4) = I g 4 from by first | rfl | omega) (show (wr (i + 1)) ≤ (I12 g 4) from by first | rfl | omega) ((by
                              have hr := qr16
                              rw [show (J (g + 1) (Int.toNat i)) = I (g + 1) (Int.toNat i) from by omega, show (J (g + 2) (Int.toNat i)) = I (g + 2) (Int.toNat i) from by omega] at hr
                              rw [show Int.toNat (I g 4 - i) = Int.toNat (I g 4 - (wr (i + 1))) + 1 from by omega] at hTT
                              have hz : lsR ld P (I (g + 1)) (I (g + 2)) (Int.toNat (I g 4 - (wr (i + 1)))) (Int.toNat i + 1) (doP ld P 1 (I (g + 1) (Int.toNat i)) (I (g + 2) (Int.toNat i)) U) = TT := hTT
                              rw [show Int.toNat i + 1 = Int.toNat (wr (i + 1)) from by omega] at hz
                              have hp := WS_d (ld := ld) (P := P) (il := 1) (act := I (g + 1) (Int.toNat i)) (amt := I (g + 2) (Int.toNat i)) hW (by omega)
                              have h2 := hp.2
                              have h3 : (doP ld P 1 (I (g + 1) (Int.toNat i)) (I (g + 2) (Int.toNat i)) U) 0 3 ≤ 5100000 + 300000 * (wr (i + 1)) := by omega
                              exact ⟨_, hr, hp.1, h3, hz⟩)) ((hW15 208 (12) (by omega)).trans cc105) (CR9_f hcJ (fun j h1 h2 => hW15 208 (j) (by omega)) (fun j => hW15 q (j) (by omega)) (fun j => hW15 (q + 1) (j) (by omega))) (show ((I12 g 4) - (wr (i + 1))).toNat < mz from by omega)
theorem c_perf10_l1 (hF : FS F) (hR : Rg I) {q : Nat} (hq : F 208 2 = some q) (hp : PP F q) {g : Nat} (hg : GP F g) (hn : g + 2 < 208) {ld : Int → Int} {P : Nat → Int} (hq2 : 20 ≤ q ∧ q + 4 < 90) (hpc : PC8 g I) (hQ : ∀ (I' : pI), Rg I' → (∀ k j, ¬ (208 ≤ k ∧ k ≤ 212) → I' k j = I k j) → (MC 1 (rnF ld P (I (g + 1)) (I (g + 2)) (Int.toNat (I g 3)) (Int.toNat (I g 4))) I' ∧ I' 208 12 = enF ld P (I (g + 1)) (I (g + 2)) (Int.toNat (I g 3))) → Q none F I') : ∀ (mz : Nat) (p : Int) (J : pI), Rg J → (∀ k j, ¬ (208 ≤ k ∧ k ≤ 212) → J k j = I k j) → ((0 : Int) ≤ p) → ((p : Int) ≤ 17) → ((J g 3) = I g 3) → (p ≤ (J g 3)) → (∃ U : pI, MC 0 U J ∧ WS U ∧ U 0 3 ≤ 300000 * p ∧ fsR ld P (I (g + 1)) (I (g + 2)) (Int.toNat (I g 3 - p)) (Int.toNat p) U = fsR ld P (I (g + 1)) (I (g + 2)) (Int.toNat (I g 3)) 0 S0) → (CR9 ld P q J) → ((J g 3) - p).toNat < mz → GoN G (d + 8) kX1_perform NP NP 9 [some (vr 208), some (vr g), some (vr q), some (vr 1), some (vi p), none] [] F J Q := by
  intro mz
  induction mz with
  | zero => intro p J hJ hV _ _ _ _ _ _ h; exact absurd h (Nat.not_lt_zero _)
  | succ mz ih =>
    intro p J hJ hV cc100 cc101 cc102 cc103 cc104 cc105 hm
    refine GoN_in (fun hok hA => ?_)
    have iip : -2147483648 ≤ p ∧ p < 2147483648 := hok 4 _ rfl
    obtain ⟨U, hU, hW, hB2, hTT⟩ := cc104
    have hU2 := hU
    obtain ⟨⟨m8, m13, m14, m11, m10, m9, m2⟩, ma, mr⟩ := hU2
    have hpp := hpc.1
    have hcJ := cc105
    have r1 : 0 ≤ (I g 3) ∧ (I g 3) ≤ 17 := (by omega)
    have u2 : (J g 3) = (I g 3) := hV _ _ (by first | decide | omega)
    have a3 : -2147483648 ≤ (J g 3) ∧ (J g 3) < 2147483648 := hA.1 _ _
    have r4 : 0 ≤ (J g 3) ∧ (J g 3) ≤ 17 := (by omega)
    refine Go_wp (by decide) ckX1_perform [9, 78] ?_
    refine ⟨_, hg.1.1, (by have := hg.2; show _ < 254; omega), ?_⟩
    refine ⟨fun (c5 : (((J g 3) : Int) ≤ p)) => ?_, fun (c5 : (¬ (((J g 3) : Int) ≤ p))) => ?_⟩
    ·
      refine ⟨_, rfl, (by decide), ?_⟩
      have a6 : -2147483648 ≤ (J 208 11) ∧ (J 208 11) < 2147483648 := hA.1 _ _
      refine ⟨fun (c7 : (¬ ((J 208 11) : Int) = 0)) => ?_, fun (c7 : (((J 208 11) : Int) = 0)) => ?_⟩
      ·
        refine ⟨_, rfl, (by decide), ?_⟩
        refine ⟨_, rfl, (by decide), (by decide), ?_⟩
        refine ⟨_, hg.1.1, (by have := hg.2; show _ < 254; omega), ?_⟩
        have u8 : ((uI (uI J 208 12 (wr (p - 1))) 208 14 1) g 3) = (J g 3) := (uI_o (fun e => absurd e.1 (lay_ne hg.1.1 (show lay 208 = (1, 15) from rfl) (by decide)))).trans (uI_o (fun e => absurd e.1 (lay_ne hg.1.1 (show lay 208 = (1, 15) from rfl) (by decide))))
        have hend : fsR ld P (I (g + 1)) (I (g + 2)) (Int.toNat (I g 3)) 0 S0 = (U, Int.toNat p) := hTT.symm.trans (by first | (exact fsR_e (Or.inl (by omega))) | (exact fsR_e (Or.inr (by omega))))
        have r9 : 0 ≤ (I g 4) ∧ (I g 4) ≤ 17 := (by omega)
        have u10 : (J g 4) = (I g 4) := hV _ _ (by first | decide | omega)
        have a11 : -2147483648 ≤ (J g 4) ∧ (J g 4) < 2147483648 := hA.1 _ _
        have r12 : 0 ≤ (J g 4) ∧ (J g 4) ≤ 17 := (by omega)
        have u13 : ((uI (uI J 208 12 (wr (p - 1))) 208 14 1) g 4) = (J g 4) := (uI_o (fun e => absurd e.1 (lay_ne hg.1.1 (show lay 208 = (1, 15) from rfl) (by decide)))).trans (uI_o (fun e => absurd e.1 (lay_ne hg.1.1 (show lay 208 = (1, 15) from rfl) (by decide))))
        refine c_perf10_l2 hF hR hq hp hg hn hq2 hpc (TT := rnF ld P (I (g + 1)) (I (g + 2)) (Int.toNat (I g 3)) (Int.toNat (I g 4))) (EE := enF ld P (I (g + 1)) (I (g + 2)) (Int.toNat (I g 3))) hQ _ p ((uI (uI J 208 12 (wr (p - 1))) 208 14 1) g 3) (uI (uI J 208 12 (wr (p - 1))) 208 14 1) (Rg.u (Rg.u hJ (Pr_f rfl)) (Pr_f rfl)) (fun ka ja hk => ((uI_o (show ¬ (ka = 208 ∧ ja = 14) from by first | (intro e; obtain ⟨rfl, rfl⟩ := e; exact hk (by decide)) | omega))).trans (((uI_o (show ¬ (ka = 208 ∧ ja = 12) from by first | (intro e; obtain ⟨rfl, rfl⟩ := e; exact hk (by decide)) | omega))).trans ((hV ka ja (by omega))))) (show (0 : Int) ≤ ((uI (uI J 208 12 (wr (p - 1))) 208 14 1) g 3) from by first | rfl | omega) (show (((uI (uI J 208 12 (wr (p - 1))) 208 14 1) g 3) : Int) ≤ 17 from by first | rfl | omega) (show ((uI (uI J 208 12 (wr (p - 1))) 208 14 1) g 4) = I g 4 from by first | rfl | omega) (show ((uI (uI J 208 12 (wr (p - 1))) 208 14 1) g 3) ≤ ((uI (uI J 208 12 (wr (p - 1))) 208 14 1) g 4) from by first | rfl | omega) ((by
                              refine ⟨U, ⟨⟨((uJ_ne (show ¬ 8 = 14 from Nat.ne_of_beq_eq_false rfl)).trans (uJ_ne (show ¬ 8 = 12 from Nat.ne_of_beq_eq_false rfl))).trans m8, ((uJ_ne (show ¬ 13 = 14 from Nat.ne_of_beq_eq_false rfl)).trans (uJ_ne (show ¬ 13 = 12 from Nat.ne_of_beq_eq_false rfl))).trans m13, uJ_eq, ((uJ_ne (show ¬ 11 = 14 from Nat.ne_of_beq_eq_false rfl)).trans (uJ_ne (show ¬ 11 = 12 from Nat.ne_of_beq_eq_false rfl))).trans m11, ((uJ_ne (show ¬ 10 = 14 from Nat.ne_of_beq_eq_false rfl)).trans (uJ_ne (show ¬ 10 = 12 from Nat.ne_of_beq_eq_false rfl))).trans m10, ((uJ_ne (show ¬ 9 = 14 from Nat.ne_of_beq_eq_false rfl)).trans (uJ_ne (show ¬ 9 = 12 from Nat.ne_of_beq_eq_false rfl))).trans m9, ((uI_o (show ¬ (210 = 208 ∧ 2 = 14) from fun e => absurd e.1 (Nat.ne_of_beq_eq_false rfl))).trans (uI_o (show ¬ (210 = 208 ∧ 2 = 12) from fun e => absurd e.1 (Nat.ne_of_beq_eq_false rfl)))).trans m2⟩, fun i hi => ?_, fun t h1 h2 h3 => ?_⟩, hW, by omega, ?_⟩
                              · have z := ma i hi
                                exact ⟨((uI_o (show ¬ (211 = 208 ∧ i = 14) from fun e => absurd e.1 (Nat.ne_of_beq_eq_false rfl))).trans (uI_o (show ¬ (211 = 208 ∧ i = 12) from fun e => absurd e.1 (Nat.ne_of_beq_eq_false rfl)))).trans z.1, ((uI_o (show ¬ (212 = 208 ∧ i = 14) from fun e => absurd e.1 (Nat.ne_of_beq_eq_false rfl))).trans (uI_o (show ¬ (212 = 208 ∧ i = 12) from fun e => absurd e.1 (Nat.ne_of_beq_eq_false rfl)))).trans z.2⟩
                              · exact ((uI_o (show ¬ (209 = 208 ∧ (t % 6) = 14) from fun e => absurd e.1 (Nat.ne_of_beq_eq_false rfl))).trans (uI_o (show ¬ (209 = 208 ∧ (t % 6) = 12) from fun e => absurd e.1 (Nat.ne_of_beq_eq_false rfl)))).trans (mr t h1 h2 h3)
                              unfold rnF
                              rw [hend]
                              congr 1 <;> omega)) ((by
                              refine ((uJ_ne (show ¬ 12 = 14 from Nat.ne_of_beq_eq_false rfl)).trans (uJ_eq)).trans (show (wr (p - 1)) = enF ld P (I (g + 1)) (I (g + 2)) (Int.toNat (I g 3)) from ?_)
                              have hz : wr (p - 1) = p - 1 := wr_id (by unfold iR; omega)
                              unfold enF
                              rw [hend]
                              show (wr (p - 1)) = if U 0 2 = 0 then ((Int.toNat p : Nat) : Int) else ((Int.toNat p : Nat) : Int) - 1
                              first | (rw [if_pos (by omega)]; omega) | (rw [if_neg (by omega)]; omega))) (CR9_f hcJ (fun j h1 h2 => (uJ_ne (show ¬ j = 14 from by omega)).trans (uJ_ne (show ¬ j = 12 from by omega))) (fun j => (uI_o (show ¬ (q = 208 ∧ j = 14) from by omega)).trans (uI_o (show ¬ (q = 208 ∧ j = 12) from by omega))) (fun j => (uI_o (show ¬ ((q + 1) = 208 ∧ j = 14) from by omega)).trans (uI_o (show ¬ ((q + 1) = 208 ∧ j = 12) from by omega)))) (Nat.lt_succ_self _)
      ·
        refine ⟨_, rfl, (by decide), ?_⟩
        refine ⟨_, rfl, (by decide), (by decide), ?_⟩
        refine ⟨_, hg.1.1, (by have := hg.2; show _ < 254; omega), ?_⟩
        have u14 : ((uI (uI J 208 12 p) 208 14 1) g 3) = (J g 3) := (uI_o (fun e => absurd e.1 (lay_ne hg.1.1 (show lay 208 = (1, 15) from rfl) (by decide)))).trans (uI_o (fun e => absurd e.1 (lay_ne hg.1.1 (show lay 208 = (1, 15) from rfl) (by decide))))
        have hend : fsR ld P (I (g + 1)) (I (g + 2)) (Int.toNat (I g 3)) 0 S0 = (U, Int.toNat p) := hTT.symm.trans (by first | (exact fsR_e (Or.inl (by omega))) | (exact fsR_e (Or.inr (by omega))))
        have r15 : 0 ≤ (I g 4) ∧ (I g 4) ≤ 17 := (by omega)
        have u16 : (J g 4) = (I g 4) := hV _ _ (by first | decide | omega)
        have a17 : -2147483648 ≤ (J g 4) ∧ (J g 4) < 2147483648 := hA.1 _ _
        have r18 : 0 ≤ (J g 4) ∧ (J g 4) ≤ 17 := (by omega)
        have u19 : ((uI (uI J 208 12 p) 208 14 1) g 4) = (J g 4) := (uI_o (fun e => absurd e.1 (lay_ne hg.1.1 (show lay 208 = (1, 15) from rfl) (by decide)))).trans (uI_o (fun e => absurd e.1 (lay_ne hg.1.1 (show lay 208 = (1, 15) from rfl) (by decide))))
        refine c_perf10_l2 hF hR hq hp hg hn hq2 hpc (TT := rnF ld P (I (g + 1)) (I (g + 2)) (Int.toNat (I g 3)) (Int.toNat (I g 4))) (EE := enF ld P (I (g + 1)) (I (g + 2)) (Int.toNat (I g 3))) hQ _ p ((uI (uI J 208 12 p) 208 14 1) g 3) (uI (uI J 208 12 p) 208 14 1) (Rg.u (Rg.u hJ (Pr_f rfl)) (Pr_f rfl)) (fun ka ja hk => ((uI_o (show ¬ (ka = 208 ∧ ja = 14) from by first | (intro e; obtain ⟨rfl, rfl⟩ := e; exact hk (by decide)) | omega))).trans (((uI_o (show ¬ (ka = 208 ∧ ja = 12) from by first | (intro e; obtain ⟨rfl, rfl⟩ := e; exact hk (by decide)) | omega))).trans ((hV ka ja (by omega))))) (show (0 : Int) ≤ ((uI (uI J 208 12 p) 208 14 1) g 3) from by first | rfl | omega) (show (((uI (uI J 208 12 p) 208 14 1) g 3) : Int) ≤ 17 from by first | rfl | omega) (show ((uI (uI J 208 12 p) 208 14 1) g 4) = I g 4 from by first | rfl | omega) (show ((uI (uI J 208 12 p) 208 14 1) g 3) ≤ ((uI (uI J 208 12 p) 208 14 1) g 4) from by first | rfl | omega) ((by
                              refine ⟨U, ⟨⟨((uJ_ne (show ¬ 8 = 14 from Nat.ne_of_beq_eq_false rfl)).trans (uJ_ne (show ¬ 8 = 12 from Nat.ne_of_beq_eq_false rfl))).trans m8, ((uJ_ne (show ¬ 13 = 14 from Nat.ne_of_beq_eq_false rfl)).trans (uJ_ne (show ¬ 13 = 12 from Nat.ne_of_beq_eq_false rfl))).trans m13, uJ_eq, ((uJ_ne (show ¬ 11 = 14 from Nat.ne_of_beq_eq_false rfl)).trans (uJ_ne (show ¬ 11 = 12 from Nat.ne_of_beq_eq_false rfl))).trans m11, ((uJ_ne (show ¬ 10 = 14 from Nat.ne_of_beq_eq_false rfl)).trans (uJ_ne (show ¬ 10 = 12 from Nat.ne_of_beq_eq_false rfl))).trans m10, ((uJ_ne (show ¬ 9 = 14 from Nat.ne_of_beq_eq_false rfl)).trans (uJ_ne (show ¬ 9 = 12 from Nat.ne_of_beq_eq_false rfl))).trans m9, ((uI_o (show ¬ (210 = 208 ∧ 2 = 14) from fun e => absurd e.1 (Nat.ne_of_beq_eq_false rfl))).trans (uI_o (show ¬ (210 = 208 ∧ 2 = 12) from fun e => absurd e.1 (Nat.ne_of_beq_eq_false rfl)))).trans m2⟩, fun i hi => ?_, fun t h1 h2 h3 => ?_⟩, hW, by omega, ?_⟩
                              · have z := ma i hi
                                exact ⟨((uI_o (show ¬ (211 = 208 ∧ i = 14) from fun e => absurd e.1 (Nat.ne_of_beq_eq_false rfl))).trans (uI_o (show ¬ (211 = 208 ∧ i = 12) from fun e => absurd e.1 (Nat.ne_of_beq_eq_false rfl)))).trans z.1, ((uI_o (show ¬ (212 = 208 ∧ i = 14) from fun e => absurd e.1 (Nat.ne_of_beq_eq_false rfl))).trans (uI_o (show ¬ (212 = 208 ∧ i = 12) from fun e => absurd e.1 (Nat.ne_of_beq_eq_false rfl)))).trans z.2⟩
                              · exact ((uI_o (show ¬ (209 = 208 ∧ (t % 6) = 14) from fun e => absurd e.1 (Nat.ne_of_beq_eq_false rfl))).trans (uI_o (show ¬ (209 = 208 ∧ (t % 6) = 12) from fun e => absurd e.1 (Nat.ne_of_beq_eq_false rfl)))).trans (mr t h1 h2 h3)
                              unfold rnF
                              rw [hend]
                              congr 1 <;> omega)) ((by
                              refine ((uJ_ne (show ¬ 12 = 14 from Nat.ne_of_beq_eq_false rfl)).trans (uJ_eq)).trans (show p = enF ld P (I (g + 1)) (I (g + 2)) (Int.toNat (I g 3)) from ?_)
                              have hz : wr (p - 1) = p - 1 := wr_id (by unfold iR; omega)
                              unfold enF
                              rw [hend]
                              show p = if U 0 2 = 0 then ((Int.toNat p : Nat) : Int) else ((Int.toNat p : Nat) : Int) - 1
                              first | (rw [if_pos (by omega)]; omega) | (rw [if_neg (by omega)]; omega))) (CR9_f hcJ (fun j h1 h2 => (uJ_ne (show ¬ j = 14 from by omega)).trans (uJ_ne (show ¬ j = 12 from by omega))) (fun j => (uI_o (show ¬ (q = 208 ∧ j = 14) from by omega)).trans (uI_o (show ¬ (q = 208 ∧ j = 12) from by omega))) (fun j => (uI_o (show ¬ ((q + 1) = 208 ∧ j = 14) from by omega)).trans (uI_o (show ¬ ((q + 1) = 208 ∧ j = 12) from by omega)))) (Nat.lt_succ_self _)
    ·
      refine ⟨_, rfl, (by decide), ?_⟩
      have a20 : -2147483648 ≤ (J 208 11) ∧ (J 208 11) < 2147483648 := hA.1 _ _
      refine ⟨fun (c21 : (¬ ((J 208 11) : Int) = 0)) => ?_, fun (c21 : (((J 208 11) : Int) = 0)) => ?_⟩
      ·
        refine ⟨_, rfl, (by decide), ?_⟩
        refine ⟨fun _ => ?_, fun c => absurd c (show (¬ ((J 208 11) : Int) = 0) from by first | omega | (simp only [wr, wl] at *; omega))⟩
        refine ⟨_, rfl, (by decide), ?_⟩
        refine ⟨_, rfl, (by decide), (by decide), ?_⟩
        refine ⟨_, hg.1.1, (by have := hg.2; show _ < 254; omega), ?_⟩
        have u22 : ((uI (uI J 208 12 (wr (p - 1))) 208 14 1) g 3) = (J g 3) := (uI_o (fun e => absurd e.1 (lay_ne hg.1.1 (show lay 208 = (1, 15) from rfl) (by decide)))).trans (uI_o (fun e => absurd e.1 (lay_ne hg.1.1 (show lay 208 = (1, 15) from rfl) (by decide))))
        have hend : fsR ld P (I (g + 1)) (I (g + 2)) (Int.toNat (I g 3)) 0 S0 = (U, Int.toNat p) := hTT.symm.trans (by first | (exact fsR_e (Or.inl (by omega))) | (exact fsR_e (Or.inr (by omega))))
        have r23 : 0 ≤ (I g 4) ∧ (I g 4) ≤ 17 := (by omega)
        have u24 : (J g 4) = (I g 4) := hV _ _ (by first | decide | omega)
        have a25 : -2147483648 ≤ (J g 4) ∧ (J g 4) < 2147483648 := hA.1 _ _
        have r26 : 0 ≤ (J g 4) ∧ (J g 4) ≤ 17 := (by omega)
        have u27 : ((uI (uI J 208 12 (wr (p - 1))) 208 14 1) g 4) = (J g 4) := (uI_o (fun e => absurd e.1 (lay_ne hg.1.1 (show lay 208 = (1, 15) from rfl) (by decide)))).trans (uI_o (fun e => absurd e.1 (lay_ne hg.1.1 (show lay 208 = (1, 15) from rfl) (by decide))))
        refine c_perf10_l2 hF hR hq hp hg hn hq2 hpc (TT := rnF ld P (I (g + 1)) (I (g + 2)) (Int.toNat (I g 3)) (Int.toNat (I g 4))) (EE := enF ld P (I (g + 1)) (I (g + 2)) (Int.toNat (I g 3))) hQ _ p ((uI (uI J 208 12 (wr (p - 1))) 208 14 1) g 3) (uI (uI J 208 12 (wr (p - 1))) 208 14 1) (Rg.u (Rg.u hJ (Pr_f rfl)) (Pr_f rfl)) (fun ka ja hk => ((uI_o (show ¬ (ka = 208 ∧ ja = 14) from by first | (intro e; obtain ⟨rfl, rfl⟩ := e; exact hk (by decide)) | omega))).trans (((uI_o (show ¬ (ka = 208 ∧ ja = 12) from by first | (intro e; obtain ⟨rfl, rfl⟩ := e; exact hk (by decide)) | omega))).trans ((hV ka ja (by omega))))) (show (0 : Int) ≤ ((uI (uI J 208 12 (wr (p - 1))) 208 14 1) g 3) from by first | rfl | omega) (show (((uI (uI J 208 12 (wr (p - 1))) 208 14 1) g 3) : Int) ≤ 17 from by first | rfl | omega) (show ((uI (uI J 208 12 (wr (p - 1))) 208 14 1) g 4) = I g 4 from by first | rfl | omega) (show ((uI (uI J 208 12 (wr (p - 1))) 208 14 1) g 3) ≤ ((uI (uI J 208 12 (wr (p - 1))) 208 14 1) g 4) from by first | rfl | omega) ((by
                              refine ⟨U, ⟨⟨((uJ_ne (show ¬ 8 = 14 from Nat.ne_of_beq_eq_false rfl)).trans (uJ_ne (show ¬ 8 = 12 from Nat.ne_of_beq_eq_false rfl))).trans m8, ((uJ_ne (show ¬ 13 = 14 from Nat.ne_of_beq_eq_false rfl)).trans (uJ_ne (show ¬ 13 = 12 from Nat.ne_of_beq_eq_false rfl))).trans m13, uJ_eq, ((uJ_ne (show ¬ 11 = 14 from Nat.ne_of_beq_eq_false rfl)).trans (uJ_ne (show ¬ 11 = 12 from Nat.ne_of_beq_eq_false rfl))).trans m11, ((uJ_ne (show ¬ 10 = 14 from Nat.ne_of_beq_eq_false rfl)).trans (uJ_ne (show ¬ 10 = 12 from Nat.ne_of_beq_eq_false rfl))).trans m10, ((uJ_ne (show ¬ 9 = 14 from Nat.ne_of_beq_eq_false rfl)).trans (uJ_ne (show ¬ 9 = 12 from Nat.ne_of_beq_eq_false rfl))).trans m9, ((uI_o (show ¬ (210 = 208 ∧ 2 = 14) from fun e => absurd e.1 (Nat.ne_of_beq_eq_false rfl))).trans (uI_o (show ¬ (210 = 208 ∧ 2 = 12) from fun e => absurd e.1 (Nat.ne_of_beq_eq_false rfl)))).trans m2⟩, fun i hi => ?_, fun t h1 h2 h3 => ?_⟩, hW, by omega, ?_⟩
                              · have z := ma i hi
                                exact ⟨((uI_o (show ¬ (211 = 208 ∧ i = 14) from fun e => absurd e.1 (Nat.ne_of_beq_eq_false rfl))).trans (uI_o (show ¬ (211 = 208 ∧ i = 12) from fun e => absurd e.1 (Nat.ne_of_beq_eq_false rfl)))).trans z.1, ((uI_o (show ¬ (212 = 208 ∧ i = 14) from fun e => absurd e.1 (Nat.ne_of_beq_eq_false rfl))).trans (uI_o (show ¬ (212 = 208 ∧ i = 12) from fun e => absurd e.1 (Nat.ne_of_beq_eq_false rfl)))).trans z.2⟩
                              · exact ((uI_o (show ¬ (209 = 208 ∧ (t % 6) = 14) from fun e => absurd e.1 (Nat.ne_of_beq_eq_false rfl))).trans (uI_o (show ¬ (209 = 208 ∧ (t % 6) = 12) from fun e => absurd e.1 (Nat.ne_of_beq_eq_false rfl)))).trans (mr t h1 h2 h3)
                              unfold rnF
                              rw [hend]
                              congr 1 <;> omega)) ((by
                              refine ((uJ_ne (show ¬ 12 = 14 from Nat.ne_of_beq_eq_false rfl)).trans (uJ_eq)).trans (show (wr (p - 1)) = enF ld P (I (g + 1)) (I (g + 2)) (Int.toNat (I g 3)) from ?_)
                              have hz : wr (p - 1) = p - 1 := wr_id (by unfold iR; omega)
                              unfold enF
                              rw [hend]
                              show (wr (p - 1)) = if U 0 2 = 0 then ((Int.toNat p : Nat) : Int) else ((Int.toNat p : Nat) : Int) - 1
                              first | (rw [if_pos (by omega)]; omega) | (rw [if_neg (by omega)]; omega))) (CR9_f hcJ (fun j h1 h2 => (uJ_ne (show ¬ j = 14 from by omega)).trans (uJ_ne (show ¬ j = 12 from by omega))) (fun j => (uI_o (show ¬ (q = 208 ∧ j = 14) from by omega)).trans (uI_o (show ¬ (q = 208 ∧ j = 12) from by omega))) (fun j => (uI_o (show ¬ ((q + 1) = 208 ∧ j = 14) from by omega)).trans (uI_o (show ¬ ((q + 1) = 208 ∧ j = 12) from by omega)))) (Nat.lt_succ_self _)
      ·
        refine ⟨⟨_, hg.1.1, (by have := hg.2; show _ < 254; omega)⟩, ?_⟩
        refine Call_wp (lv := [some (vr g), some (vi p)]) (by decide) ckX5_actAt [] rfl rfl ?_
        refine ⟨fun c => absurd c (show (¬ ((p : Int) < 0)) from by first | omega | (simp only [wr, wl] at *; omega)), fun _ => ?_⟩
        refine ⟨fun c => absurd c (show (¬ ((32 : Int) ≤ p)) from by first | omega | (simp only [wr, wl] at *; omega)), fun _ => ?_⟩
        refine ⟨_, hg.1.1, (by have := hg.2; show _ < 254; omega), ?_⟩
        refine fun w0 hw0 => ?_; obtain rfl : w0 = some (g + 1) := hw0.symm.trans hg.1.2.2.2.2.1
        refine ⟨_, hg.1.2.1, (by have := hg.2; show _ < 254; omega), (show (0 : Int) ≤ p from by first | with_reducible assumption | omega | (simp only [wr, wl] at *; omega)), (show p < (32 : Int) from by first | with_reducible assumption | omega | (simp only [wr, wl] at *; omega)), ?_⟩
        have z28 := hpc.2 (Int.toNat p) (by omega)
        have u29 : (J (g + 1) (Int.toNat p)) = (I (g + 1) (Int.toNat p)) := hV _ _ (by first | decide | omega)
        have a30 : -2147483648 ≤ (J (g + 1) (Int.toNat p)) ∧ (J (g + 1) (Int.toNat p)) < 2147483648 := hA.1 _ _
        have z31 := hpc.2 (Int.toNat p) (by omega)
        refine ⟨rfl, ?_⟩
        refine ⟨⟨_, hg.1.1, (by have := hg.2; show _ < 254; omega)⟩, ?_⟩
        refine Call_wp (lv := [some (vr g), some (vi p)]) (by decide) ckX5_amountAt [] rfl rfl ?_
        refine ⟨fun c => absurd c (show (¬ ((p : Int) < 0)) from by first | omega | (simp only [wr, wl] at *; omega)), fun _ => ?_⟩
        refine ⟨fun c => absurd c (show (¬ ((32 : Int) ≤ p)) from by first | omega | (simp only [wr, wl] at *; omega)), fun _ => ?_⟩
        refine ⟨_, hg.1.1, (by have := hg.2; show _ < 254; omega), ?_⟩
        refine fun w0 hw0 => ?_; obtain rfl : w0 = some (g + 2) := hw0.symm.trans hg.1.2.2.2.2.2
        refine ⟨_, hg.1.2.2.1, (by have := hg.2; show _ < 254; omega), (show (0 : Int) ≤ p from by first | with_reducible assumption | omega | (simp only [wr, wl] at *; omega)), (show p < (32 : Int) from by first | with_reducible assumption | omega | (simp only [wr, wl] at *; omega)), ?_⟩
        have u32 : (J (g + 2) (Int.toNat p)) = (I (g + 2) (Int.toNat p)) := hV _ _ (by first | decide | omega)
        have a33 : -2147483648 ≤ (J (g + 2) (Int.toNat p)) ∧ (J (g + 2) (Int.toNat p)) < 2147483648 := hA.1 _ _
        refine ⟨rfl, ?_⟩
        refine ⟨⟨_, rfl, (by decide)⟩, ?_⟩
        refine c_part10 (v0 := (J (g + 1) (Int.toNat p))) (v1 := (J (g + 2) (Int.toNat p))) hF hJ hq hp hcJ hq2 (Or.inl rfl) (by omega) (300000 * p) (by omega) (by omega) hU hW (by omega) (fun I34 hR35 hA36 hW37 qr38 => ?_)
        have n39 : (wr (p + 1)) = p + 1 := wr_id (show -2147483648 ≤ (p + 1 : Int) ∧ (p + 1 : Int) < 2147483648 from by omega)
        have u40 : (I34 g 3) = (J g 3) := hW37 _ _ (by first | decide | omega)
        have a41 : -2147483648 ≤ (I34 g 3) ∧ (I34 g 3) < 2147483648 := hA36.1 _ _
        have r42 : 0 ≤ (I34 g 3) ∧ (I34 g 3) ≤ 17 := (by omega)
        exact ih (wr (p + 1)) I34 hR35 (fun ka ja hk => ((hW37 ka ja (by omega))).trans ((hV ka ja (by omega)))) (show (0 : Int) ≤ (wr (p + 1)) from by first | rfl | omega) (show ((wr (p + 1)) : Int) ≤ 17 from by first | rfl | omega) (show (I34 g 3) = I g 3 from by first | rfl | omega) (show (wr (p + 1)) ≤ (I34 g 3) from by first | rfl | omega) ((by
                              have hr := qr38
                              rw [show (J (g + 1) (Int.toNat p)) = I (g + 1) (Int.toNat p) from by omega, show (J (g + 2) (Int.toNat p)) = I (g + 2) (Int.toNat p) from by omega] at hr
                              have hw : U 0 2 = 0 := by omega
                              rw [show Int.toNat (I g 3 - p) = Int.toNat (I g 3 - (wr (p + 1))) + 1 from by omega, fsR_s hw, show Int.toNat p + 1 = Int.toNat (wr (p + 1)) from by omega] at hTT
                              have hp := WS_d (ld := ld) (P := P) (il := 0) (act := I (g + 1) (Int.toNat p)) (amt := I (g + 2) (Int.toNat p)) hW (by omega)
                              exact ⟨_, hr, hp.1, (by omega), hTT⟩)) (CR9_f hcJ (fun j h1 h2 => hW37 208 (j) (by omega)) (fun j => hW37 q (j) (by omega)) (fun j => hW37 (q + 1) (j) (by omega))) (show ((I34 g 3) - (wr (p + 1))).toNat < mz from by omega)
theorem c_perf10 (hF : FS F) (hR : Rg I) {q : Nat} (hp : PP F q) {g : Nat} (hg : GP F g) (hn : g + 2 < 208) {ld : Int → Int} {P : Nat → Int} (hc8 : CR8 ld P q I) (hq2 : 20 ≤ q ∧ q + 4 < 90) (hpc : PC8 g I) (hQ : ∀ (I' : pI), Rg I' → AR I' → (∀ k j, ¬ (208 ≤ k ∧ k ≤ 212) → I' k j = I k j) → (MC 1 (rnF ld P (I (g + 1)) (I (g + 2)) (Int.toNat (I g 3)) (Int.toNat (I g 4))) I' ∧ I' 208 12 = enF ld P (I (g + 1)) (I (g + 2)) (Int.toNat (I g 3))) → Q none (uF F 208 2 (some q)) I') : CallN G (d + 8) kX1_perform [vr 208, vr g, vr q, vr 1] NP F I Q := by
  refine CallN_in (fun hok hA => CallN_out ?_)
  have hpp := hpc.1
  refine Call_wp (lv := [some (vr 208), some (vr g), some (vr q), some (vr 1), none, none]) (by decide) ckX1_perform [9] rfl rfl ?_
  refine ⟨⟨_, rfl, (by decide)⟩, ?_⟩
  refine Call_wp (lv := [some (vr 208), some (vr q), some (vr 1)]) (by decide) ckX1_begin [] rfl rfl ?_
  refine ⟨_, rfl, (by decide), ?_⟩
  refine ⟨_, rfl, (by decide), ?_⟩
  refine fun w0 hw0 => ?_; obtain rfl : w0 = some 210 := hw0.symm.trans (FS.g (FS.u hF rfl) rfl)
  refine ⟨⟨_, rfl, (by decide)⟩, ?_⟩
  refine Call_wp (lv := [some (vr 210)]) (by decide) ckX6_clear [] rfl rfl ?_
  refine ⟨_, rfl, (by decide), ?_⟩
  refine ⟨rfl, ?_⟩
  refine ⟨⟨_, rfl, (by decide)⟩, ?_⟩
  refine Call_wp (lv := [some (vr 1), some (vi 0)]) (by decide) ckX8_limitAt [] rfl rfl ?_
  refine ⟨fun c => absurd c (show (¬ ((0 : Int) < 0)) from by decide), fun _ => ?_⟩
  refine ⟨fun c => absurd c (show (¬ ((5 : Int) ≤ 0)) from by decide), fun _ => ?_⟩
  refine ⟨_, rfl, (by decide), ?_⟩
  refine fun w0 hw0 => ?_; obtain rfl : w0 = some 4 := hw0.symm.trans (FS.g (FS.u hF rfl) rfl)
  refine ⟨_, rfl, (by decide), (by decide), (by decide), ?_⟩
  refine ⟨rfl, ?_⟩
  refine ⟨_, rfl, (by decide), ?_⟩
  refine ⟨⟨_, rfl, (by decide)⟩, ?_⟩
  refine Call_wp (lv := [some (vr 1), some (vi 1)]) (by decide) ckX8_limitAt [] rfl rfl ?_
  refine ⟨fun c => absurd c (show (¬ ((1 : Int) < 0)) from by decide), fun _ => ?_⟩
  refine ⟨fun c => absurd c (show (¬ ((5 : Int) ≤ 1)) from by decide), fun _ => ?_⟩
  refine ⟨_, rfl, (by decide), ?_⟩
  refine fun w0 hw0 => ?_; obtain rfl : w0 = some 4 := hw0.symm.trans (FS.g (FS.u hF rfl) rfl)
  refine ⟨_, rfl, (by decide), (by decide), (by decide), ?_⟩
  refine ⟨rfl, ?_⟩
  refine ⟨_, rfl, (by decide), ?_⟩
  refine ⟨⟨_, rfl, (by decide)⟩, ?_⟩
  refine Call_wp (lv := [some (vr 1), some (vi 2)]) (by decide) ckX8_limitAt [] rfl rfl ?_
  refine ⟨fun c => absurd c (show (¬ ((2 : Int) < 0)) from by decide), fun _ => ?_⟩
  refine ⟨fun c => absurd c (show (¬ ((5 : Int) ≤ 2)) from by decide), fun _ => ?_⟩
  refine ⟨_, rfl, (by decide), ?_⟩
  refine fun w0 hw0 => ?_; obtain rfl : w0 = some 4 := hw0.symm.trans (FS.g (FS.u hF rfl) rfl)
  refine ⟨_, rfl, (by decide), (by decide), (by decide), ?_⟩
  refine ⟨rfl, ?_⟩
  refine ⟨_, rfl, (by decide), ?_⟩
  refine ⟨⟨_, rfl, (by decide)⟩, ?_⟩
  refine Call_wp (lv := [some (vr 1), some (vi 3)]) (by decide) ckX8_limitAt [] rfl rfl ?_
  refine ⟨fun c => absurd c (show (¬ ((3 : Int) < 0)) from by decide), fun _ => ?_⟩
  refine ⟨fun c => absurd c (show (¬ ((5 : Int) ≤ 3)) from by decide), fun _ => ?_⟩
  refine ⟨_, rfl, (by decide), ?_⟩
  refine fun w0 hw0 => ?_; obtain rfl : w0 = some 4 := hw0.symm.trans (FS.g (FS.u hF rfl) rfl)
  refine ⟨_, rfl, (by decide), (by decide), (by decide), ?_⟩
  refine ⟨rfl, ?_⟩
  refine ⟨_, rfl, (by decide), ?_⟩
  refine ⟨⟨_, rfl, (by decide)⟩, ?_⟩
  refine Call_wp (lv := [some (vr 1), some (vi 4)]) (by decide) ckX8_limitAt [] rfl rfl ?_
  refine ⟨fun c => absurd c (show (¬ ((4 : Int) < 0)) from by decide), fun _ => ?_⟩
  refine ⟨fun c => absurd c (show (¬ ((5 : Int) ≤ 4)) from by decide), fun _ => ?_⟩
  refine ⟨_, rfl, (by decide), ?_⟩
  refine fun w0 hw0 => ?_; obtain rfl : w0 = some 4 := hw0.symm.trans (FS.g (FS.u hF rfl) rfl)
  refine ⟨_, rfl, (by decide), (by decide), (by decide), ?_⟩
  refine ⟨rfl, ?_⟩
  refine ⟨_, rfl, (by decide), ?_⟩
  refine ⟨_, rfl, (by decide), ?_⟩
  refine ⟨_, rfl, (by decide), ?_⟩
  refine ⟨_, rfl, (by decide), ?_⟩
  refine ⟨_, rfl, (by decide), ?_⟩
  refine ⟨_, rfl, (by decide), ?_⟩
  refine ⟨_, rfl, (by decide), (by decide), ?_⟩
  refine ⟨_, rfl, (by decide), (by decide), ?_⟩
  refine ⟨rfl, ?_⟩
  have hc9 : CR9 ld P q (uI (uI (uI (uI (uI (uI (uI (uI (uI (uI (uI (uI (uI I 210 2 0) 208 3 (I 4 0)) 208 4 (I 4 1)) 208 5 (I 4 2)) 208 6 (I 4 3)) 208 7 (I 4 4)) 208 8 0) 208 9 0) 208 10 0) 208 11 0) 208 12 0) 208 13 0) 208 14 0) := CR8_9 hc8 ⟨(uJ_ne (show ¬ 3 = 14 from Nat.ne_of_beq_eq_false rfl)).trans ((uJ_ne (show ¬ 3 = 13 from Nat.ne_of_beq_eq_false rfl)).trans ((uJ_ne (show ¬ 3 = 12 from Nat.ne_of_beq_eq_false rfl)).trans ((uJ_ne (show ¬ 3 = 11 from Nat.ne_of_beq_eq_false rfl)).trans ((uJ_ne (show ¬ 3 = 10 from Nat.ne_of_beq_eq_false rfl)).trans ((uJ_ne (show ¬ 3 = 9 from Nat.ne_of_beq_eq_false rfl)).trans ((uJ_ne (show ¬ 3 = 8 from Nat.ne_of_beq_eq_false rfl)).trans ((uJ_ne (show ¬ 3 = 7 from Nat.ne_of_beq_eq_false rfl)).trans ((uJ_ne (show ¬ 3 = 6 from Nat.ne_of_beq_eq_false rfl)).trans ((uJ_ne (show ¬ 3 = 5 from Nat.ne_of_beq_eq_false rfl)).trans ((uJ_ne (show ¬ 3 = 4 from Nat.ne_of_beq_eq_false rfl)).trans (uJ_eq))))))))))), (uJ_ne (show ¬ 4 = 14 from Nat.ne_of_beq_eq_false rfl)).trans ((uJ_ne (show ¬ 4 = 13 from Nat.ne_of_beq_eq_false rfl)).trans ((uJ_ne (show ¬ 4 = 12 from Nat.ne_of_beq_eq_false rfl)).trans ((uJ_ne (show ¬ 4 = 11 from Nat.ne_of_beq_eq_false rfl)).trans ((uJ_ne (show ¬ 4 = 10 from Nat.ne_of_beq_eq_false rfl)).trans ((uJ_ne (show ¬ 4 = 9 from Nat.ne_of_beq_eq_false rfl)).trans ((uJ_ne (show ¬ 4 = 8 from Nat.ne_of_beq_eq_false rfl)).trans ((uJ_ne (show ¬ 4 = 7 from Nat.ne_of_beq_eq_false rfl)).trans ((uJ_ne (show ¬ 4 = 6 from Nat.ne_of_beq_eq_false rfl)).trans ((uJ_ne (show ¬ 4 = 5 from Nat.ne_of_beq_eq_false rfl)).trans (uJ_eq)))))))))), (uJ_ne (show ¬ 5 = 14 from Nat.ne_of_beq_eq_false rfl)).trans ((uJ_ne (show ¬ 5 = 13 from Nat.ne_of_beq_eq_false rfl)).trans ((uJ_ne (show ¬ 5 = 12 from Nat.ne_of_beq_eq_false rfl)).trans ((uJ_ne (show ¬ 5 = 11 from Nat.ne_of_beq_eq_false rfl)).trans ((uJ_ne (show ¬ 5 = 10 from Nat.ne_of_beq_eq_false rfl)).trans ((uJ_ne (show ¬ 5 = 9 from Nat.ne_of_beq_eq_false rfl)).trans ((uJ_ne (show ¬ 5 = 8 from Nat.ne_of_beq_eq_false rfl)).trans ((uJ_ne (show ¬ 5 = 7 from Nat.ne_of_beq_eq_false rfl)).trans ((uJ_ne (show ¬ 5 = 6 from Nat.ne_of_beq_eq_false rfl)).trans (uJ_eq))))))))), (uJ_ne (show ¬ 6 = 14 from Nat.ne_of_beq_eq_false rfl)).trans ((uJ_ne (show ¬ 6 = 13 from Nat.ne_of_beq_eq_false rfl)).trans ((uJ_ne (show ¬ 6 = 12 from Nat.ne_of_beq_eq_false rfl)).trans ((uJ_ne (show ¬ 6 = 11 from Nat.ne_of_beq_eq_false rfl)).trans ((uJ_ne (show ¬ 6 = 10 from Nat.ne_of_beq_eq_false rfl)).trans ((uJ_ne (show ¬ 6 = 9 from Nat.ne_of_beq_eq_false rfl)).trans ((uJ_ne (show ¬ 6 = 8 from Nat.ne_of_beq_eq_false rfl)).trans ((uJ_ne (show ¬ 6 = 7 from Nat.ne_of_beq_eq_false rfl)).trans (uJ_eq)))))))), (uJ_ne (show ¬ 7 = 14 from Nat.ne_of_beq_eq_false rfl)).trans ((uJ_ne (show ¬ 7 = 13 from Nat.ne_of_beq_eq_false rfl)).trans ((uJ_ne (show ¬ 7 = 12 from Nat.ne_of_beq_eq_false rfl)).trans ((uJ_ne (show ¬ 7 = 11 from Nat.ne_of_beq_eq_false rfl)).trans ((uJ_ne (show ¬ 7 = 10 from Nat.ne_of_beq_eq_false rfl)).trans ((uJ_ne (show ¬ 7 = 9 from Nat.ne_of_beq_eq_false rfl)).trans ((uJ_ne (show ¬ 7 = 8 from Nat.ne_of_beq_eq_false rfl)).trans (uJ_eq)))))))⟩ (fun j => (uI_o (show ¬ (q = 208 ∧ j = 14) from by omega)).trans ((uI_o (show ¬ (q = 208 ∧ j = 13) from by omega)).trans ((uI_o (show ¬ (q = 208 ∧ j = 12) from by omega)).trans ((uI_o (show ¬ (q = 208 ∧ j = 11) from by omega)).trans ((uI_o (show ¬ (q = 208 ∧ j = 10) from by omega)).trans ((uI_o (show ¬ (q = 208 ∧ j = 9) from by omega)).trans ((uI_o (show ¬ (q = 208 ∧ j = 8) from by omega)).trans ((uI_o (show ¬ (q = 208 ∧ j = 7) from by omega)).trans ((uI_o (show ¬ (q = 208 ∧ j = 6) from by omega)).trans ((uI_o (show ¬ (q = 208 ∧ j = 5) from by omega)).trans ((uI_o (show ¬ (q = 208 ∧ j = 4) from by omega)).trans ((uI_o (show ¬ (q = 208 ∧ j = 3) from by omega)).trans (uI_o (show ¬ (q = 210 ∧ j = 2) from by omega)))))))))))))) (fun j => (uI_o (show ¬ ((q + 1) = 208 ∧ j = 14) from by omega)).trans ((uI_o (show ¬ ((q + 1) = 208 ∧ j = 13) from by omega)).trans ((uI_o (show ¬ ((q + 1) = 208 ∧ j = 12) from by omega)).trans ((uI_o (show ¬ ((q + 1) = 208 ∧ j = 11) from by omega)).trans ((uI_o (show ¬ ((q + 1) = 208 ∧ j = 10) from by omega)).trans ((uI_o (show ¬ ((q + 1) = 208 ∧ j = 9) from by omega)).trans ((uI_o (show ¬ ((q + 1) = 208 ∧ j = 8) from by omega)).trans ((uI_o (show ¬ ((q + 1) = 208 ∧ j = 7) from by omega)).trans ((uI_o (show ¬ ((q + 1) = 208 ∧ j = 6) from by omega)).trans ((uI_o (show ¬ ((q + 1) = 208 ∧ j = 5) from by omega)).trans ((uI_o (show ¬ ((q + 1) = 208 ∧ j = 4) from by omega)).trans ((uI_o (show ¬ ((q + 1) = 208 ∧ j = 3) from by omega)).trans (uI_o (show ¬ ((q + 1) = 210 ∧ j = 2) from by omega))))))))))))))
  have hS0 : MC 0 S0 (uI (uI (uI (uI (uI (uI (uI (uI (uI (uI (uI (uI (uI I 210 2 0) 208 3 (I 4 0)) 208 4 (I 4 1)) 208 5 (I 4 2)) 208 6 (I 4 3)) 208 7 (I 4 4)) 208 8 0) 208 9 0) 208 10 0) 208 11 0) 208 12 0) 208 13 0) 208 14 0) := ⟨⟨(uJ_ne (show ¬ 8 = 14 from Nat.ne_of_beq_eq_false rfl)).trans ((uJ_ne (show ¬ 8 = 13 from Nat.ne_of_beq_eq_false rfl)).trans ((uJ_ne (show ¬ 8 = 12 from Nat.ne_of_beq_eq_false rfl)).trans ((uJ_ne (show ¬ 8 = 11 from Nat.ne_of_beq_eq_false rfl)).trans ((uJ_ne (show ¬ 8 = 10 from Nat.ne_of_beq_eq_false rfl)).trans ((uJ_ne (show ¬ 8 = 9 from Nat.ne_of_beq_eq_false rfl)).trans (uJ_eq)))))), (uJ_ne (show ¬ 13 = 14 from Nat.ne_of_beq_eq_false rfl)).trans (uJ_eq), uJ_eq, (uJ_ne (show ¬ 11 = 14 from Nat.ne_of_beq_eq_false rfl)).trans ((uJ_ne (show ¬ 11 = 13 from Nat.ne_of_beq_eq_false rfl)).trans ((uJ_ne (show ¬ 11 = 12 from Nat.ne_of_beq_eq_false rfl)).trans (uJ_eq))), (uJ_ne (show ¬ 10 = 14 from Nat.ne_of_beq_eq_false rfl)).trans ((uJ_ne (show ¬ 10 = 13 from Nat.ne_of_beq_eq_false rfl)).trans ((uJ_ne (show ¬ 10 = 12 from Nat.ne_of_beq_eq_false rfl)).trans ((uJ_ne (show ¬ 10 = 11 from Nat.ne_of_beq_eq_false rfl)).trans (uJ_eq)))), (uJ_ne (show ¬ 9 = 14 from Nat.ne_of_beq_eq_false rfl)).trans ((uJ_ne (show ¬ 9 = 13 from Nat.ne_of_beq_eq_false rfl)).trans ((uJ_ne (show ¬ 9 = 12 from Nat.ne_of_beq_eq_false rfl)).trans ((uJ_ne (show ¬ 9 = 11 from Nat.ne_of_beq_eq_false rfl)).trans ((uJ_ne (show ¬ 9 = 10 from Nat.ne_of_beq_eq_false rfl)).trans (uJ_eq))))), (uI_o (show ¬ (210 = 208 ∧ 2 = 14) from fun e => absurd e.1 (Nat.ne_of_beq_eq_false rfl))).trans ((uI_o (show ¬ (210 = 208 ∧ 2 = 13) from fun e => absurd e.1 (Nat.ne_of_beq_eq_false rfl))).trans ((uI_o (show ¬ (210 = 208 ∧ 2 = 12) from fun e => absurd e.1 (Nat.ne_of_beq_eq_false rfl))).trans ((uI_o (show ¬ (210 = 208 ∧ 2 = 11) from fun e => absurd e.1 (Nat.ne_of_beq_eq_false rfl))).trans ((uI_o (show ¬ (210 = 208 ∧ 2 = 10) from fun e => absurd e.1 (Nat.ne_of_beq_eq_false rfl))).trans ((uI_o (show ¬ (210 = 208 ∧ 2 = 9) from fun e => absurd e.1 (Nat.ne_of_beq_eq_false rfl))).trans ((uI_o (show ¬ (210 = 208 ∧ 2 = 8) from fun e => absurd e.1 (Nat.ne_of_beq_eq_false rfl))).trans ((uI_o (show ¬ (210 = 208 ∧ 2 = 7) from fun e => absurd e.1 (Nat.ne_of_beq_eq_false rfl))).trans ((uI_o (show ¬ (210 = 208 ∧ 2 = 6) from fun e => absurd e.1 (Nat.ne_of_beq_eq_false rfl))).trans ((uI_o (show ¬ (210 = 208 ∧ 2 = 5) from fun e => absurd e.1 (Nat.ne_of_beq_eq_false rfl))).trans ((uI_o (show ¬ (210 = 208 ∧ 2 = 4) from fun e => absurd e.1 (Nat.ne_of_beq_eq_false rfl))).trans ((uI_o (show ¬ (210 = 208 ∧ 2 = 3) from fun e => absurd e.1 (Nat.ne_of_beq_eq_false rfl))).trans (uJ_eq))))))))))))⟩, fun i hi => absurd hi (by unfold S0; omega), fun t h1 h2 h3 => absurd h2 (by unfold S0; omega)⟩
  have hpc2 : PC8 g (uI (uI (uI (uI (uI (uI (uI (uI (uI (uI (uI (uI (uI I 210 2 0) 208 3 (I 4 0)) 208 4 (I 4 1)) 208 5 (I 4 2)) 208 6 (I 4 3)) 208 7 (I 4 4)) 208 8 0) 208 9 0) 208 10 0) 208 11 0) 208 12 0) 208 13 0) 208 14 0) := PC8_f hpc (fun j => (uI_o (show ¬ (g = 208 ∧ j = 14) from by omega)).trans ((uI_o (show ¬ (g = 208 ∧ j = 13) from by omega)).trans ((uI_o (show ¬ (g = 208 ∧ j = 12) from by omega)).trans ((uI_o (show ¬ (g = 208 ∧ j = 11) from by omega)).trans ((uI_o (show ¬ (g = 208 ∧ j = 10) from by omega)).trans ((uI_o (show ¬ (g = 208 ∧ j = 9) from by omega)).trans ((uI_o (show ¬ (g = 208 ∧ j = 8) from by omega)).trans ((uI_o (show ¬ (g = 208 ∧ j = 7) from by omega)).trans ((uI_o (show ¬ (g = 208 ∧ j = 6) from by omega)).trans ((uI_o (show ¬ (g = 208 ∧ j = 5) from by omega)).trans ((uI_o (show ¬ (g = 208 ∧ j = 4) from by omega)).trans ((uI_o (show ¬ (g = 208 ∧ j = 3) from by omega)).trans (uI_o (show ¬ (g = 210 ∧ j = 2) from by omega)))))))))))))) (fun j => (uI_o (show ¬ ((g + 1) = 208 ∧ j = 14) from by omega)).trans ((uI_o (show ¬ ((g + 1) = 208 ∧ j = 13) from by omega)).trans ((uI_o (show ¬ ((g + 1) = 208 ∧ j = 12) from by omega)).trans ((uI_o (show ¬ ((g + 1) = 208 ∧ j = 11) from by omega)).trans ((uI_o (show ¬ ((g + 1) = 208 ∧ j = 10) from by omega)).trans ((uI_o (show ¬ ((g + 1) = 208 ∧ j = 9) from by omega)).trans ((uI_o (show ¬ ((g + 1) = 208 ∧ j = 8) from by omega)).trans ((uI_o (show ¬ ((g + 1) = 208 ∧ j = 7) from by omega)).trans ((uI_o (show ¬ ((g + 1) = 208 ∧ j = 6) from by omega)).trans ((uI_o (show ¬ ((g + 1) = 208 ∧ j = 5) from by omega)).trans ((uI_o (show ¬ ((g + 1) = 208 ∧ j = 4) from by omega)).trans ((uI_o (show ¬ ((g + 1) = 208 ∧ j = 3) from by omega)).trans (uI_o (show ¬ ((g + 1) = 210 ∧ j = 2) from by omega)))))))))))))) (fun j => (uI_o (show ¬ ((g + 2) = 208 ∧ j = 14) from by omega)).trans ((uI_o (show ¬ ((g + 2) = 208 ∧ j = 13) from by omega)).trans ((uI_o (show ¬ ((g + 2) = 208 ∧ j = 12) from by omega)).trans ((uI_o (show ¬ ((g + 2) = 208 ∧ j = 11) from by omega)).trans ((uI_o (show ¬ ((g + 2) = 208 ∧ j = 10) from by omega)).trans ((uI_o (show ¬ ((g + 2) = 208 ∧ j = 9) from by omega)).trans ((uI_o (show ¬ ((g + 2) = 208 ∧ j = 8) from by omega)).trans ((uI_o (show ¬ ((g + 2) = 208 ∧ j = 7) from by omega)).trans ((uI_o (show ¬ ((g + 2) = 208 ∧ j = 6) from by omega)).trans ((uI_o (show ¬ ((g + 2) = 208 ∧ j = 5) from by omega)).trans ((uI_o (show ¬ ((g + 2) = 208 ∧ j = 4) from by omega)).trans ((uI_o (show ¬ ((g + 2) = 208 ∧ j = 3) from by omega)).trans (uI_o (show ¬ ((g + 2) = 210 ∧ j = 2) from by omega))))))))))))))
  have r1 : 0 ≤ (I g 3) ∧ (I g 3) ≤ 17 := (by omega)
  have u2 : ((uI (uI (uI (uI (uI (uI (uI (uI (uI (uI (uI (uI (uI I 210 2 0) 208 3 (I 4 0)) 208 4 (I 4 1)) 208 5 (I 4 2)) 208 6 (I 4 3)) 208 7 (I 4 4)) 208 8 0) 208 9 0) 208 10 0) 208 11 0) 208 12 0) 208 13 0) 208 14 0) g 3) = (I g 3) := (uI_o (fun e => absurd e.1 (lay_ne hg.1.1 (show lay 208 = (1, 15) from rfl) (by decide)))).trans ((uI_o (fun e => absurd e.1 (lay_ne hg.1.1 (show lay 208 = (1, 15) from rfl) (by decide)))).trans ((uI_o (fun e => absurd e.1 (lay_ne hg.1.1 (show lay 208 = (1, 15) from rfl) (by decide)))).trans ((uI_o (fun e => absurd e.1 (lay_ne hg.1.1 (show lay 208 = (1, 15) from rfl) (by decide)))).trans ((uI_o (fun e => absurd e.1 (lay_ne hg.1.1 (show lay 208 = (1, 15) from rfl) (by decide)))).trans ((uI_o (fun e => absurd e.1 (lay_ne hg.1.1 (show lay 208 = (1, 15) from rfl) (by decide)))).trans ((uI_o (fun e => absurd e.1 (lay_ne hg.1.1 (show lay 208 = (1, 15) from rfl) (by decide)))).trans ((uI_o (fun e => absurd e.1 (lay_ne hg.1.1 (show lay 208 = (1, 15) from rfl) (by decide)))).trans ((uI_o (fun e => absurd e.1 (lay_ne hg.1.1 (show lay 208 = (1, 15) from rfl) (by decide)))).trans ((uI_o (fun e => absurd e.1 (lay_ne hg.1.1 (show lay 208 = (1, 15) from rfl) (by decide)))).trans ((uI_o (fun e => absurd e.1 (lay_ne hg.1.1 (show lay 208 = (1, 15) from rfl) (by decide)))).trans ((uI_o (fun e => absurd e.1 (lay_ne hg.1.1 (show lay 208 = (1, 15) from rfl) (by decide)))).trans (uI_o (fun e => absurd e.1 (lay_ne hg.1.1 (show lay 210 = (6, 6) from rfl) (by decide)))))))))))))))
  refine c_perf10_l1 (FS.u hF rfl) (Rg.u (Rg.u (Rg.u (Rg.u (Rg.u (Rg.u (Rg.u (Rg.u (Rg.u (Rg.u (Rg.u (Rg.u (Rg.u hR (Pr_f rfl)) (Pr_f rfl)) (Pr_f rfl)) (Pr_f rfl)) (Pr_f rfl)) (Pr_f rfl)) (Pr_f rfl)) (Pr_f rfl)) (Pr_f rfl)) (Pr_f rfl)) (Pr_f rfl)) (Pr_f rfl)) (Pr_f rfl)) rfl hp.u hg.u hn hq2 hpc2 (fun I' g1 g2 g3 hv hA' => hQ _ g1 hA' (fun ka ja hk => (g2 ka ja (by omega)).trans (((uI_o (show ¬ (ka = 208 ∧ ja = 14) from by first | (intro e; obtain ⟨rfl, rfl⟩ := e; exact hk (by decide)) | omega))).trans (((uI_o (show ¬ (ka = 208 ∧ ja = 13) from by first | (intro e; obtain ⟨rfl, rfl⟩ := e; exact hk (by decide)) | omega))).trans (((uI_o (show ¬ (ka = 208 ∧ ja = 12) from by first | (intro e; obtain ⟨rfl, rfl⟩ := e; exact hk (by decide)) | omega))).trans (((uI_o (show ¬ (ka = 208 ∧ ja = 11) from by first | (intro e; obtain ⟨rfl, rfl⟩ := e; exact hk (by decide)) | omega))).trans (((uI_o (show ¬ (ka = 208 ∧ ja = 10) from by first | (intro e; obtain ⟨rfl, rfl⟩ := e; exact hk (by decide)) | omega))).trans (((uI_o (show ¬ (ka = 208 ∧ ja = 9) from by first | (intro e; obtain ⟨rfl, rfl⟩ := e; exact hk (by decide)) | omega))).trans (((uI_o (show ¬ (ka = 208 ∧ ja = 8) from by first | (intro e; obtain ⟨rfl, rfl⟩ := e; exact hk (by decide)) | omega))).trans (((uI_o (show ¬ (ka = 208 ∧ ja = 7) from by first | (intro e; obtain ⟨rfl, rfl⟩ := e; exact hk (by decide)) | omega))).trans (((uI_o (show ¬ (ka = 208 ∧ ja = 6) from by first | (intro e; obtain ⟨rfl, rfl⟩ := e; exact hk (by decide)) | omega))).trans (((uI_o (show ¬ (ka = 208 ∧ ja = 5) from by first | (intro e; obtain ⟨rfl, rfl⟩ := e; exact hk (by decide)) | omega))).trans (((uI_o (show ¬ (ka = 208 ∧ ja = 4) from by first | (intro e; obtain ⟨rfl, rfl⟩ := e; exact hk (by decide)) | omega))).trans (((uI_o (show ¬ (ka = 208 ∧ ja = 3) from by first | (intro e; obtain ⟨rfl, rfl⟩ := e; exact hk (by decide)) | omega))).trans ((uI_o (show ¬ (ka = 210 ∧ ja = 2) from by first | (intro e; obtain ⟨rfl, rfl⟩ := e; exact hk (by decide)) | omega)))))))))))))))) (by
                              obtain ⟨y1, y2⟩ := g3
                              rw [show (uI (uI (uI (uI (uI (uI (uI (uI (uI (uI (uI (uI (uI I 210 2 0) 208 3 (I 4 0)) 208 4 (I 4 1)) 208 5 (I 4 2)) 208 6 (I 4 3)) 208 7 (I 4 4)) 208 8 0) 208 9 0) 208 10 0) 208 11 0) 208 12 0) 208 13 0) 208 14 0) g = I g from funext (fun j => (uI_o (show ¬ (g = 208 ∧ j = 14) from by omega)).trans ((uI_o (show ¬ (g = 208 ∧ j = 13) from by omega)).trans ((uI_o (show ¬ (g = 208 ∧ j = 12) from by omega)).trans ((uI_o (show ¬ (g = 208 ∧ j = 11) from by omega)).trans ((uI_o (show ¬ (g = 208 ∧ j = 10) from by omega)).trans ((uI_o (show ¬ (g = 208 ∧ j = 9) from by omega)).trans ((uI_o (show ¬ (g = 208 ∧ j = 8) from by omega)).trans ((uI_o (show ¬ (g = 208 ∧ j = 7) from by omega)).trans ((uI_o (show ¬ (g = 208 ∧ j = 6) from by omega)).trans ((uI_o (show ¬ (g = 208 ∧ j = 5) from by omega)).trans ((uI_o (show ¬ (g = 208 ∧ j = 4) from by omega)).trans ((uI_o (show ¬ (g = 208 ∧ j = 3) from by omega)).trans (uI_o (show ¬ (g = 210 ∧ j = 2) from by omega)))))))))))))), show (uI (uI (uI (uI (uI (uI (uI (uI (uI (uI (uI (uI (uI I 210 2 0) 208 3 (I 4 0)) 208 4 (I 4 1)) 208 5 (I 4 2)) 208 6 (I 4 3)) 208 7 (I 4 4)) 208 8 0) 208 9 0) 208 10 0) 208 11 0) 208 12 0) 208 13 0) 208 14 0) (g + 1) = I (g + 1) from funext (fun j => (uI_o (show ¬ ((g + 1) = 208 ∧ j = 14) from by omega)).trans ((uI_o (show ¬ ((g + 1) = 208 ∧ j = 13) from by omega)).trans ((uI_o (show ¬ ((g + 1) = 208 ∧ j = 12) from by omega)).trans ((uI_o (show ¬ ((g + 1) = 208 ∧ j = 11) from by omega)).trans ((uI_o (show ¬ ((g + 1) = 208 ∧ j = 10) from by omega)).trans ((uI_o (show ¬ ((g + 1) = 208 ∧ j = 9) from by omega)).trans ((uI_o (show ¬ ((g + 1) = 208 ∧ j = 8) from by omega)).trans ((uI_o (show ¬ ((g + 1) = 208 ∧ j = 7) from by omega)).trans ((uI_o (show ¬ ((g + 1) = 208 ∧ j = 6) from by omega)).trans ((uI_o (show ¬ ((g + 1) = 208 ∧ j = 5) from by omega)).trans ((uI_o (show ¬ ((g + 1) = 208 ∧ j = 4) from by omega)).trans ((uI_o (show ¬ ((g + 1) = 208 ∧ j = 3) from by omega)).trans (uI_o (show ¬ ((g + 1) = 210 ∧ j = 2) from by omega)))))))))))))), show (uI (uI (uI (uI (uI (uI (uI (uI (uI (uI (uI (uI (uI I 210 2 0) 208 3 (I 4 0)) 208 4 (I 4 1)) 208 5 (I 4 2)) 208 6 (I 4 3)) 208 7 (I 4 4)) 208 8 0) 208 9 0) 208 10 0) 208 11 0) 208 12 0) 208 13 0) 208 14 0) (g + 2) = I (g + 2) from funext (fun j => (uI_o (show ¬ ((g + 2) = 208 ∧ j = 14) from by omega)).trans ((uI_o (show ¬ ((g + 2) = 208 ∧ j = 13) from by omega)).trans ((uI_o (show ¬ ((g + 2) = 208 ∧ j = 12) from by omega)).trans ((uI_o (show ¬ ((g + 2) = 208 ∧ j = 11) from by omega)).trans ((uI_o (show ¬ ((g + 2) = 208 ∧ j = 10) from by omega)).trans ((uI_o (show ¬ ((g + 2) = 208 ∧ j = 9) from by omega)).trans ((uI_o (show ¬ ((g + 2) = 208 ∧ j = 8) from by omega)).trans ((uI_o (show ¬ ((g + 2) = 208 ∧ j = 7) from by omega)).trans ((uI_o (show ¬ ((g + 2) = 208 ∧ j = 6) from by omega)).trans ((uI_o (show ¬ ((g + 2) = 208 ∧ j = 5) from by omega)).trans ((uI_o (show ¬ ((g + 2) = 208 ∧ j = 4) from by omega)).trans ((uI_o (show ¬ ((g + 2) = 208 ∧ j = 3) from by omega)).trans (uI_o (show ¬ ((g + 2) = 210 ∧ j = 2) from by omega))))))))))))))] at y1 y2
                              exact ⟨y1, y2⟩)) _ 0 (uI (uI (uI (uI (uI (uI (uI (uI (uI (uI (uI (uI (uI I 210 2 0) 208 3 (I 4 0)) 208 4 (I 4 1)) 208 5 (I 4 2)) 208 6 (I 4 3)) 208 7 (I 4 4)) 208 8 0) 208 9 0) 208 10 0) 208 11 0) 208 12 0) 208 13 0) 208 14 0) (Rg.u (Rg.u (Rg.u (Rg.u (Rg.u (Rg.u (Rg.u (Rg.u (Rg.u (Rg.u (Rg.u (Rg.u (Rg.u hR (Pr_f rfl)) (Pr_f rfl)) (Pr_f rfl)) (Pr_f rfl)) (Pr_f rfl)) (Pr_f rfl)) (Pr_f rfl)) (Pr_f rfl)) (Pr_f rfl)) (Pr_f rfl)) (Pr_f rfl)) (Pr_f rfl)) (Pr_f rfl)) (fun _ _ _ => rfl) (show (0 : Int) ≤ (0 : Int) from by first | rfl | omega) (show ((0 : Int) : Int) ≤ 17 from by first | rfl | omega) (show ((uI (uI (uI (uI (uI (uI (uI (uI (uI (uI (uI (uI (uI I 210 2 0) 208 3 (I 4 0)) 208 4 (I 4 1)) 208 5 (I 4 2)) 208 6 (I 4 3)) 208 7 (I 4 4)) 208 8 0) 208 9 0) 208 10 0) 208 11 0) 208 12 0) 208 13 0) 208 14 0) g 3) = (uI (uI (uI (uI (uI (uI (uI (uI (uI (uI (uI (uI (uI I 210 2 0) 208 3 (I 4 0)) 208 4 (I 4 1)) 208 5 (I 4 2)) 208 6 (I 4 3)) 208 7 (I 4 4)) 208 8 0) 208 9 0) 208 10 0) 208 11 0) 208 12 0) 208 13 0) 208 14 0) g 3 from by first | rfl | omega) (show (0 : Int) ≤ ((uI (uI (uI (uI (uI (uI (uI (uI (uI (uI (uI (uI (uI I 210 2 0) 208 3 (I 4 0)) 208 4 (I 4 1)) 208 5 (I 4 2)) 208 6 (I 4 3)) 208 7 (I 4 4)) 208 8 0) 208 9 0) 208 10 0) 208 11 0) 208 12 0) 208 13 0) 208 14 0) g 3) from by first | rfl | omega) ((by
                              exact ⟨S0, hS0, WS_0, (by unfold S0; omega), (by rw [Int.sub_zero]; rfl)⟩)) (hc9) (Nat.lt_succ_self _)
end CM10
