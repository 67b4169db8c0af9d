/-! what pieceIs answers. Own work (scripts laid by wip/pm/gen34.py). -/
section PI10
variable {G : pG} {d : Nat} {F : pF} {I : pI} {Q : Option pV → pF → pI → Prop}
theorem c_good10_l (hF : FS F) (hR : Rg I) {rd : Nat} (hr : RP F rd) (hn : 0 ≤ I rd 2 ∧ I rd 2 ≤ 24) (hQ : ∀ (r : Int) , (r = gdC (nz (I (rd + 2)) (I rd 2)) (Int.toNat (I rd 2))) → Q (some (vi r)) F I) : ∀ (mz : Nat) (g i : Int) , ((0 : Int) ≤ g) → ((g : Int) ≤ 24) → ((0 : Int) ≤ i) → ((i : Int) ≤ 24) → ((I rd 2) = I rd 2) → (i ≤ (I rd 2)) → (g ≤ i) → (g = gdC (nz (I (rd + 2)) (I rd 2)) (Int.toNat i)) → ((I rd 2) - i).toNat < mz → GoN G (d + 2) kX6_goodOnes NP NP 4 [some (vr rd), some (vi g), some (vi i)] [] F I Q := by
  intro mz
  induction mz with
  | zero => intro g i _ _ _ _ _ _ _ _ h; exact absurd h (Nat.not_lt_zero _)
  | succ mz ih =>
    intro g i cc100 cc101 cc102 cc103 cc104 cc105 cc106 cc107 hm
    refine GoN_in (fun hok hA => ?_)
    have iig : -2147483648 ≤ g ∧ g < 2147483648 := hok 1 _ rfl
    have iii : -2147483648 ≤ i ∧ i < 2147483648 := hok 2 _ rfl
    have a1 : -2147483648 ≤ (I rd 2) ∧ (I rd 2) < 2147483648 := hA.1 _ _
    refine Go_wp (by decide) ckX6_goodOnes [4] ?_
    refine ⟨_, hr.1.1, (by have := hr.2; show _ < 254; omega), ?_⟩
    refine ⟨fun (c2 : (((I rd 2) : Int) ≤ i)) => ?_, fun (c2 : (¬ (((I rd 2) : Int) ≤ i))) => ?_⟩
    ·
      exact ⟨rfl, hQ _ ((by
                              have h := cc107
                              rw [show Int.toNat (I rd 2) = Int.toNat i from by omega]
                              exact h))⟩
    ·
      refine ⟨⟨_, hr.1.1, (by have := hr.2; show _ < 254; omega)⟩, ?_⟩
      refine Call_wp (lv := [some (vr rd), some (vi i)]) (by decide) ckX6_isGood [] rfl rfl ?_
      refine ⟨⟨_, hr.1.1, (by have := hr.2; show _ < 254; omega)⟩, ?_⟩
      refine Call_wp (lv := [some (vr rd), some (vi i)]) (by decide) ckX6_loadAt [] rfl rfl ?_
      refine ⟨fun c => absurd c (show (¬ ((i : Int) < 0)) from by first | omega | (simp only [wr, wl] at *; omega)), fun _ => ?_⟩
      refine ⟨_, hr.1.1, (by have := hr.2; show _ < 254; omega), ?_⟩
      refine ⟨fun c => absurd c (show (¬ (((I rd 2) : Int) ≤ i)) from by first | omega | (simp only [wr, wl] at *; omega)), fun _ => ?_⟩
      refine ⟨fun (c3 : ((24 : Int) ≤ i)) => ?_, fun (c3 : (¬ ((24 : Int) ≤ i))) => ?_⟩
      ·
        refine ⟨rfl, ?_⟩
        refine ⟨fun _ => ?_, fun c => absurd (show (((-1) : Int) < 0) from by decide) c⟩
        refine ⟨rfl, (by decide), ?_⟩
        refine ⟨fun _ => ?_, fun c => absurd (show ((0 : Int) = 0) from by decide) c⟩
        have n4 : (wr (g + 0)) = g + 0 := wr_id (show -2147483648 ≤ (g + 0 : Int) ∧ (g + 0 : Int) < 2147483648 from by omega)
        have n5 : (wr (i + 1)) = i + 1 := wr_id (show -2147483648 ≤ (i + 1 : Int) ∧ (i + 1 : Int) < 2147483648 from by omega)
        exact ih (wr (g + 0)) (wr (i + 1))  (show (0 : Int) ≤ (wr (g + 0)) from by first | with_reducible assumption | omega | (simp only [wr, wl] at *; omega)) (show ((wr (g + 0)) : Int) ≤ 24 from by first | with_reducible assumption | omega | (simp only [wr, wl] at *; omega)) (show (0 : Int) ≤ (wr (i + 1)) from by first | with_reducible assumption | omega | (simp only [wr, wl] at *; omega)) (show ((wr (i + 1)) : Int) ≤ 24 from by first | with_reducible assumption | omega | (simp only [wr, wl] at *; omega)) (show (I rd 2) = I rd 2 from by first | omega | (simp only [wr, wl] at *; omega)) (show (wr (i + 1)) ≤ (I rd 2) from by first | with_reducible assumption | omega | (simp only [wr, wl] at *; omega)) (show (wr (g + 0)) ≤ (wr (i + 1)) from by first | with_reducible assumption | omega | (simp only [wr, wl] at *; omega)) ((by
                              have k := gdC_s (L := nz (I (rd + 2)) (I rd 2)) (k := Int.toNat i)
                              have h := cc107
                              rw [show Int.toNat (wr (i + 1)) = Int.toNat i + 1 from by omega]
                              omega)) (show ((I rd 2) - (wr (i + 1))).toNat < mz from by omega)
      ·
        refine ⟨_, hr.1.1, (by have := hr.2; show _ < 254; omega), ?_⟩
        refine fun w0 hw0 => ?_; obtain rfl : w0 = some (rd + 2) := hw0.symm.trans hr.1.2.2.2.2.2
        refine ⟨_, hr.1.2.2.1, (by have := hr.2; show _ < 254; omega), (show (0 : Int) ≤ i from by first | with_reducible assumption | omega | (simp only [wr, wl] at *; omega)), (show i < (24 : Int) from by first | with_reducible assumption | omega | (simp only [wr, wl] at *; omega)), ?_⟩
        have z6 : (I (rd + 2) (Int.toNat i)) = nz (I (rd + 2)) (I rd 2) (Int.toNat i) := (nz_i (by omega)).symm
        refine ⟨rfl, ?_⟩
        have a7 : -2147483648 ≤ (I (rd + 2) (Int.toNat i)) ∧ (I (rd + 2) (Int.toNat i)) < 2147483648 := hA.1 _ _
        refine ⟨fun (c8 : (((I (rd + 2) (Int.toNat i)) : Int) < 0)) => ?_, fun (c8 : (¬ (((I (rd + 2) (Int.toNat i)) : Int) < 0))) => ?_⟩
        ·
          refine ⟨rfl, (by decide), ?_⟩
          refine ⟨fun _ => ?_, fun c => absurd (show ((0 : Int) = 0) from by decide) c⟩
          have n9 : (wr (g + 0)) = g + 0 := wr_id (show -2147483648 ≤ (g + 0 : Int) ∧ (g + 0 : Int) < 2147483648 from by omega)
          have n10 : (wr (i + 1)) = i + 1 := wr_id (show -2147483648 ≤ (i + 1 : Int) ∧ (i + 1 : Int) < 2147483648 from by omega)
          exact ih (wr (g + 0)) (wr (i + 1))  (show (0 : Int) ≤ (wr (g + 0)) from by first | with_reducible assumption | omega | (simp only [wr, wl] at *; omega)) (show ((wr (g + 0)) : Int) ≤ 24 from by first | with_reducible assumption | omega | (simp only [wr, wl] at *; omega)) (show (0 : Int) ≤ (wr (i + 1)) from by first | with_reducible assumption | omega | (simp only [wr, wl] at *; omega)) (show ((wr (i + 1)) : Int) ≤ 24 from by first | with_reducible assumption | omega | (simp only [wr, wl] at *; omega)) (show (I rd 2) = I rd 2 from by first | omega | (simp only [wr, wl] at *; omega)) (show (wr (i + 1)) ≤ (I rd 2) from by first | with_reducible assumption | omega | (simp only [wr, wl] at *; omega)) (show (wr (g + 0)) ≤ (wr (i + 1)) from by first | with_reducible assumption | omega | (simp only [wr, wl] at *; omega)) ((by
                              have k := gdC_s (L := nz (I (rd + 2)) (I rd 2)) (k := Int.toNat i)
                              have h := cc107
                              rw [show Int.toNat (wr (i + 1)) = Int.toNat i + 1 from by omega]
                              omega)) (show ((I rd 2) - (wr (i + 1))).toNat < mz from by omega)
        ·
          refine ⟨rfl, (by decide), ?_⟩
          refine ⟨fun c => absurd c (show (¬ ((1 : Int) = 0)) from by decide), fun _ => ?_⟩
          have n11 : (wr (g + 1)) = g + 1 := wr_id (show -2147483648 ≤ (g + 1 : Int) ∧ (g + 1 : Int) < 2147483648 from by omega)
          have n12 : (wr (i + 1)) = i + 1 := wr_id (show -2147483648 ≤ (i + 1 : Int) ∧ (i + 1 : Int) < 2147483648 from by omega)
          exact ih (wr (g + 1)) (wr (i + 1))  (show (0 : Int) ≤ (wr (g + 1)) from by first | with_reducible assumption | omega | (simp only [wr, wl] at *; omega)) (show ((wr (g + 1)) : Int) ≤ 24 from by first | with_reducible assumption | omega | (simp only [wr, wl] at *; omega)) (show (0 : Int) ≤ (wr (i + 1)) from by first | with_reducible assumption | omega | (simp only [wr, wl] at *; omega)) (show ((wr (i + 1)) : Int) ≤ 24 from by first | with_reducible assumption | omega | (simp only [wr, wl] at *; omega)) (show (I rd 2) = I rd 2 from by first | omega | (simp only [wr, wl] at *; omega)) (show (wr (i + 1)) ≤ (I rd 2) from by first | with_reducible assumption | omega | (simp only [wr, wl] at *; omega)) (show (wr (g + 1)) ≤ (wr (i + 1)) from by first | with_reducible assumption | omega | (simp only [wr, wl] at *; omega)) ((by
                              have k := gdC_s (L := nz (I (rd + 2)) (I rd 2)) (k := Int.toNat i)
                              have h := cc107
                              rw [show Int.toNat (wr (i + 1)) = Int.toNat i + 1 from by omega]
                              omega)) (show ((I rd 2) - (wr (i + 1))).toNat < mz from by omega)
theorem c_good10 (hF : FS F) (hR : Rg I) {rd : Nat} (hr : RP F rd) (hn : 0 ≤ I rd 2 ∧ I rd 2 ≤ 24) (hQ : ∀ r : Int, iR r → (r = gdC (nz (I (rd + 2)) (I rd 2)) (Int.toNat (I rd 2))) → Q (some (vi r)) F I) : CallN G (d + 2) kX6_goodOnes [vr rd] NP F I Q := by
  refine CallN_in (fun hok hA => CallN_out ?_)
  refine Call_wp (lv := [some (vr rd), none, none]) (by decide) ckX6_goodOnes [4] rfl rfl ?_
  have a1 : -2147483648 ≤ (I rd 2) ∧ (I rd 2) < 2147483648 := hA.1 _ _
  refine c_good10_l hF hR hr hn (fun r g3 hv hA' => hQ _ (hv _ rfl) g3) _ 0 0  (show (0 : Int) ≤ (0 : Int) from Int.le_refl _) (show ((0 : Int) : Int) ≤ 24 from by first | with_reducible assumption | omega | (simp only [wr, wl] at *; omega)) (show (0 : Int) ≤ (0 : Int) from Int.le_refl _) (show ((0 : Int) : Int) ≤ 24 from by first | with_reducible assumption | omega | (simp only [wr, wl] at *; omega)) (show (I rd 2) = I rd 2 from by first | omega | (simp only [wr, wl] at *; omega)) (show (0 : Int) ≤ (I rd 2) from by first | with_reducible assumption | omega | (simp only [wr, wl] at *; omega)) (show (0 : Int) ≤ (0 : Int) from Int.le_refl _) (rfl) (Nat.lt_succ_self _)
theorem c_pieceIs10 (hF : FS F) (hR : Rg I) {v0 v1 : Int} (hc : I 1 1 ≤ 14) (hs : ∀ p : Nat, (p : Int) < I 1 1 → 0 ≤ I ((1 + 19 + 5 * p) + 2) 2 ∧ I ((1 + 19 + 5 * p) + 2) 2 ≤ 24) (hQ : ∀ (r : Int) (I' : pI), Rg I' → AR I' → iR r → (∀ k j, ¬ (k = 203) → I' k j = I k j) → ((¬ ((0 ≤ v0 ∧ v0 < I 1 1) ∧ 0 ≤ v1 ∧ v1 ≤ 5) → r = -1000001) ∧ (((0 ≤ v0 ∧ v0 < I 1 1) ∧ 0 ≤ v1 ∧ v1 ≤ 5) → (v1 = 0 → r = I (1 + 19 + 5 * Int.toNat v0) 0) ∧ (v1 = 1 → r = I (1 + 19 + 5 * Int.toNat v0) 1) ∧ (v1 = 2 → r = I (1 + 19 + 5 * Int.toNat v0) 2) ∧ (v1 = 3 → r = I (1 + 19 + 5 * Int.toNat v0) 4) ∧ (v1 = 4 → r = I ((1 + 19 + 5 * Int.toNat v0) + 2) 2) ∧ (v1 = 5 → r = gdC (nz (I (((1 + 19 + 5 * Int.toNat v0) + 2) + 2)) (I ((1 + 19 + 5 * Int.toNat v0) + 2) 2)) (Int.toNat (I ((1 + 19 + 5 * Int.toNat v0) + 2) 2))))) → Q (some (vi r)) F I') : CallN G (d + 3) kX11_pieceIs [vr 0, vi v0, vi v1] NP F I Q := by
  refine CallN_in (fun hok hA => CallN_out ?_)
  have iv0 : -2147483648 ≤ v0 ∧ v0 < 2147483648 := hok (vi v0) (by simp)
  have iv1 : -2147483648 ≤ v1 ∧ v1 < 2147483648 := hok (vi v1) (by simp)
  refine Call_wp (lv := [some (vr 0), some (vi v0), some (vi v1), none]) (by decide) ckX11_pieceIs [] rfl rfl ?_
  refine ⟨_, rfl, (by decide), ?_⟩
  refine fun w0 hw0 => ?_; obtain rfl : w0 = some 1 := hw0.symm.trans (FS.g hF rfl)
  refine ⟨⟨_, rfl, (by decide)⟩, ?_⟩
  refine s_X8_pieceAt hF (S := 1) (Or.inl rfl) (fun (w1 : (0 ≤ v0 ∧ v0 < (I 1 1) ∧ v0 < 14)) => ?_) (fun (w1 : ¬ (0 ≤ v0 ∧ v0 < (I 1 1) ∧ v0 < 14)) => ?_)
  ·
    have hp2 : PP F (1 + 19 + 5 * Int.toNat v0) := PP_of hF (by omega)
    refine ⟨fun (c3 : ((v1 : Int) = 0)) => ?_, fun (c3 : (¬ ((v1 : Int) = 0))) => ?_⟩
    ·
      refine ⟨_, hp2.1.1, (by have := hp2.2; show _ < 254; omega), ?_⟩
      have a4 : -2147483648 ≤ (I (1 + 19 + 5 * Int.toNat v0) 0) ∧ (I (1 + 19 + 5 * Int.toNat v0) 0) < 2147483648 := hA.1 _ _
      exact ⟨rfl, fun hv hA' => hQ _ _ hR hA' (hv _ rfl) (fun _ _ _ => rfl) (show (¬ ((0 ≤ v0 ∧ v0 < I 1 1) ∧ 0 ≤ v1 ∧ v1 ≤ 5) → (I (1 + 19 + 5 * Int.toNat v0) 0) = -1000001) ∧ (((0 ≤ v0 ∧ v0 < I 1 1) ∧ 0 ≤ v1 ∧ v1 ≤ 5) → (v1 = 0 → (I (1 + 19 + 5 * Int.toNat v0) 0) = I (1 + 19 + 5 * Int.toNat v0) 0) ∧ (v1 = 1 → (I (1 + 19 + 5 * Int.toNat v0) 0) = I (1 + 19 + 5 * Int.toNat v0) 1) ∧ (v1 = 2 → (I (1 + 19 + 5 * Int.toNat v0) 0) = I (1 + 19 + 5 * Int.toNat v0) 2) ∧ (v1 = 3 → (I (1 + 19 + 5 * Int.toNat v0) 0) = I (1 + 19 + 5 * Int.toNat v0) 4) ∧ (v1 = 4 → (I (1 + 19 + 5 * Int.toNat v0) 0) = I ((1 + 19 + 5 * Int.toNat v0) + 2) 2) ∧ (v1 = 5 → (I (1 + 19 + 5 * Int.toNat v0) 0) = gdC (nz (I (((1 + 19 + 5 * Int.toNat v0) + 2) + 2)) (I ((1 + 19 + 5 * Int.toNat v0) + 2) 2)) (Int.toNat (I ((1 + 19 + 5 * Int.toNat v0) + 2) 2)))) from by
                              refine ⟨fun z => ?_, fun z => ⟨fun b => ?_, fun b => ?_, fun b => ?_, fun b => ?_, fun b => ?_, fun b => ?_⟩⟩
                              all_goals first | rfl | omega | (exfalso; omega))⟩
    ·
      refine ⟨fun (c5 : ((v1 : Int) = 1)) => ?_, fun (c5 : (¬ ((v1 : Int) = 1))) => ?_⟩
      ·
        refine ⟨_, hp2.1.1, (by have := hp2.2; show _ < 254; omega), ?_⟩
        have a6 : -2147483648 ≤ (I (1 + 19 + 5 * Int.toNat v0) 1) ∧ (I (1 + 19 + 5 * Int.toNat v0) 1) < 2147483648 := hA.1 _ _
        exact ⟨rfl, fun hv hA' => hQ _ _ hR hA' (hv _ rfl) (fun _ _ _ => rfl) (show (¬ ((0 ≤ v0 ∧ v0 < I 1 1) ∧ 0 ≤ v1 ∧ v1 ≤ 5) → (I (1 + 19 + 5 * Int.toNat v0) 1) = -1000001) ∧ (((0 ≤ v0 ∧ v0 < I 1 1) ∧ 0 ≤ v1 ∧ v1 ≤ 5) → (v1 = 0 → (I (1 + 19 + 5 * Int.toNat v0) 1) = I (1 + 19 + 5 * Int.toNat v0) 0) ∧ (v1 = 1 → (I (1 + 19 + 5 * Int.toNat v0) 1) = I (1 + 19 + 5 * Int.toNat v0) 1) ∧ (v1 = 2 → (I (1 + 19 + 5 * Int.toNat v0) 1) = I (1 + 19 + 5 * Int.toNat v0) 2) ∧ (v1 = 3 → (I (1 + 19 + 5 * Int.toNat v0) 1) = I (1 + 19 + 5 * Int.toNat v0) 4) ∧ (v1 = 4 → (I (1 + 19 + 5 * Int.toNat v0) 1) = I ((1 + 19 + 5 * Int.toNat v0) + 2) 2) ∧ (v1 = 5 → (I (1 + 19 + 5 * Int.toNat v0) 1) = gdC (nz (I (((1 + 19 + 5 * Int.toNat v0) + 2) + 2)) (I ((1 + 19 + 5 * Int.toNat v0) + 2) 2)) (Int.toNat (I ((1 + 19 + 5 * Int.toNat v0) + 2) 2)))) from by
                              refine ⟨fun z => ?_, fun z => ⟨fun b => ?_, fun b => ?_, fun b => ?_, fun b => ?_, fun b => ?_, fun b => ?_⟩⟩
                              all_goals first | rfl | omega | (exfalso; omega))⟩
      ·
        refine ⟨fun (c7 : ((v1 : Int) = 2)) => ?_, fun (c7 : (¬ ((v1 : Int) = 2))) => ?_⟩
        ·
          refine ⟨_, hp2.1.1, (by have := hp2.2; show _ < 254; omega), ?_⟩
          have a8 : -2147483648 ≤ (I (1 + 19 + 5 * Int.toNat v0) 2) ∧ (I (1 + 19 + 5 * Int.toNat v0) 2) < 2147483648 := hA.1 _ _
          exact ⟨rfl, fun hv hA' => hQ _ _ hR hA' (hv _ rfl) (fun _ _ _ => rfl) (show (¬ ((0 ≤ v0 ∧ v0 < I 1 1) ∧ 0 ≤ v1 ∧ v1 ≤ 5) → (I (1 + 19 + 5 * Int.toNat v0) 2) = -1000001) ∧ (((0 ≤ v0 ∧ v0 < I 1 1) ∧ 0 ≤ v1 ∧ v1 ≤ 5) → (v1 = 0 → (I (1 + 19 + 5 * Int.toNat v0) 2) = I (1 + 19 + 5 * Int.toNat v0) 0) ∧ (v1 = 1 → (I (1 + 19 + 5 * Int.toNat v0) 2) = I (1 + 19 + 5 * Int.toNat v0) 1) ∧ (v1 = 2 → (I (1 + 19 + 5 * Int.toNat v0) 2) = I (1 + 19 + 5 * Int.toNat v0) 2) ∧ (v1 = 3 → (I (1 + 19 + 5 * Int.toNat v0) 2) = I (1 + 19 + 5 * Int.toNat v0) 4) ∧ (v1 = 4 → (I (1 + 19 + 5 * Int.toNat v0) 2) = I ((1 + 19 + 5 * Int.toNat v0) + 2) 2) ∧ (v1 = 5 → (I (1 + 19 + 5 * Int.toNat v0) 2) = gdC (nz (I (((1 + 19 + 5 * Int.toNat v0) + 2) + 2)) (I ((1 + 19 + 5 * Int.toNat v0) + 2) 2)) (Int.toNat (I ((1 + 19 + 5 * Int.toNat v0) + 2) 2)))) from by
                              refine ⟨fun z => ?_, fun z => ⟨fun b => ?_, fun b => ?_, fun b => ?_, fun b => ?_, fun b => ?_, fun b => ?_⟩⟩
                              all_goals first | rfl | omega | (exfalso; omega))⟩
        ·
          refine ⟨fun (c9 : ((v1 : Int) = 3)) => ?_, fun (c9 : (¬ ((v1 : Int) = 3))) => ?_⟩
          ·
            refine ⟨_, hp2.1.1, (by have := hp2.2; show _ < 254; omega), ?_⟩
            have a10 : -2147483648 ≤ (I (1 + 19 + 5 * Int.toNat v0) 4) ∧ (I (1 + 19 + 5 * Int.toNat v0) 4) < 2147483648 := hA.1 _ _
            exact ⟨rfl, fun hv hA' => hQ _ _ hR hA' (hv _ rfl) (fun _ _ _ => rfl) (show (¬ ((0 ≤ v0 ∧ v0 < I 1 1) ∧ 0 ≤ v1 ∧ v1 ≤ 5) → (I (1 + 19 + 5 * Int.toNat v0) 4) = -1000001) ∧ (((0 ≤ v0 ∧ v0 < I 1 1) ∧ 0 ≤ v1 ∧ v1 ≤ 5) → (v1 = 0 → (I (1 + 19 + 5 * Int.toNat v0) 4) = I (1 + 19 + 5 * Int.toNat v0) 0) ∧ (v1 = 1 → (I (1 + 19 + 5 * Int.toNat v0) 4) = I (1 + 19 + 5 * Int.toNat v0) 1) ∧ (v1 = 2 → (I (1 + 19 + 5 * Int.toNat v0) 4) = I (1 + 19 + 5 * Int.toNat v0) 2) ∧ (v1 = 3 → (I (1 + 19 + 5 * Int.toNat v0) 4) = I (1 + 19 + 5 * Int.toNat v0) 4) ∧ (v1 = 4 → (I (1 + 19 + 5 * Int.toNat v0) 4) = I ((1 + 19 + 5 * Int.toNat v0) + 2) 2) ∧ (v1 = 5 → (I (1 + 19 + 5 * Int.toNat v0) 4) = gdC (nz (I (((1 + 19 + 5 * Int.toNat v0) + 2) + 2)) (I ((1 + 19 + 5 * Int.toNat v0) + 2) 2)) (Int.toNat (I ((1 + 19 + 5 * Int.toNat v0) + 2) 2)))) from by
                              refine ⟨fun z => ?_, fun z => ⟨fun b => ?_, fun b => ?_, fun b => ?_, fun b => ?_, fun b => ?_, fun b => ?_⟩⟩
                              all_goals first | rfl | omega | (exfalso; omega))⟩
          ·
            refine ⟨fun (c11 : ((v1 : Int) = 4)) => ?_, fun (c11 : (¬ ((v1 : Int) = 4))) => ?_⟩
            ·
              refine ⟨_, hp2.1.1, (by have := hp2.2; show _ < 254; omega), ?_⟩
              refine fun w0 hw0 => ?_; obtain rfl : w0 = some ((1 + 19 + 5 * Int.toNat v0) + 2) := hw0.symm.trans hp2.1.2.2.2.2.1
              refine ⟨_, hp2.r.1.1, (by have := hp2.r.2; show _ < 254; omega), ?_⟩
              have a12 : -2147483648 ≤ (I ((1 + 19 + 5 * Int.toNat v0) + 2) 2) ∧ (I ((1 + 19 + 5 * Int.toNat v0) + 2) 2) < 2147483648 := hA.1 _ _
              exact ⟨rfl, fun hv hA' => hQ _ _ hR hA' (hv _ rfl) (fun _ _ _ => rfl) (show (¬ ((0 ≤ v0 ∧ v0 < I 1 1) ∧ 0 ≤ v1 ∧ v1 ≤ 5) → (I ((1 + 19 + 5 * Int.toNat v0) + 2) 2) = -1000001) ∧ (((0 ≤ v0 ∧ v0 < I 1 1) ∧ 0 ≤ v1 ∧ v1 ≤ 5) → (v1 = 0 → (I ((1 + 19 + 5 * Int.toNat v0) + 2) 2) = I (1 + 19 + 5 * Int.toNat v0) 0) ∧ (v1 = 1 → (I ((1 + 19 + 5 * Int.toNat v0) + 2) 2) = I (1 + 19 + 5 * Int.toNat v0) 1) ∧ (v1 = 2 → (I ((1 + 19 + 5 * Int.toNat v0) + 2) 2) = I (1 + 19 + 5 * Int.toNat v0) 2) ∧ (v1 = 3 → (I ((1 + 19 + 5 * Int.toNat v0) + 2) 2) = I (1 + 19 + 5 * Int.toNat v0) 4) ∧ (v1 = 4 → (I ((1 + 19 + 5 * Int.toNat v0) + 2) 2) = I ((1 + 19 + 5 * Int.toNat v0) + 2) 2) ∧ (v1 = 5 → (I ((1 + 19 + 5 * Int.toNat v0) + 2) 2) = gdC (nz (I (((1 + 19 + 5 * Int.toNat v0) + 2) + 2)) (I ((1 + 19 + 5 * Int.toNat v0) + 2) 2)) (Int.toNat (I ((1 + 19 + 5 * Int.toNat v0) + 2) 2)))) from by
                              refine ⟨fun z => ?_, fun z => ⟨fun b => ?_, fun b => ?_, fun b => ?_, fun b => ?_, fun b => ?_, fun b => ?_⟩⟩
                              all_goals first | rfl | omega | (exfalso; omega))⟩
            ·
              refine ⟨fun (c13 : ((v1 : Int) = 5)) => ?_, fun (c13 : (¬ ((v1 : Int) = 5))) => ?_⟩
              ·
                refine ⟨_, hp2.1.1, (by have := hp2.2; show _ < 254; omega), ?_⟩
                refine fun w0 hw0 => ?_; obtain rfl : w0 = some ((1 + 19 + 5 * Int.toNat v0) + 2) := hw0.symm.trans hp2.1.2.2.2.2.1
                refine ⟨⟨_, hp2.r.1.1, (by have := hp2.r.2; show _ < 254; omega)⟩, ?_⟩
                refine c_good10  hF hR hp2.r (hs _ (by omega)) (fun vr14 hr15 qr16 => ?_)
                have hr15 : -2147483648 ≤ vr14 ∧ vr14 < 2147483648 := hr15
                exact ⟨rfl, fun hv hA' => hQ _ _ hR hA' (hv _ rfl) (fun _ _ _ => rfl) (show (¬ ((0 ≤ v0 ∧ v0 < I 1 1) ∧ 0 ≤ v1 ∧ v1 ≤ 5) → vr14 = -1000001) ∧ (((0 ≤ v0 ∧ v0 < I 1 1) ∧ 0 ≤ v1 ∧ v1 ≤ 5) → (v1 = 0 → vr14 = I (1 + 19 + 5 * Int.toNat v0) 0) ∧ (v1 = 1 → vr14 = I (1 + 19 + 5 * Int.toNat v0) 1) ∧ (v1 = 2 → vr14 = I (1 + 19 + 5 * Int.toNat v0) 2) ∧ (v1 = 3 → vr14 = I (1 + 19 + 5 * Int.toNat v0) 4) ∧ (v1 = 4 → vr14 = I ((1 + 19 + 5 * Int.toNat v0) + 2) 2) ∧ (v1 = 5 → vr14 = gdC (nz (I (((1 + 19 + 5 * Int.toNat v0) + 2) + 2)) (I ((1 + 19 + 5 * Int.toNat v0) + 2) 2)) (Int.toNat (I ((1 + 19 + 5 * Int.toNat v0) + 2) 2)))) from by
                              refine ⟨fun z => ?_, fun z => ⟨fun b => ?_, fun b => ?_, fun b => ?_, fun b => ?_, fun b => ?_, fun b => ?_⟩⟩
                              all_goals first | rfl | omega | (exfalso; omega) | (exact qr16))⟩
              ·
                refine ⟨⟨_, rfl, (by decide)⟩, ?_⟩
                refine s_X11_refuse hF (e := 1) (by decide) ?_
                exact ⟨rfl, fun hv hA' => hQ _ _ (Rg.u hR (Pr_f rfl)) hA' (hv _ rfl) (fun ka ja hk => (uI_o (show ¬ (ka = 203 ∧ ja = 1) from by omega))) (show (¬ ((0 ≤ v0 ∧ v0 < I 1 1) ∧ 0 ≤ v1 ∧ v1 ≤ 5) → (-1000001) = -1000001) ∧ (((0 ≤ v0 ∧ v0 < I 1 1) ∧ 0 ≤ v1 ∧ v1 ≤ 5) → (v1 = 0 → (-1000001) = I (1 + 19 + 5 * Int.toNat v0) 0) ∧ (v1 = 1 → (-1000001) = I (1 + 19 + 5 * Int.toNat v0) 1) ∧ (v1 = 2 → (-1000001) = I (1 + 19 + 5 * Int.toNat v0) 2) ∧ (v1 = 3 → (-1000001) = I (1 + 19 + 5 * Int.toNat v0) 4) ∧ (v1 = 4 → (-1000001) = I ((1 + 19 + 5 * Int.toNat v0) + 2) 2) ∧ (v1 = 5 → (-1000001) = gdC (nz (I (((1 + 19 + 5 * Int.toNat v0) + 2) + 2)) (I ((1 + 19 + 5 * Int.toNat v0) + 2) 2)) (Int.toNat (I ((1 + 19 + 5 * Int.toNat v0) + 2) 2)))) from by
                              refine ⟨fun z => ?_, fun z => ⟨fun b => ?_, fun b => ?_, fun b => ?_, fun b => ?_, fun b => ?_, fun b => ?_⟩⟩
                              all_goals first | rfl | omega | (exfalso; omega))⟩
  ·
    refine ⟨⟨_, rfl, (by decide)⟩, ?_⟩
    refine s_X11_refuse hF (e := 1) (by decide) ?_
    exact ⟨rfl, fun hv hA' => hQ _ _ (Rg.u hR (Pr_f rfl)) hA' (hv _ rfl) (fun ka ja hk => (uI_o (show ¬ (ka = 203 ∧ ja = 1) from by omega))) (show (¬ ((0 ≤ v0 ∧ v0 < I 1 1) ∧ 0 ≤ v1 ∧ v1 ≤ 5) → (-1000001) = -1000001) ∧ (((0 ≤ v0 ∧ v0 < I 1 1) ∧ 0 ≤ v1 ∧ v1 ≤ 5) → (v1 = 0 → (-1000001) = I (1 + 19 + 5 * Int.toNat v0) 0) ∧ (v1 = 1 → (-1000001) = I (1 + 19 + 5 * Int.toNat v0) 1) ∧ (v1 = 2 → (-1000001) = I (1 + 19 + 5 * Int.toNat v0) 2) ∧ (v1 = 3 → (-1000001) = I (1 + 19 + 5 * Int.toNat v0) 4) ∧ (v1 = 4 → (-1000001) = I ((1 + 19 + 5 * Int.toNat v0) + 2) 2) ∧ (v1 = 5 → (-1000001) = gdC (nz (I (((1 + 19 + 5 * Int.toNat v0) + 2) + 2)) (I ((1 + 19 + 5 * Int.toNat v0) + 2) 2)) (Int.toNat (I ((1 + 19 + 5 * Int.toNat v0) + 2) 2)))) from by
                              refine ⟨fun z => ?_, fun z => ⟨fun b => ?_, fun b => ?_, fun b => ?_, fun b => ?_, fun b => ?_, fun b => ?_⟩⟩
                              all_goals first | rfl | omega | (exfalso; omega))⟩
theorem r_pieceIs10_l (hF : FS F) (hR : Rg I) {v0 v1 : Int} (hp : 0 ≤ v0 ∧ v0 ≤ 13) (hw : 0 ≤ v1 ∧ v1 ≤ 5) (hn : 0 ≤ I 236 (304 + 66 * (Int.toNat v0) + 4) ∧ I 236 (304 + 66 * (Int.toNat v0) + 4) ≤ 24) (hQ : ∀ (r : Int) , ((v1 = 0 → r = I 236 (304 + 66 * (Int.toNat v0))) ∧ (v1 = 1 → r = I 236 (304 + 66 * (Int.toNat v0) + 1)) ∧ (v1 = 2 → r = I 236 (304 + 66 * (Int.toNat v0) + 2)) ∧ (v1 = 3 → r = I 236 (304 + 66 * (Int.toNat v0) + 3)) ∧ (v1 = 4 → r = I 236 (304 + 66 * (Int.toNat v0) + 4)) ∧ (v1 = 5 → r = gdC (nz (fun k => I 236 (304 + 66 * (Int.toNat v0) + 18 + 2 * k)) (I 236 (304 + 66 * (Int.toNat v0) + 4))) (Int.toNat (I 236 (304 + 66 * (Int.toNat v0) + 4))))) → Q (some (vi r)) F I) : ∀ (mz : Nat) (g i : Int) , ((0 : Int) ≤ g) → ((g : Int) ≤ 24) → ((0 : Int) ≤ i) → ((i : Int) ≤ 24) → (i ≤ I 236 (304 + 66 * (Int.toNat v0) + 4)) → (g ≤ i) → (g = gdC (nz (fun k => I 236 (304 + 66 * (Int.toNat v0) + 18 + 2 * k)) (I 236 (304 + 66 * (Int.toNat v0) + 4))) (Int.toNat i)) → (24 - i).toNat < mz → GoN G (d + 3) kX12_pieceIs NP NP 30 [some (vr 235), some (vi v0), some (vi v1), some (vi g), some (vi i)] [] F I Q := by
  intro mz
  induction mz with
  | zero => intro g i _ _ _ _ _ _ _ h; exact absurd h (Nat.not_lt_zero _)
  | succ mz ih =>
    intro g i cc100 cc101 cc102 cc103 cc104 cc105 cc106 hm
    refine GoN_in (fun hok hA => ?_)
    have iiv0 : -2147483648 ≤ v0 ∧ v0 < 2147483648 := hok 1 _ rfl
    have iiv1 : -2147483648 ≤ v1 ∧ v1 < 2147483648 := hok 2 _ rfl
    have iig : -2147483648 ≤ g ∧ g < 2147483648 := hok 3 _ rfl
    have iii : -2147483648 ≤ i ∧ i < 2147483648 := hok 4 _ rfl
    refine Go_wp (by decide) ckX12_pieceIs [30] ?_
    refine ⟨⟨_, rfl, (by decide)⟩, ?_⟩
    refine Call_wp (lv := [some (vr 235), some (vi v0)]) (by decide) ckX12_many [] rfl rfl ?_
    refine ⟨⟨_, rfl, (by decide)⟩, ?_⟩
    refine Call_wp (lv := [some (vr 235), some (vi v0), some (vi 4)]) (by decide) ckX12_of [] rfl rfl ?_
    refine ⟨_, rfl, (by decide), ?_⟩
    refine fun w0 hw0 => ?_; obtain rfl : w0 = some 236 := hw0.symm.trans (FS.g hF rfl)
    have n1 : (wr (66 * v0)) = 66 * v0 := wr_id (show -2147483648 ≤ (66 * v0 : Int) ∧ (66 * v0 : Int) < 2147483648 from by omega)
    have n2 : (wr (304 + (wr (66 * v0)))) = 304 + (wr (66 * v0)) := wr_id (show -2147483648 ≤ (304 + (wr (66 * v0)) : Int) ∧ (304 + (wr (66 * v0)) : Int) < 2147483648 from by omega)
    have n3 : (wr ((wr (304 + (wr (66 * v0)))) + 4)) = (wr (304 + (wr (66 * v0)))) + 4 := wr_id (show -2147483648 ≤ ((wr (304 + (wr (66 * v0)))) + 4 : Int) ∧ ((wr (304 + (wr (66 * v0)))) + 4 : Int) < 2147483648 from by omega)
    refine ⟨_, rfl, (by decide), (show (0 : Int) ≤ (wr ((wr (304 + (wr (66 * v0)))) + 4)) from by first | with_reducible assumption | omega | (simp only [wr, wl] at *; omega)), (show (wr ((wr (304 + (wr (66 * v0)))) + 4)) < (1340 : Int) from by first | with_reducible assumption | omega | (simp only [wr, wl] at *; omega)), ?_⟩
    have z4 : (I 236 (Int.toNat (wr ((wr (304 + (wr (66 * v0)))) + 4)))) = I 236 (304 + 66 * (Int.toNat v0) + 4) := congrArg (I 236) (by omega)
    have r5 : 0 ≤ (I 236 (Int.toNat (wr ((wr (304 + (wr (66 * v0)))) + 4)))) ∧ (I 236 (Int.toNat (wr ((wr (304 + (wr (66 * v0)))) + 4)))) ≤ 24 := Pn_p4 (p := (Int.toNat v0)) (by omega) (by omega) (hR.n (Int.toNat (wr ((wr (304 + (wr (66 * v0)))) + 4))) (by omega))
    refine ⟨rfl, ?_⟩
    refine ⟨rfl, ?_⟩
    refine ⟨fun (c7 : (((I 236 (Int.toNat (wr ((wr (304 + (wr (66 * v0)))) + 4)))) : Int) ≤ i)) => ?_, fun (c7 : (¬ (((I 236 (Int.toNat (wr ((wr (304 + (wr (66 * v0)))) + 4)))) : Int) ≤ i))) => ?_⟩
    ·
      refine ⟨fun (c8 : ((5 : Int) ≤ v1)) => ?_, fun (c8 : (¬ ((5 : Int) ≤ v1))) => ?_⟩
      ·
        exact ⟨rfl, hQ _ (show (v1 = 0 → g = I 236 (304 + 66 * (Int.toNat v0))) ∧ (v1 = 1 → g = I 236 (304 + 66 * (Int.toNat v0) + 1)) ∧ (v1 = 2 → g = I 236 (304 + 66 * (Int.toNat v0) + 2)) ∧ (v1 = 3 → g = I 236 (304 + 66 * (Int.toNat v0) + 3)) ∧ (v1 = 4 → g = I 236 (304 + 66 * (Int.toNat v0) + 4)) ∧ (v1 = 5 → g = gdC (nz (fun k => I 236 (304 + 66 * (Int.toNat v0) + 18 + 2 * k)) (I 236 (304 + 66 * (Int.toNat v0) + 4))) (Int.toNat (I 236 (304 + 66 * (Int.toNat v0) + 4)))) from by
                              have h := cc106
                              refine ⟨fun b => ?_, fun b => ?_, fun b => ?_, fun b => ?_, fun b => ?_, fun b => ?_⟩
                              all_goals first | omega | (exfalso; omega) | (exact congrArg (I 236) (by omega)) | (rw [show Int.toNat (I 236 (304 + 66 * (Int.toNat v0) + 4)) = Int.toNat i from by omega]; exact h))⟩
      ·
        refine ⟨⟨_, rfl, (by decide)⟩, ?_⟩
        refine Call_wp (lv := [some (vr 235), some (vi v0), some (vi v1)]) (by decide) ckX12_of [] rfl rfl ?_
        refine ⟨_, rfl, (by decide), ?_⟩
        refine fun w0 hw0 => ?_; obtain rfl : w0 = some 236 := hw0.symm.trans (FS.g hF rfl)
        have n9 : (wr ((wr (304 + (wr (66 * v0)))) + v1)) = (wr (304 + (wr (66 * v0)))) + v1 := wr_id (show -2147483648 ≤ ((wr (304 + (wr (66 * v0)))) + v1 : Int) ∧ ((wr (304 + (wr (66 * v0)))) + v1 : Int) < 2147483648 from by omega)
        refine ⟨_, rfl, (by decide), (show (0 : Int) ≤ (wr ((wr (304 + (wr (66 * v0)))) + v1)) from by first | with_reducible assumption | omega | (simp only [wr, wl] at *; omega)), (show (wr ((wr (304 + (wr (66 * v0)))) + v1)) < (1340 : Int) from by first | with_reducible assumption | omega | (simp only [wr, wl] at *; omega)), ?_⟩
        refine ⟨rfl, ?_⟩
        exact ⟨rfl, hQ _ (show (v1 = 0 → (I 236 (Int.toNat (wr ((wr (304 + (wr (66 * v0)))) + v1)))) = I 236 (304 + 66 * (Int.toNat v0))) ∧ (v1 = 1 → (I 236 (Int.toNat (wr ((wr (304 + (wr (66 * v0)))) + v1)))) = I 236 (304 + 66 * (Int.toNat v0) + 1)) ∧ (v1 = 2 → (I 236 (Int.toNat (wr ((wr (304 + (wr (66 * v0)))) + v1)))) = I 236 (304 + 66 * (Int.toNat v0) + 2)) ∧ (v1 = 3 → (I 236 (Int.toNat (wr ((wr (304 + (wr (66 * v0)))) + v1)))) = I 236 (304 + 66 * (Int.toNat v0) + 3)) ∧ (v1 = 4 → (I 236 (Int.toNat (wr ((wr (304 + (wr (66 * v0)))) + v1)))) = I 236 (304 + 66 * (Int.toNat v0) + 4)) ∧ (v1 = 5 → (I 236 (Int.toNat (wr ((wr (304 + (wr (66 * v0)))) + v1)))) = gdC (nz (fun k => I 236 (304 + 66 * (Int.toNat v0) + 18 + 2 * k)) (I 236 (304 + 66 * (Int.toNat v0) + 4))) (Int.toNat (I 236 (304 + 66 * (Int.toNat v0) + 4)))) from by
                              have h := cc106
                              refine ⟨fun b => ?_, fun b => ?_, fun b => ?_, fun b => ?_, fun b => ?_, fun b => ?_⟩
                              all_goals first | omega | (exfalso; omega) | (exact congrArg (I 236) (by omega)) | (rw [show Int.toNat (I 236 (304 + 66 * (Int.toNat v0) + 4)) = Int.toNat i from by omega]; exact h))⟩
    ·
      refine ⟨⟨_, rfl, (by decide)⟩, ?_⟩
      refine Call_wp (lv := [some (vr 235), some (vi v0), some (vi i)]) (by decide) ckX12_isGood [] rfl rfl ?_
      refine ⟨⟨_, rfl, (by decide)⟩, ?_⟩
      refine Call_wp (lv := [some (vr 235), some (vi v0), some (vi i)]) (by decide) ckX12_load [] rfl rfl ?_
      refine ⟨⟨_, rfl, (by decide)⟩, ?_⟩
      refine Call_wp (lv := [some (vr 235), some (vi v0), some (vi (wr ((wr (17 + (wr (2 * i)))) + 1)))]) (by decide) ckX12_of [] rfl rfl ?_
      refine ⟨_, rfl, (by decide), ?_⟩
      refine fun w0 hw0 => ?_; obtain rfl : w0 = some 236 := hw0.symm.trans (FS.g hF rfl)
      have n10 : (wr (2 * i)) = 2 * i := wr_id (show -2147483648 ≤ (2 * i : Int) ∧ (2 * i : Int) < 2147483648 from by omega)
      have n11 : (wr (17 + (wr (2 * i)))) = 17 + (wr (2 * i)) := wr_id (show -2147483648 ≤ (17 + (wr (2 * i)) : Int) ∧ (17 + (wr (2 * i)) : Int) < 2147483648 from by omega)
      have n12 : (wr ((wr (17 + (wr (2 * i)))) + 1)) = (wr (17 + (wr (2 * i)))) + 1 := wr_id (show -2147483648 ≤ ((wr (17 + (wr (2 * i)))) + 1 : Int) ∧ ((wr (17 + (wr (2 * i)))) + 1 : Int) < 2147483648 from by omega)
      have n13 : (wr ((wr (304 + (wr (66 * v0)))) + (wr ((wr (17 + (wr (2 * i)))) + 1)))) = (wr (304 + (wr (66 * v0)))) + (wr ((wr (17 + (wr (2 * i)))) + 1)) := wr_id (show -2147483648 ≤ ((wr (304 + (wr (66 * v0)))) + (wr ((wr (17 + (wr (2 * i)))) + 1)) : Int) ∧ ((wr (304 + (wr (66 * v0)))) + (wr ((wr (17 + (wr (2 * i)))) + 1)) : Int) < 2147483648 from by omega)
      refine ⟨_, rfl, (by decide), (show (0 : Int) ≤ (wr ((wr (304 + (wr (66 * v0)))) + (wr ((wr (17 + (wr (2 * i)))) + 1)))) from by first | with_reducible assumption | omega | (simp only [wr, wl] at *; omega)), (show (wr ((wr (304 + (wr (66 * v0)))) + (wr ((wr (17 + (wr (2 * i)))) + 1)))) < (1340 : Int) from by first | with_reducible assumption | omega | (simp only [wr, wl] at *; omega)), ?_⟩
      have z14 : (I 236 (Int.toNat (wr ((wr (304 + (wr (66 * v0)))) + (wr ((wr (17 + (wr (2 * i)))) + 1)))))) = nz (fun k => I 236 (304 + 66 * (Int.toNat v0) + 18 + 2 * k)) (I 236 (304 + 66 * (Int.toNat v0) + 4)) (Int.toNat i) := (congrArg (I 236) (by omega)).trans (nz_i (f := (fun k => I 236 (304 + 66 * (Int.toNat v0) + 18 + 2 * k))) (n := I 236 (304 + 66 * (Int.toNat v0) + 4)) (by omega)).symm
      refine ⟨rfl, ?_⟩
      refine ⟨rfl, ?_⟩
      have a15 : -2147483648 ≤ (I 236 (Int.toNat (wr ((wr (304 + (wr (66 * v0)))) + (wr ((wr (17 + (wr (2 * i)))) + 1)))))) ∧ (I 236 (Int.toNat (wr ((wr (304 + (wr (66 * v0)))) + (wr ((wr (17 + (wr (2 * i)))) + 1)))))) < 2147483648 := hA.1 _ _
      refine ⟨fun (c16 : (((I 236 (Int.toNat (wr ((wr (304 + (wr (66 * v0)))) + (wr ((wr (17 + (wr (2 * i)))) + 1)))))) : Int) < 0)) => ?_, fun (c16 : (¬ (((I 236 (Int.toNat (wr ((wr (304 + (wr (66 * v0)))) + (wr ((wr (17 + (wr (2 * i)))) + 1)))))) : Int) < 0))) => ?_⟩
      ·
        refine ⟨rfl, (by decide), ?_⟩
        refine ⟨fun _ => ?_, fun c => absurd (show ((0 : Int) = 0) from by decide) c⟩
        have n17 : (wr (g + 0)) = g + 0 := wr_id (show -2147483648 ≤ (g + 0 : Int) ∧ (g + 0 : Int) < 2147483648 from by omega)
        have n18 : (wr (i + 1)) = i + 1 := wr_id (show -2147483648 ≤ (i + 1 : Int) ∧ (i + 1 : Int) < 2147483648 from by omega)
        exact ih (wr (g + 0)) (wr (i + 1))  (show (0 : Int) ≤ (wr (g + 0)) from by first | with_reducible assumption | omega | (simp only [wr, wl] at *; omega)) (show ((wr (g + 0)) : Int) ≤ 24 from by first | with_reducible assumption | omega | (simp only [wr, wl] at *; omega)) (show (0 : Int) ≤ (wr (i + 1)) from by first | with_reducible assumption | omega | (simp only [wr, wl] at *; omega)) (show ((wr (i + 1)) : Int) ≤ 24 from by first | with_reducible assumption | omega | (simp only [wr, wl] at *; omega)) (show (wr (i + 1)) ≤ I 236 (304 + 66 * (Int.toNat v0) + 4) from by first | with_reducible assumption | omega | (simp only [wr, wl] at *; omega)) (show (wr (g + 0)) ≤ (wr (i + 1)) from by first | with_reducible assumption | omega | (simp only [wr, wl] at *; omega)) ((by
                              have k := gdC_s (L := nz (fun k => I 236 (304 + 66 * (Int.toNat v0) + 18 + 2 * k)) (I 236 (304 + 66 * (Int.toNat v0) + 4))) (k := Int.toNat i)
                              have h := cc106
                              rw [show Int.toNat (wr (i + 1)) = Int.toNat i + 1 from by omega]
                              omega)) (show (24 - (wr (i + 1))).toNat < mz from by omega)
      ·
        refine ⟨rfl, (by decide), ?_⟩
        refine ⟨fun c => absurd c (show (¬ ((1 : Int) = 0)) from by decide), fun _ => ?_⟩
        have n19 : (wr (g + 1)) = g + 1 := wr_id (show -2147483648 ≤ (g + 1 : Int) ∧ (g + 1 : Int) < 2147483648 from by omega)
        have n20 : (wr (i + 1)) = i + 1 := wr_id (show -2147483648 ≤ (i + 1 : Int) ∧ (i + 1 : Int) < 2147483648 from by omega)
        exact ih (wr (g + 1)) (wr (i + 1))  (show (0 : Int) ≤ (wr (g + 1)) from by first | with_reducible assumption | omega | (simp only [wr, wl] at *; omega)) (show ((wr (g + 1)) : Int) ≤ 24 from by first | with_reducible assumption | omega | (simp only [wr, wl] at *; omega)) (show (0 : Int) ≤ (wr (i + 1)) from by first | with_reducible assumption | omega | (simp only [wr, wl] at *; omega)) (show ((wr (i + 1)) : Int) ≤ 24 from by first | with_reducible assumption | omega | (simp only [wr, wl] at *; omega)) (show (wr (i + 1)) ≤ I 236 (304 + 66 * (Int.toNat v0) + 4) from by first | with_reducible assumption | omega | (simp only [wr, wl] at *; omega)) (show (wr (g + 1)) ≤ (wr (i + 1)) from by first | with_reducible assumption | omega | (simp only [wr, wl] at *; omega)) ((by
                              have k := gdC_s (L := nz (fun k => I 236 (304 + 66 * (Int.toNat v0) + 18 + 2 * k)) (I 236 (304 + 66 * (Int.toNat v0) + 4))) (k := Int.toNat i)
                              have h := cc106
                              rw [show Int.toNat (wr (i + 1)) = Int.toNat i + 1 from by omega]
                              omega)) (show (24 - (wr (i + 1))).toNat < mz from by omega)
theorem r_pieceIs10 (hF : FS F) (hR : Rg I) {v0 v1 : Int} (hs : ∀ p : Nat, (p : Int) < I 236 0 → 0 ≤ I 236 (304 + 66 * p + 4) ∧ I 236 (304 + 66 * p + 4) ≤ 24) (hQ : ∀ (r : Int) (I' : pI), Rg I' → AR I' → iR r → (∀ k j, ¬ (k = 238) → I' k j = I k j) → ((¬ ((0 ≤ v0 ∧ v0 < I 236 0) ∧ 0 ≤ v1 ∧ v1 ≤ 5) → r = -1000001) ∧ (((0 ≤ v0 ∧ v0 < I 236 0) ∧ 0 ≤ v1 ∧ v1 ≤ 5) → (v1 = 0 → r = I 236 (304 + 66 * (Int.toNat v0))) ∧ (v1 = 1 → r = I 236 (304 + 66 * (Int.toNat v0) + 1)) ∧ (v1 = 2 → r = I 236 (304 + 66 * (Int.toNat v0) + 2)) ∧ (v1 = 3 → r = I 236 (304 + 66 * (Int.toNat v0) + 3)) ∧ (v1 = 4 → r = I 236 (304 + 66 * (Int.toNat v0) + 4)) ∧ (v1 = 5 → r = gdC (nz (fun k => I 236 (304 + 66 * (Int.toNat v0) + 18 + 2 * k)) (I 236 (304 + 66 * (Int.toNat v0) + 4))) (Int.toNat (I 236 (304 + 66 * (Int.toNat v0) + 4)))))) → Q (some (vi r)) F I') : CallN G (d + 3) kX12_pieceIs [vr 235, vi v0, vi v1] NP F I Q := by
  refine CallN_in (fun hok hA => CallN_out ?_)
  have iv0 : -2147483648 ≤ v0 ∧ v0 < 2147483648 := hok (vi v0) (by simp)
  have iv1 : -2147483648 ≤ v1 ∧ v1 < 2147483648 := hok (vi v1) (by simp)
  refine Call_wp (lv := [some (vr 235), some (vi v0), some (vi v1), none, none]) (by decide) ckX12_pieceIs [30] rfl rfl ?_
  refine ⟨⟨_, rfl, (by decide)⟩, ?_⟩
  have r1 : 0 ≤ (I 236 0) ∧ (I 236 0) ≤ 14 := Rg.n0 hR
  refine s_X12_is hF (w := 0) (by decide) (show 0 ≤ (I 236 0) ∧ (I 236 0) < 1000000 from by omega) (fun (w2 : (0 ≤ v0 ∧ v0 < (I 236 0))) => ?_) (fun (w2 : ¬ (0 ≤ v0 ∧ v0 < (I 236 0))) => ?_)
  ·
    refine ⟨fun c => absurd c (show (¬ ((1 : Int) = 0)) from by decide), fun _ => ?_⟩
    refine s_X12_within (fun (w3 : ((0 : Int) ≤ v1 ∧ (v1 : Int) ≤ 5)) => ?_) (fun (w3 : ¬ ((0 : Int) ≤ v1 ∧ (v1 : Int) ≤ 5)) => ?_)
    ·
      refine ⟨fun _ => ?_, fun c => absurd c (show (¬ (1 : Int) = 0) from by decide)⟩
      have hs0 := hs (Int.toNat v0) (by omega)
      refine r_pieceIs10_l hF hR (by omega) (by omega) (hs _ (by omega)) (fun r g3 hv hA' => hQ _ _ hR hA' (hv _ rfl) (fun _ _ _ => rfl) ⟨fun z => absurd (by omega) z, fun _ => g3⟩) _ 0 0  (show (0 : Int) ≤ (0 : Int) from Int.le_refl _) (show ((0 : Int) : Int) ≤ 24 from by first | with_reducible assumption | omega | (simp only [wr, wl] at *; omega)) (show (0 : Int) ≤ (0 : Int) from Int.le_refl _) (show ((0 : Int) : Int) ≤ 24 from by first | with_reducible assumption | omega | (simp only [wr, wl] at *; omega)) (show (0 : Int) ≤ I 236 (304 + 66 * (Int.toNat v0) + 4) from by first | with_reducible assumption | omega | (simp only [wr, wl] at *; omega)) (show (0 : Int) ≤ (0 : Int) from Int.le_refl _) (rfl) (Nat.lt_succ_self _)
    ·
      refine ⟨fun c => absurd (show ((0 : Int) = 0) from by decide) c, fun _ => ?_⟩
      refine ⟨⟨_, rfl, (by decide)⟩, ?_⟩
      refine s_X12_finding hF (v := (-1000001)) (by decide) ?_
      exact ⟨rfl, fun hv hA' => hQ _ _ (Rg.u hR (Pr_f rfl)) hA' (hv _ rfl) (fun ka ja hk => (uI_o (show ¬ (ka = 238 ∧ ja = 1) from by omega))) (show (¬ ((0 ≤ v0 ∧ v0 < I 236 0) ∧ 0 ≤ v1 ∧ v1 ≤ 5) → (-1000001) = -1000001) ∧ (((0 ≤ v0 ∧ v0 < I 236 0) ∧ 0 ≤ v1 ∧ v1 ≤ 5) → (v1 = 0 → (-1000001) = I 236 (304 + 66 * (Int.toNat v0))) ∧ (v1 = 1 → (-1000001) = I 236 (304 + 66 * (Int.toNat v0) + 1)) ∧ (v1 = 2 → (-1000001) = I 236 (304 + 66 * (Int.toNat v0) + 2)) ∧ (v1 = 3 → (-1000001) = I 236 (304 + 66 * (Int.toNat v0) + 3)) ∧ (v1 = 4 → (-1000001) = I 236 (304 + 66 * (Int.toNat v0) + 4)) ∧ (v1 = 5 → (-1000001) = gdC (nz (fun k => I 236 (304 + 66 * (Int.toNat v0) + 18 + 2 * k)) (I 236 (304 + 66 * (Int.toNat v0) + 4))) (Int.toNat (I 236 (304 + 66 * (Int.toNat v0) + 4))))) from by
                              refine ⟨fun z => ?_, fun z => ⟨fun b => ?_, fun b => ?_, fun b => ?_, fun b => ?_, fun b => ?_, fun b => ?_⟩⟩
                              all_goals first | rfl | omega | (exfalso; omega))⟩
  ·
    refine ⟨fun _ => ?_, fun c => absurd (show ((0 : Int) = 0) from by decide) c⟩
    refine ⟨⟨_, rfl, (by decide)⟩, ?_⟩
    refine s_X12_finding hF (v := (-1000001)) (by decide) ?_
    exact ⟨rfl, fun hv hA' => hQ _ _ (Rg.u hR (Pr_f rfl)) hA' (hv _ rfl) (fun ka ja hk => (uI_o (show ¬ (ka = 238 ∧ ja = 1) from by omega))) (show (¬ ((0 ≤ v0 ∧ v0 < I 236 0) ∧ 0 ≤ v1 ∧ v1 ≤ 5) → (-1000001) = -1000001) ∧ (((0 ≤ v0 ∧ v0 < I 236 0) ∧ 0 ≤ v1 ∧ v1 ≤ 5) → (v1 = 0 → (-1000001) = I 236 (304 + 66 * (Int.toNat v0))) ∧ (v1 = 1 → (-1000001) = I 236 (304 + 66 * (Int.toNat v0) + 1)) ∧ (v1 = 2 → (-1000001) = I 236 (304 + 66 * (Int.toNat v0) + 2)) ∧ (v1 = 3 → (-1000001) = I 236 (304 + 66 * (Int.toNat v0) + 3)) ∧ (v1 = 4 → (-1000001) = I 236 (304 + 66 * (Int.toNat v0) + 4)) ∧ (v1 = 5 → (-1000001) = gdC (nz (fun k => I 236 (304 + 66 * (Int.toNat v0) + 18 + 2 * k)) (I 236 (304 + 66 * (Int.toNat v0) + 4))) (Int.toNat (I 236 (304 + 66 * (Int.toNat v0) + 4))))) from by
                              refine ⟨fun z => ?_, fun z => ⟨fun b => ?_, fun b => ?_, fun b => ?_, fun b => ?_, fun b => ?_, fun b => ?_⟩⟩
                              all_goals first | rfl | omega | (exfalso; omega))⟩
end PI10
def PIC (v0 v1 r : Int) (I : pI) : Prop := (¬ ((0 ≤ v0 ∧ v0 < I 1 1) ∧ 0 ≤ v1 ∧ v1 ≤ 5) → r = -1000001) ∧ (((0 ≤ v0 ∧ v0 < I 1 1) ∧ 0 ≤ v1 ∧ v1 ≤ 5) → (v1 = 0 → r = I (1 + 19 + 5 * Int.toNat v0) 0) ∧ (v1 = 1 → r = I (1 + 19 + 5 * Int.toNat v0) 1) ∧ (v1 = 2 → r = I (1 + 19 + 5 * Int.toNat v0) 2) ∧ (v1 = 3 → r = I (1 + 19 + 5 * Int.toNat v0) 4) ∧ (v1 = 4 → r = I ((1 + 19 + 5 * Int.toNat v0) + 2) 2) ∧ (v1 = 5 → r = gdC (nz (I (((1 + 19 + 5 * Int.toNat v0) + 2) + 2)) (I ((1 + 19 + 5 * Int.toNat v0) + 2) 2)) (Int.toNat (I ((1 + 19 + 5 * Int.toNat v0) + 2) 2))))
def PIR (v0 v1 r : Int) (J : pI) : Prop := (¬ ((0 ≤ v0 ∧ v0 < J 236 0) ∧ 0 ≤ v1 ∧ v1 ≤ 5) → r = -1000001) ∧ (((0 ≤ v0 ∧ v0 < J 236 0) ∧ 0 ≤ v1 ∧ v1 ≤ 5) → (v1 = 0 → r = J 236 (304 + 66 * (Int.toNat v0))) ∧ (v1 = 1 → r = J 236 (304 + 66 * (Int.toNat v0) + 1)) ∧ (v1 = 2 → r = J 236 (304 + 66 * (Int.toNat v0) + 2)) ∧ (v1 = 3 → r = J 236 (304 + 66 * (Int.toNat v0) + 3)) ∧ (v1 = 4 → r = J 236 (304 + 66 * (Int.toNat v0) + 4)) ∧ (v1 = 5 → r = gdC (nz (fun k => J 236 (304 + 66 * (Int.toNat v0) + 18 + 2 * k)) (J 236 (304 + 66 * (Int.toNat v0) + 4))) (Int.toNat (J 236 (304 + 66 * (Int.toNat v0) + 4)))))
theorem is_e {I J : pI} {a w r r' : Int} (hR : Rg I) (hP : LPc I) (hL : LRc I) (eO : I 1 1 = I 236 0) (h4 : ∀ k j, 235 ≤ k → J k j = I k j) (c : PIC a w r I) (d : PIR a w r' J) : r = r' := by
  have m := Rg.n0 hR
  have e4 : ∀ j, J 236 j = I 236 j := fun j => h4 236 j (by decide)
  unfold PIR at d
  unfold PIC at c
  simp only [e4] at d
  rw [show 1 + 19 + 5 * Int.toNat a = 20 + 5 * Int.toNat a from by omega] at c
  by_cases v : (0 ≤ a ∧ a < I 1 1) ∧ 0 ≤ w ∧ w ≤ 5
  · obtain ⟨⟨e0, e1, e2, e3⟩, _⟩ := hP (Int.toNat a) (by omega)
    have q := hL (Int.toNat a) (by omega)
    have qn := RQ_n q
    have c1 := c.2 v
    have d1 := d.2 ⟨⟨v.1.1, by omega⟩, v.2⟩
    have t : w = 0 ∨ w = 1 ∨ w = 2 ∨ w = 3 ∨ w = 4 ∨ w = 5 := by omega
    rcases t with t | t | t | t | t | t
    · exact (c1.1 t).trans (e0.trans (d1.1 t).symm)
    · exact (c1.2.1 t).trans (e1.trans (d1.2.1 t).symm)
    · exact (c1.2.2.1 t).trans (e2.trans (d1.2.2.1 t).symm)
    · exact (c1.2.2.2.1 t).trans (e3.trans (d1.2.2.2.1 t).symm)
    · exact (c1.2.2.2.2.1 t).trans (q.1.trans (d1.2.2.2.2.1 t).symm)
    · have x := c1.2.2.2.2.2 t
      rw [qn.2, q.1] at x
      exact x.trans (d1.2.2.2.2.2 t).symm
  · exact (c.1 v).trans (d.1 (fun z => v ⟨⟨z.1.1, by have := z.1.2; omega⟩, z.2⟩)).symm
theorem LRc_c {I : pI} (h : LRc I) (eO : I 1 1 = I 236 0) : ∀ p : Nat, (p : Int) < I 1 1 → 0 ≤ I ((1 + 19 + 5 * p) + 2) 2 ∧ I ((1 + 19 + 5 * p) + 2) 2 ≤ 24 := fun p hp => by
  have z := (h p (by omega)).2.2.1
  rw [show 20 + 5 * p = 1 + 19 + 5 * p from by omega] at z
  exact z
theorem LRc_m {I J : pI} (h : LRc I) (h4 : ∀ j, J 236 j = I 236 j) : ∀ p : Nat, (p : Int) < J 236 0 → 0 ≤ J 236 (304 + 66 * p + 4) ∧ J 236 (304 + 66 * p + 4) ≤ 24 := fun p hp => by
  rw [h4] at hp
  have z := h p hp
  rw [h4, ← z.1]
  exact z.2.2.1
