/-! what top answers. Own work (scripts laid by wip/pm/gen34.py). -/
section TP11
variable {G : pG} {d : Nat} {F : pF} {I : pI} {Q : Option pV → pF → pI → Prop}
theorem c_tops11_l (hF : FS F) (hR : Rg I) {rd : Nat} (hr : RP F rd) {S L : Nat → Int} {N : Int} (hq : RDS I rd S L N) (hQ : ∀ (r : Int) , (r = tpF L (Int.toNat N)) → Q (some (vi r)) F I) : ∀ (mz : Nat) (b i : Int) , (((-1) : Int) ≤ b) → ((b : Int) ≤ 23) → ((0 : Int) ≤ i) → ((i : Int) ≤ 24) → ((I rd 2) = N) → (i ≤ N) → (b = tpF L (Int.toNat i)) → (N - i).toNat < mz → GoN G (d + 2) kX6_topAt NP NP 4 [some (vr rd), some (vi b), some (vi i)] [] F I Q := by
  intro mz
  induction mz with
  | zero => intro b i _ _ _ _ _ _ _ h; exact absurd h (Nat.not_lt_zero _)
  | succ mz ih =>
    intro b i cc100 cc101 cc102 cc103 cc104 cc105 cc106 hm
    refine GoN_in (fun hok hA => ?_)
    have iib : -2147483648 ≤ b ∧ b < 2147483648 := hok 1 _ rfl
    have iii : -2147483648 ≤ i ∧ i < 2147483648 := hok 2 _ rfl
    have hN := hq.2.2.1
    have tb := tpF_b (L := L) (Int.toNat i)
    rw [← cc106] at tb
    have z1 : (I rd 2) = N := hq.1
    have a2 : -2147483648 ≤ (I rd 2) ∧ (I rd 2) < 2147483648 := hA.1 _ _
    refine Go_wp (by decide) ckX6_topAt [4] ?_
    refine ⟨_, hr.1.1, (by have := hr.2; show _ < 254; omega), ?_⟩
    refine ⟨fun (c3 : (((I rd 2) : Int) ≤ i)) => ?_, fun (c3 : (¬ (((I rd 2) : Int) ≤ i))) => ?_⟩
    ·
      exact ⟨rfl, hQ _ ((by
                              have h := cc106
                              rw [show Int.toNat N = Int.toNat i from by omega]
                              exact h))⟩
    ·
      refine ⟨⟨_, hr.1.1, (by have := hr.2; show _ < 254; omega)⟩, ?_⟩
      refine c_gd11 (v0 := i) hF hR hr hq (by omega) (fun vr4 hr5 qr6 => ?_)
      have hr5 : -2147483648 ≤ vr4 ∧ vr4 < 2147483648 := hr5
      refine ⟨fun (c7 : ((vr4 : Int) = 0)) => ?_, fun (c7 : (¬ ((vr4 : Int) = 0))) => ?_⟩
      ·
        have n8 : (wr (i + 1)) = i + 1 := wr_id (show -2147483648 ≤ (i + 1 : Int) ∧ (i + 1 : Int) < 2147483648 from by omega)
        exact ih b (wr (i + 1))  (show ((-1) : Int) ≤ b from by first | with_reducible assumption | omega | (simp only [wr, wl] at *; omega)) (show (b : Int) ≤ 23 from by first | with_reducible assumption | omega | (simp only [wr, wl] at *; omega)) (show (0 : Int) ≤ (wr (i + 1)) from by first | with_reducible assumption | omega | (simp only [wr, wl] at *; omega)) (show ((wr (i + 1)) : Int) ≤ 24 from by first | with_reducible assumption | omega | (simp only [wr, wl] at *; omega)) (show (I rd 2) = N from by first | omega | (simp only [wr, wl] at *; omega)) (show (wr (i + 1)) ≤ N from by first | with_reducible assumption | omega | (simp only [wr, wl] at *; omega)) ((by
                              have h := cc106
                              have ks := tpF_s (L := L) (k := Int.toNat i)
                              rw [← h] at ks
                              rw [show Int.toNat (wr (i + 1)) = Int.toNat i + 1 from by omega]
                              omega)) (show (N - (wr (i + 1))).toNat < mz from by omega)
      ·
        refine ⟨fun (c9 : ((b : Int) < 0)) => ?_, fun (c9 : (¬ ((b : Int) < 0))) => ?_⟩
        ·
          have n10 : (wr (i + 1)) = i + 1 := wr_id (show -2147483648 ≤ (i + 1 : Int) ∧ (i + 1 : Int) < 2147483648 from by omega)
          exact ih i (wr (i + 1))  (show ((-1) : Int) ≤ i from by first | with_reducible assumption | omega | (simp only [wr, wl] at *; omega)) (show (i : Int) ≤ 23 from by first | with_reducible assumption | omega | (simp only [wr, wl] at *; omega)) (show (0 : Int) ≤ (wr (i + 1)) from by first | with_reducible assumption | omega | (simp only [wr, wl] at *; omega)) (show ((wr (i + 1)) : Int) ≤ 24 from by first | with_reducible assumption | omega | (simp only [wr, wl] at *; omega)) (show (I rd 2) = N from by first | omega | (simp only [wr, wl] at *; omega)) (show (wr (i + 1)) ≤ N from by first | with_reducible assumption | omega | (simp only [wr, wl] at *; omega)) ((by
                              have h := cc106
                              have ks := tpF_s (L := L) (k := Int.toNat i)
                              rw [← h] at ks
                              rw [show Int.toNat (wr (i + 1)) = Int.toNat i + 1 from by omega]
                              omega)) (show (N - (wr (i + 1))).toNat < mz from by omega)
        ·
          refine ⟨⟨_, hr.1.1, (by have := hr.2; show _ < 254; omega)⟩, ?_⟩
          refine c_ld11 (v0 := i) hF hR hr hq (by omega) (fun vr11 hr12 qr13 => ?_)
          have hr12 : -2147483648 ≤ vr11 ∧ vr11 < 2147483648 := hr12
          have b14 : (-200000 : Int) ≤ vr11 ∧ vr11 ≤ 200000 := by rw [qr13]; exact hq.2.2.2.2 _
          refine ⟨⟨_, hr.1.1, (by have := hr.2; show _ < 254; omega)⟩, ?_⟩
          refine c_ld11 (v0 := b) hF hR hr hq (by omega) (fun vr15 hr16 qr17 => ?_)
          have hr16 : -2147483648 ≤ vr15 ∧ vr15 < 2147483648 := hr16
          have b18 : (-200000 : Int) ≤ vr15 ∧ vr15 ≤ 200000 := by rw [qr17]; exact hq.2.2.2.2 _
          refine ⟨fun (c19 : ((vr11 : Int) ≤ vr15)) => ?_, fun (c19 : (¬ ((vr11 : Int) ≤ vr15))) => ?_⟩
          ·
            have n20 : (wr (i + 1)) = i + 1 := wr_id (show -2147483648 ≤ (i + 1 : Int) ∧ (i + 1 : Int) < 2147483648 from by omega)
            exact ih b (wr (i + 1))  (show ((-1) : Int) ≤ b from by first | with_reducible assumption | omega | (simp only [wr, wl] at *; omega)) (show (b : Int) ≤ 23 from by first | with_reducible assumption | omega | (simp only [wr, wl] at *; omega)) (show (0 : Int) ≤ (wr (i + 1)) from by first | with_reducible assumption | omega | (simp only [wr, wl] at *; omega)) (show ((wr (i + 1)) : Int) ≤ 24 from by first | with_reducible assumption | omega | (simp only [wr, wl] at *; omega)) (show (I rd 2) = N from by first | omega | (simp only [wr, wl] at *; omega)) (show (wr (i + 1)) ≤ N from by first | with_reducible assumption | omega | (simp only [wr, wl] at *; omega)) ((by
                              have h := cc106
                              have ks := tpF_s (L := L) (k := Int.toNat i)
                              rw [← h] at ks
                              rw [show Int.toNat (wr (i + 1)) = Int.toNat i + 1 from by omega]
                              omega)) (show (N - (wr (i + 1))).toNat < mz from by omega)
          ·
            have n21 : (wr (i + 1)) = i + 1 := wr_id (show -2147483648 ≤ (i + 1 : Int) ∧ (i + 1 : Int) < 2147483648 from by omega)
            exact ih i (wr (i + 1))  (show ((-1) : Int) ≤ i from by first | with_reducible assumption | omega | (simp only [wr, wl] at *; omega)) (show (i : Int) ≤ 23 from by first | with_reducible assumption | omega | (simp only [wr, wl] at *; omega)) (show (0 : Int) ≤ (wr (i + 1)) from by first | with_reducible assumption | omega | (simp only [wr, wl] at *; omega)) (show ((wr (i + 1)) : Int) ≤ 24 from by first | with_reducible assumption | omega | (simp only [wr, wl] at *; omega)) (show (I rd 2) = N from by first | omega | (simp only [wr, wl] at *; omega)) (show (wr (i + 1)) ≤ N from by first | with_reducible assumption | omega | (simp only [wr, wl] at *; omega)) ((by
                              have h := cc106
                              have ks := tpF_s (L := L) (k := Int.toNat i)
                              rw [← h] at ks
                              rw [show Int.toNat (wr (i + 1)) = Int.toNat i + 1 from by omega]
                              omega)) (show (N - (wr (i + 1))).toNat < mz from by omega)
theorem c_tops11 (hF : FS F) (hR : Rg I) {rd : Nat} (hr : RP F rd) {S L : Nat → Int} {N : Int} (hq : RDS I rd S L N) (hQ : ∀ r : Int, iR r → (r = tpF L (Int.toNat N)) → Q (some (vi r)) F I) : CallN G (d + 2) kX6_topAt [vr rd] NP F I Q := by
  refine CallN_in (fun hok hA => CallN_out ?_)
  have hN := hq.2.2.1
  refine Call_wp (lv := [some (vr rd), none, none]) (by decide) ckX6_topAt [4] rfl rfl ?_
  have z1 : (I rd 2) = N := hq.1
  have a2 : -2147483648 ≤ (I rd 2) ∧ (I rd 2) < 2147483648 := hA.1 _ _
  refine c_tops11_l hF hR hr hq (fun r g3 hv hA' => hQ _ (hv _ rfl) g3) _ (-1) 0  (show ((-1) : Int) ≤ ((-1) : Int) from Int.le_refl _) (show (((-1) : Int) : Int) ≤ 23 from by first | with_reducible assumption | omega | (simp only [wr, wl] at *; omega)) (show (0 : Int) ≤ (0 : Int) from Int.le_refl _) (show ((0 : Int) : Int) ≤ 24 from by first | with_reducible assumption | omega | (simp only [wr, wl] at *; omega)) (show (I rd 2) = N from by first | omega | (simp only [wr, wl] at *; omega)) (show (0 : Int) ≤ N from by first | with_reducible assumption | omega | (simp only [wr, wl] at *; omega)) (rfl) (Nat.lt_succ_self _)
theorem r_tops11_l (hF : FS F) (hR : Rg I) {v0 : Int} (hp : 0 ≤ v0 ∧ v0 ≤ 13) {S L : Nat → Int} {N : Int} (hq : RDM I (Int.toNat v0) S L N) (hQ : ∀ (r : Int) , (r = tpF L (Int.toNat N)) → Q (some (vi r)) F I) : ∀ (mz : Nat) (b i : Int) , (((-1) : Int) ≤ b) → ((b : Int) ≤ 23) → ((0 : Int) ≤ i) → ((i : Int) ≤ 24) → (i ≤ N) → (b = tpF L (Int.toNat i)) → (N - i).toNat < mz → GoN G (d + 3) kX12_topOf NP NP 4 [some (vr 235), some (vi v0), some (vi b), some (vi i)] [] F I Q := by
  intro mz
  induction mz with
  | zero => intro b i _ _ _ _ _ _ h; exact absurd h (Nat.not_lt_zero _)
  | succ mz ih =>
    intro b i cc100 cc101 cc102 cc103 cc104 cc105 hm
    refine GoN_in (fun hok hA => ?_)
    have iiv0 : -2147483648 ≤ v0 ∧ v0 < 2147483648 := hok 1 _ rfl
    have iib : -2147483648 ≤ b ∧ b < 2147483648 := hok 2 _ rfl
    have iii : -2147483648 ≤ i ∧ i < 2147483648 := hok 3 _ rfl
    have hN := hq.2.2.1
    have tb := tpF_b (L := L) (Int.toNat i)
    rw [← cc105] at tb
    refine Go_wp (by decide) ckX12_topOf [4] ?_
    refine ⟨⟨_, rfl, (by decide)⟩, ?_⟩
    refine r_many11 (v0 := v0) hF hR (by omega) hq (fun vr1 hr2 qr3 => ?_)
    have hr2 : -2147483648 ≤ vr1 ∧ vr1 < 2147483648 := hr2
    refine ⟨fun (c4 : ((vr1 : Int) ≤ i)) => ?_, fun (c4 : (¬ ((vr1 : Int) ≤ i))) => ?_⟩
    ·
      exact ⟨rfl, hQ _ ((by
                              have h := cc105
                              rw [show Int.toNat N = Int.toNat i from by omega]
                              exact h))⟩
    ·
      refine ⟨⟨_, rfl, (by decide)⟩, ?_⟩
      refine r_gd11 (v0 := v0) (v1 := i) hF hR (by omega) hq (by omega) (fun vr5 hr6 qr7 => ?_)
      have hr6 : -2147483648 ≤ vr5 ∧ vr5 < 2147483648 := hr6
      refine ⟨fun (c8 : ((vr5 : Int) = 0)) => ?_, fun (c8 : (¬ ((vr5 : Int) = 0))) => ?_⟩
      ·
        have n9 : (wr (i + 1)) = i + 1 := wr_id (show -2147483648 ≤ (i + 1 : Int) ∧ (i + 1 : Int) < 2147483648 from by omega)
        exact ih b (wr (i + 1))  (show ((-1) : Int) ≤ b from by first | with_reducible assumption | omega | (simp only [wr, wl] at *; omega)) (show (b : Int) ≤ 23 from by first | with_reducible assumption | omega | (simp only [wr, wl] at *; omega)) (show (0 : Int) ≤ (wr (i + 1)) from by first | with_reducible assumption | omega | (simp only [wr, wl] at *; omega)) (show ((wr (i + 1)) : Int) ≤ 24 from by first | with_reducible assumption | omega | (simp only [wr, wl] at *; omega)) (show (wr (i + 1)) ≤ N from by first | with_reducible assumption | omega | (simp only [wr, wl] at *; omega)) ((by
                              have h := cc105
                              have ks := tpF_s (L := L) (k := Int.toNat i)
                              rw [← h] at ks
                              rw [show Int.toNat (wr (i + 1)) = Int.toNat i + 1 from by omega]
                              omega)) (show (N - (wr (i + 1))).toNat < mz from by omega)
      ·
        refine ⟨fun (c10 : ((b : Int) < 0)) => ?_, fun (c10 : (¬ ((b : Int) < 0))) => ?_⟩
        ·
          have n11 : (wr (i + 1)) = i + 1 := wr_id (show -2147483648 ≤ (i + 1 : Int) ∧ (i + 1 : Int) < 2147483648 from by omega)
          exact ih i (wr (i + 1))  (show ((-1) : Int) ≤ i from by first | with_reducible assumption | omega | (simp only [wr, wl] at *; omega)) (show (i : Int) ≤ 23 from by first | with_reducible assumption | omega | (simp only [wr, wl] at *; omega)) (show (0 : Int) ≤ (wr (i + 1)) from by first | with_reducible assumption | omega | (simp only [wr, wl] at *; omega)) (show ((wr (i + 1)) : Int) ≤ 24 from by first | with_reducible assumption | omega | (simp only [wr, wl] at *; omega)) (show (wr (i + 1)) ≤ N from by first | with_reducible assumption | omega | (simp only [wr, wl] at *; omega)) ((by
                              have h := cc105
                              have ks := tpF_s (L := L) (k := Int.toNat i)
                              rw [← h] at ks
                              rw [show Int.toNat (wr (i + 1)) = Int.toNat i + 1 from by omega]
                              omega)) (show (N - (wr (i + 1))).toNat < mz from by omega)
        ·
          refine ⟨⟨_, rfl, (by decide)⟩, ?_⟩
          refine r_ld11 (v0 := v0) (v1 := i) hF hR (by omega) hq (by omega) (fun vr12 hr13 qr14 => ?_)
          have hr13 : -2147483648 ≤ vr12 ∧ vr12 < 2147483648 := hr13
          have b15 : (-200000 : Int) ≤ vr12 ∧ vr12 ≤ 200000 := by rw [qr14]; exact hq.2.2.2.2 _
          refine ⟨⟨_, rfl, (by decide)⟩, ?_⟩
          refine r_ld11 (v0 := v0) (v1 := b) hF hR (by omega) hq (by omega) (fun vr16 hr17 qr18 => ?_)
          have hr17 : -2147483648 ≤ vr16 ∧ vr16 < 2147483648 := hr17
          have b19 : (-200000 : Int) ≤ vr16 ∧ vr16 ≤ 200000 := by rw [qr18]; exact hq.2.2.2.2 _
          refine ⟨fun (c20 : ((vr12 : Int) ≤ vr16)) => ?_, fun (c20 : (¬ ((vr12 : Int) ≤ vr16))) => ?_⟩
          ·
            have n21 : (wr (i + 1)) = i + 1 := wr_id (show -2147483648 ≤ (i + 1 : Int) ∧ (i + 1 : Int) < 2147483648 from by omega)
            exact ih b (wr (i + 1))  (show ((-1) : Int) ≤ b from by first | with_reducible assumption | omega | (simp only [wr, wl] at *; omega)) (show (b : Int) ≤ 23 from by first | with_reducible assumption | omega | (simp only [wr, wl] at *; omega)) (show (0 : Int) ≤ (wr (i + 1)) from by first | with_reducible assumption | omega | (simp only [wr, wl] at *; omega)) (show ((wr (i + 1)) : Int) ≤ 24 from by first | with_reducible assumption | omega | (simp only [wr, wl] at *; omega)) (show (wr (i + 1)) ≤ N from by first | with_reducible assumption | omega | (simp only [wr, wl] at *; omega)) ((by
                              have h := cc105
                              have ks := tpF_s (L := L) (k := Int.toNat i)
                              rw [← h] at ks
                              rw [show Int.toNat (wr (i + 1)) = Int.toNat i + 1 from by omega]
                              omega)) (show (N - (wr (i + 1))).toNat < mz from by omega)
          ·
            have n22 : (wr (i + 1)) = i + 1 := wr_id (show -2147483648 ≤ (i + 1 : Int) ∧ (i + 1 : Int) < 2147483648 from by omega)
            exact ih i (wr (i + 1))  (show ((-1) : Int) ≤ i from by first | with_reducible assumption | omega | (simp only [wr, wl] at *; omega)) (show (i : Int) ≤ 23 from by first | with_reducible assumption | omega | (simp only [wr, wl] at *; omega)) (show (0 : Int) ≤ (wr (i + 1)) from by first | with_reducible assumption | omega | (simp only [wr, wl] at *; omega)) (show ((wr (i + 1)) : Int) ≤ 24 from by first | with_reducible assumption | omega | (simp only [wr, wl] at *; omega)) (show (wr (i + 1)) ≤ N from by first | with_reducible assumption | omega | (simp only [wr, wl] at *; omega)) ((by
                              have h := cc105
                              have ks := tpF_s (L := L) (k := Int.toNat i)
                              rw [← h] at ks
                              rw [show Int.toNat (wr (i + 1)) = Int.toNat i + 1 from by omega]
                              omega)) (show (N - (wr (i + 1))).toNat < mz from by omega)
theorem r_tops11 (hF : FS F) (hR : Rg I) {v0 : Int} (hp : 0 ≤ v0 ∧ v0 ≤ 13) {S L : Nat → Int} {N : Int} (hq : RDM I (Int.toNat v0) S L N) (hQ : ∀ r : Int, iR r → (r = tpF L (Int.toNat N)) → Q (some (vi r)) F I) : CallN G (d + 3) kX12_topOf [vr 235, vi v0] NP F I Q := by
  refine CallN_in (fun hok hA => CallN_out ?_)
  have iv0 : -2147483648 ≤ v0 ∧ v0 < 2147483648 := hok (vi v0) (by simp)
  have hN := hq.2.2.1
  refine Call_wp (lv := [some (vr 235), some (vi v0), none, none]) (by decide) ckX12_topOf [4] rfl rfl ?_
  refine r_tops11_l hF hR hp hq (fun r g3 hv hA' => hQ _ (hv _ rfl) g3) _ (-1) 0  (show ((-1) : Int) ≤ ((-1) : Int) from Int.le_refl _) (show (((-1) : Int) : Int) ≤ 23 from by first | with_reducible assumption | omega | (simp only [wr, wl] at *; omega)) (show (0 : Int) ≤ (0 : Int) from Int.le_refl _) (show ((0 : Int) : Int) ≤ 24 from by first | with_reducible assumption | omega | (simp only [wr, wl] at *; omega)) (show (0 : Int) ≤ N from by first | with_reducible assumption | omega | (simp only [wr, wl] at *; omega)) (rfl) (Nat.lt_succ_self _)
theorem c_top11 (hF : FS F) (hR : Rg I) {v0 : Int} (hc : I 1 1 ≤ 14) {SF LF : Nat → Nat → Int} {NF : Nat → Int} (hq : ∀ p : Nat, (p : Int) < I 1 1 → RDS I ((1 + 19 + 5 * p) + 2) (SF p) (LF p) (NF p)) (hQ : ∀ (r : Int) (I' : pI), Rg I' → AR I' → iR r → (∀ k j, ¬ (k = 203 ∨ (20 ≤ k ∧ k < 90 ∧ k % 5 = 2 ∧ 3 ≤ j)) → I' k j = I k j) → ((¬ ((0 ≤ v0 ∧ v0 < I 1 1)) → r = -1000001) ∧ (((0 ≤ v0 ∧ v0 < I 1 1)) → (tpF (LF (Int.toNat v0)) (Int.toNat (NF (Int.toNat v0))) < 0 → r = -1000002) ∧ (¬ tpF (LF (Int.toNat v0)) (Int.toNat (NF (Int.toNat v0))) < 0 → r = LF (Int.toNat v0) (Int.toNat (tpF (LF (Int.toNat v0)) (Int.toNat (NF (Int.toNat v0)))))))) → Q (some (vi r)) F I') : CallN G (d + 4) kX11_top [vr 0, vi v0] NP F I Q := by
  refine CallN_in (fun hok hA => CallN_out ?_)
  have iv0 : -2147483648 ≤ v0 ∧ v0 < 2147483648 := hok (vi v0) (by simp)
  refine Call_wp (lv := [some (vr 0), some (vi v0), none]) (by decide) ckX11_top [] rfl rfl ?_
  refine ⟨_, rfl, (by decide), ?_⟩
  refine fun w0 hw0 => ?_; obtain rfl : w0 = some 1 := hw0.symm.trans (FS.g hF rfl)
  refine ⟨⟨_, rfl, (by decide)⟩, ?_⟩
  refine s_X8_pieceAt hF (S := 1) (Or.inl rfl) (fun (w1 : (0 ≤ v0 ∧ v0 < (I 1 1) ∧ v0 < 14)) => ?_) (fun (w1 : ¬ (0 ≤ v0 ∧ v0 < (I 1 1) ∧ v0 < 14)) => ?_)
  ·
    have hp2 : PP F (1 + 19 + 5 * Int.toNat v0) := PP_of hF (by omega)
    refine ⟨_, hp2.1.1, (by have := hp2.2; show _ < 254; omega), ?_⟩
    refine fun w0 hw0 => ?_; obtain rfl : w0 = some ((1 + 19 + 5 * Int.toNat v0) + 2) := hw0.symm.trans hp2.1.2.2.2.2.1
    refine ⟨⟨_, hp2.r.1.1, (by have := hp2.r.2; show _ < 254; omega)⟩, ?_⟩
    refine Call_wp (lv := [some (vr ((1 + 19 + 5 * Int.toNat v0) + 2)), some (vi 0), none]) (by decide) ckX6_numberBy [] rfl rfl ?_
    refine ⟨⟨_, hp2.r.1.1, (by have := hp2.r.2; show _ < 254; omega)⟩, ?_⟩
    refine c_tops11  hF hR hp2.r (hq (Int.toNat v0) (by omega)) (fun vr3 hr4 qr5 => ?_)
    have hr4 : -2147483648 ≤ vr3 ∧ vr3 < 2147483648 := hr4
    have tb := tpF_b (L := LF (Int.toNat v0)) (Int.toNat (NF (Int.toNat v0)))
    rw [← qr5] at tb
    have hN := (hq (Int.toNat v0) (by omega)).2.2.1
    refine ⟨fun (c6 : ((0 : Int) ≤ vr3)) => ?_, fun (c6 : (¬ ((0 : Int) ≤ vr3))) => ?_⟩
    ·
      refine ⟨fun _ => ?_, fun c => absurd (show ((0 : Int) = 0) from by decide) c⟩
      refine ⟨⟨_, hp2.r.1.1, (by have := hp2.r.2; show _ < 254; omega)⟩, ?_⟩
      refine Call_wp (lv := [some (vr ((1 + 19 + 5 * Int.toNat v0) + 2)), some (vi vr3)]) (by decide) ckX6_loadAt [] rfl rfl ?_
      refine ⟨fun c => absurd c (show (¬ ((vr3 : Int) < 0)) from by first | omega | (simp only [wr, wl] at *; omega)), fun _ => ?_⟩
      refine ⟨_, hp2.r.1.1, (by have := hp2.r.2; show _ < 254; omega), ?_⟩
      have z7 : (I ((1 + 19 + 5 * Int.toNat v0) + 2) 2) = NF (Int.toNat v0) := (hq (Int.toNat v0) (by omega)).1
      have z8 := (hq (Int.toNat v0) (by omega)).2.2.1
      have a9 : -2147483648 ≤ (I ((1 + 19 + 5 * Int.toNat v0) + 2) 2) ∧ (I ((1 + 19 + 5 * Int.toNat v0) + 2) 2) < 2147483648 := hA.1 _ _
      refine ⟨fun (c10 : (((I ((1 + 19 + 5 * Int.toNat v0) + 2) 2) : Int) ≤ vr3)) => ?_, fun (c10 : (¬ (((I ((1 + 19 + 5 * Int.toNat v0) + 2) 2) : Int) ≤ vr3))) => ?_⟩
      ·
        refine ⟨rfl, ?_⟩
        refine ⟨rfl, ?_⟩
        refine ⟨⟨_, rfl, (by decide)⟩, ?_⟩
        refine Call_wp (lv := [some (vr 0), some (vi (-1))]) (by decide) ckX11_orNone [] rfl rfl ?_
        refine ⟨fun c => absurd c (show (¬ ((0 : Int) ≤ (-1))) from by decide), fun _ => ?_⟩
        refine ⟨⟨_, rfl, (by decide)⟩, ?_⟩
        refine s_X11_refuse hF (e := 2) (by decide) ?_
        refine ⟨rfl, ?_⟩
        exact ⟨rfl, fun hv hA' => hQ _ _ (Rg.u hR (Pr_f rfl)) hA' (hv _ rfl) (fun ka ja hk => (uI_o (show ¬ (ka = 203 ∧ ja = 2) from by omega))) (show (¬ ((0 ≤ v0 ∧ v0 < I 1 1)) → (-1000002) = -1000001) ∧ (((0 ≤ v0 ∧ v0 < I 1 1)) → (tpF (LF (Int.toNat v0)) (Int.toNat (NF (Int.toNat v0))) < 0 → (-1000002) = -1000002) ∧ (¬ tpF (LF (Int.toNat v0)) (Int.toNat (NF (Int.toNat v0))) < 0 → (-1000002) = LF (Int.toNat v0) (Int.toNat (tpF (LF (Int.toNat v0)) (Int.toNat (NF (Int.toNat v0))))))) from by
                              refine ⟨fun z => ?_, fun z => ?_⟩
                              · first | omega | (exfalso; omega)
                              · rw [← qr5]
                                refine ⟨fun b => ?_, fun b => ?_⟩
                                all_goals first | omega | (exfalso; omega))⟩
      ·
        refine ⟨fun c => absurd c (show (¬ ((24 : Int) ≤ vr3)) from by first | omega | (simp only [wr, wl] at *; omega)), fun _ => ?_⟩
        refine ⟨_, hp2.r.1.1, (by have := hp2.r.2; show _ < 254; omega), ?_⟩
        refine fun w0 hw0 => ?_; obtain rfl : w0 = some (((1 + 19 + 5 * Int.toNat v0) + 2) + 2) := hw0.symm.trans hp2.r.1.2.2.2.2.2
        refine ⟨_, hp2.r.1.2.2.1, (by have := hp2.r.2; show _ < 254; omega), (show (0 : Int) ≤ vr3 from by first | with_reducible assumption | omega | (simp only [wr, wl] at *; omega)), (show vr3 < (24 : Int) from by first | with_reducible assumption | omega | (simp only [wr, wl] at *; omega)), ?_⟩
        have z11 : (I (((1 + 19 + 5 * Int.toNat v0) + 2) + 2) (Int.toNat vr3)) = LF (Int.toNat v0) (Int.toNat vr3) := ((hq (Int.toNat v0) (by omega)).2.1 _ (by omega)).2
        refine ⟨rfl, ?_⟩
        refine ⟨rfl, ?_⟩
        refine ⟨⟨_, rfl, (by decide)⟩, ?_⟩
        refine Call_wp (lv := [some (vr 0), some (vi (I (((1 + 19 + 5 * Int.toNat v0) + 2) + 2) (Int.toNat vr3)))]) (by decide) ckX11_orNone [] rfl rfl ?_
        have a12 : -2147483648 ≤ (I (((1 + 19 + 5 * Int.toNat v0) + 2) + 2) (Int.toNat vr3)) ∧ (I (((1 + 19 + 5 * Int.toNat v0) + 2) + 2) (Int.toNat vr3)) < 2147483648 := hA.1 _ _
        refine ⟨fun (c13 : ((0 : Int) ≤ (I (((1 + 19 + 5 * Int.toNat v0) + 2) + 2) (Int.toNat vr3)))) => ?_, fun (c13 : (¬ ((0 : Int) ≤ (I (((1 + 19 + 5 * Int.toNat v0) + 2) + 2) (Int.toNat vr3))))) => ?_⟩
        ·
          refine ⟨rfl, ?_⟩
          exact ⟨rfl, fun hv hA' => hQ _ _ hR hA' (hv _ rfl) (fun _ _ _ => rfl) (show (¬ ((0 ≤ v0 ∧ v0 < I 1 1)) → (I (((1 + 19 + 5 * Int.toNat v0) + 2) + 2) (Int.toNat vr3)) = -1000001) ∧ (((0 ≤ v0 ∧ v0 < I 1 1)) → (tpF (LF (Int.toNat v0)) (Int.toNat (NF (Int.toNat v0))) < 0 → (I (((1 + 19 + 5 * Int.toNat v0) + 2) + 2) (Int.toNat vr3)) = -1000002) ∧ (¬ tpF (LF (Int.toNat v0)) (Int.toNat (NF (Int.toNat v0))) < 0 → (I (((1 + 19 + 5 * Int.toNat v0) + 2) + 2) (Int.toNat vr3)) = LF (Int.toNat v0) (Int.toNat (tpF (LF (Int.toNat v0)) (Int.toNat (NF (Int.toNat v0))))))) from by
                              refine ⟨fun z => ?_, fun z => ?_⟩
                              · first | omega | (exfalso; omega)
                              · rw [← qr5]
                                refine ⟨fun b => ?_, fun b => ?_⟩
                                all_goals first | omega | (exfalso; omega))⟩
        ·
          refine ⟨⟨_, rfl, (by decide)⟩, ?_⟩
          refine s_X11_refuse hF (e := 2) (by decide) ?_
          refine ⟨rfl, ?_⟩
          exact ⟨rfl, fun hv hA' => hQ _ _ (Rg.u hR (Pr_f rfl)) hA' (hv _ rfl) (fun ka ja hk => (uI_o (show ¬ (ka = 203 ∧ ja = 2) from by omega))) (show (¬ ((0 ≤ v0 ∧ v0 < I 1 1)) → (-1000002) = -1000001) ∧ (((0 ≤ v0 ∧ v0 < I 1 1)) → (tpF (LF (Int.toNat v0)) (Int.toNat (NF (Int.toNat v0))) < 0 → (-1000002) = -1000002) ∧ (¬ tpF (LF (Int.toNat v0)) (Int.toNat (NF (Int.toNat v0))) < 0 → (-1000002) = LF (Int.toNat v0) (Int.toNat (tpF (LF (Int.toNat v0)) (Int.toNat (NF (Int.toNat v0))))))) from by
                              refine ⟨fun z => ?_, fun z => ?_⟩
                              · first | omega | (exfalso; omega)
                              · rw [← qr5]
                                refine ⟨fun b => ?_, fun b => ?_⟩
                                all_goals first | omega | (exfalso; omega))⟩
    ·
      refine ⟨rfl, ?_⟩
      refine ⟨⟨_, rfl, (by decide)⟩, ?_⟩
      refine Call_wp (lv := [some (vr 0), some (vi (-1))]) (by decide) ckX11_orNone [] rfl rfl ?_
      refine ⟨fun c => absurd c (show (¬ ((0 : Int) ≤ (-1))) from by decide), fun _ => ?_⟩
      refine ⟨⟨_, rfl, (by decide)⟩, ?_⟩
      refine s_X11_refuse hF (e := 2) (by decide) ?_
      refine ⟨rfl, ?_⟩
      exact ⟨rfl, fun hv hA' => hQ _ _ (Rg.u hR (Pr_f rfl)) hA' (hv _ rfl) (fun ka ja hk => (uI_o (show ¬ (ka = 203 ∧ ja = 2) from by omega))) (show (¬ ((0 ≤ v0 ∧ v0 < I 1 1)) → (-1000002) = -1000001) ∧ (((0 ≤ v0 ∧ v0 < I 1 1)) → (tpF (LF (Int.toNat v0)) (Int.toNat (NF (Int.toNat v0))) < 0 → (-1000002) = -1000002) ∧ (¬ tpF (LF (Int.toNat v0)) (Int.toNat (NF (Int.toNat v0))) < 0 → (-1000002) = LF (Int.toNat v0) (Int.toNat (tpF (LF (Int.toNat v0)) (Int.toNat (NF (Int.toNat v0))))))) from by
                              refine ⟨fun z => ?_, fun z => ?_⟩
                              · first | omega | (exfalso; omega)
                              · rw [← qr5]
                                refine ⟨fun b => ?_, fun b => ?_⟩
                                all_goals first | omega | (exfalso; omega))⟩
  ·
    refine ⟨⟨_, rfl, (by decide)⟩, ?_⟩
    refine s_X11_refuse hF (e := 1) (by decide) ?_
    exact ⟨rfl, fun hv hA' => hQ _ _ (Rg.u hR (Pr_f rfl)) hA' (hv _ rfl) (fun ka ja hk => (uI_o (show ¬ (ka = 203 ∧ ja = 1) from by omega))) (show (¬ ((0 ≤ v0 ∧ v0 < I 1 1)) → (-1000001) = -1000001) ∧ (((0 ≤ v0 ∧ v0 < I 1 1)) → (tpF (LF (Int.toNat v0)) (Int.toNat (NF (Int.toNat v0))) < 0 → (-1000001) = -1000002) ∧ (¬ tpF (LF (Int.toNat v0)) (Int.toNat (NF (Int.toNat v0))) < 0 → (-1000001) = LF (Int.toNat v0) (Int.toNat (tpF (LF (Int.toNat v0)) (Int.toNat (NF (Int.toNat v0))))))) from by
                              refine ⟨fun z => ?_, fun z => ?_⟩
                              · first | omega | (exfalso; omega)
                              · first | omega | (exfalso; omega))⟩
theorem r_top11 (hF : FS F) (hR : Rg I) {v0 : Int} {SF LF : Nat → Nat → Int} {NF : Nat → Int} (hq : ∀ p : Nat, (p : Int) < I 236 0 → RDM I p (SF p) (LF p) (NF p)) (hQ : ∀ (r : Int) (I' : pI), Rg I' → AR I' → iR r → (∀ k j, ¬ (k = 238) → I' k j = I k j) → ((¬ ((0 ≤ v0 ∧ v0 < I 236 0)) → r = -1000001) ∧ (((0 ≤ v0 ∧ v0 < I 236 0)) → (tpF (LF (Int.toNat v0)) (Int.toNat (NF (Int.toNat v0))) < 0 → r = -1000002) ∧ (¬ tpF (LF (Int.toNat v0)) (Int.toNat (NF (Int.toNat v0))) < 0 → r = LF (Int.toNat v0) (Int.toNat (tpF (LF (Int.toNat v0)) (Int.toNat (NF (Int.toNat v0)))))))) → Q (some (vi r)) F I') : CallN G (d + 4) kX12_top [vr 235, vi v0] NP F I Q := by
  refine CallN_in (fun hok hA => CallN_out ?_)
  have iv0 : -2147483648 ≤ v0 ∧ v0 < 2147483648 := hok (vi v0) (by simp)
  refine Call_wp (lv := [some (vr 235), some (vi v0), none]) (by decide) ckX12_top [] rfl rfl ?_
  refine ⟨⟨_, rfl, (by decide)⟩, ?_⟩
  have r1 : 0 ≤ (I 236 0) ∧ (I 236 0) ≤ 14 := Rg.n0 hR
  refine s_X12_is hF (w := 0) (by decide) (show 0 ≤ (I 236 0) ∧ (I 236 0) < 1000000 from by omega) (fun (w2 : (0 ≤ v0 ∧ v0 < (I 236 0))) => ?_) (fun (w2 : ¬ (0 ≤ v0 ∧ v0 < (I 236 0))) => ?_)
  ·
    refine ⟨fun _ => ?_, fun c => absurd c (show (¬ (1 : Int) = 0) from by decide)⟩
    refine ⟨⟨_, rfl, (by decide)⟩, ?_⟩
    refine r_tops11 (v0 := v0) hF hR (by omega) (hq (Int.toNat v0) (by omega)) (fun vr3 hr4 qr5 => ?_)
    have hr4 : -2147483648 ≤ vr3 ∧ vr3 < 2147483648 := hr4
    have tb := tpF_b (L := LF (Int.toNat v0)) (Int.toNat (NF (Int.toNat v0)))
    rw [← qr5] at tb
    have hN := (hq (Int.toNat v0) (by omega)).2.2.1
    refine ⟨fun (c6 : ((0 : Int) ≤ vr3)) => ?_, fun (c6 : (¬ ((0 : Int) ≤ vr3))) => ?_⟩
    ·
      refine ⟨⟨_, rfl, (by decide)⟩, ?_⟩
      refine Call_wp (lv := [some (vr 235), some (vi v0), some (vi vr3)]) (by decide) ckX12_load [] rfl rfl ?_
      refine ⟨⟨_, rfl, (by decide)⟩, ?_⟩
      refine Call_wp (lv := [some (vr 235), some (vi v0), some (vi (wr ((wr (17 + (wr (2 * vr3)))) + 1)))]) (by decide) ckX12_of [] rfl rfl ?_
      refine ⟨_, rfl, (by decide), ?_⟩
      refine fun w0 hw0 => ?_; obtain rfl : w0 = some 236 := hw0.symm.trans (FS.g hF rfl)
      have n7 : (wr (66 * v0)) = 66 * v0 := wr_id (show -2147483648 ≤ (66 * v0 : Int) ∧ (66 * v0 : Int) < 2147483648 from by omega)
      have n8 : (wr (304 + (wr (66 * v0)))) = 304 + (wr (66 * v0)) := wr_id (show -2147483648 ≤ (304 + (wr (66 * v0)) : Int) ∧ (304 + (wr (66 * v0)) : Int) < 2147483648 from by omega)
      have n9 : (wr (2 * vr3)) = 2 * vr3 := wr_id (show -2147483648 ≤ (2 * vr3 : Int) ∧ (2 * vr3 : Int) < 2147483648 from by omega)
      have n10 : (wr (17 + (wr (2 * vr3)))) = 17 + (wr (2 * vr3)) := wr_id (show -2147483648 ≤ (17 + (wr (2 * vr3)) : Int) ∧ (17 + (wr (2 * vr3)) : Int) < 2147483648 from by omega)
      have n11 : (wr ((wr (17 + (wr (2 * vr3)))) + 1)) = (wr (17 + (wr (2 * vr3)))) + 1 := wr_id (show -2147483648 ≤ ((wr (17 + (wr (2 * vr3)))) + 1 : Int) ∧ ((wr (17 + (wr (2 * vr3)))) + 1 : Int) < 2147483648 from by omega)
      have n12 : (wr ((wr (304 + (wr (66 * v0)))) + (wr ((wr (17 + (wr (2 * vr3)))) + 1)))) = (wr (304 + (wr (66 * v0)))) + (wr ((wr (17 + (wr (2 * vr3)))) + 1)) := wr_id (show -2147483648 ≤ ((wr (304 + (wr (66 * v0)))) + (wr ((wr (17 + (wr (2 * vr3)))) + 1)) : Int) ∧ ((wr (304 + (wr (66 * v0)))) + (wr ((wr (17 + (wr (2 * vr3)))) + 1)) : Int) < 2147483648 from by omega)
      refine ⟨_, rfl, (by decide), (show (0 : Int) ≤ (wr ((wr (304 + (wr (66 * v0)))) + (wr ((wr (17 + (wr (2 * vr3)))) + 1)))) from by first | with_reducible assumption | omega | (simp only [wr, wl] at *; omega)), (show (wr ((wr (304 + (wr (66 * v0)))) + (wr ((wr (17 + (wr (2 * vr3)))) + 1)))) < (1340 : Int) from by first | with_reducible assumption | omega | (simp only [wr, wl] at *; omega)), ?_⟩
      have z13 : (I 236 (Int.toNat (wr ((wr (304 + (wr (66 * v0)))) + (wr ((wr (17 + (wr (2 * vr3)))) + 1)))))) = LF (Int.toNat v0) (Int.toNat vr3) := (congrArg (I 236) (by omega)).trans ((hq (Int.toNat v0) (by omega)).2.1 (Int.toNat vr3) (by omega)).2
      refine ⟨rfl, ?_⟩
      refine ⟨rfl, ?_⟩
      have a14 : -2147483648 ≤ (I 236 (Int.toNat (wr ((wr (304 + (wr (66 * v0)))) + (wr ((wr (17 + (wr (2 * vr3)))) + 1)))))) ∧ (I 236 (Int.toNat (wr ((wr (304 + (wr (66 * v0)))) + (wr ((wr (17 + (wr (2 * vr3)))) + 1)))))) < 2147483648 := hA.1 _ _
      exact ⟨rfl, fun hv hA' => hQ _ _ hR hA' (hv _ rfl) (fun _ _ _ => rfl) (show (¬ ((0 ≤ v0 ∧ v0 < I 236 0)) → (I 236 (Int.toNat (wr ((wr (304 + (wr (66 * v0)))) + (wr ((wr (17 + (wr (2 * vr3)))) + 1)))))) = -1000001) ∧ (((0 ≤ v0 ∧ v0 < I 236 0)) → (tpF (LF (Int.toNat v0)) (Int.toNat (NF (Int.toNat v0))) < 0 → (I 236 (Int.toNat (wr ((wr (304 + (wr (66 * v0)))) + (wr ((wr (17 + (wr (2 * vr3)))) + 1)))))) = -1000002) ∧ (¬ tpF (LF (Int.toNat v0)) (Int.toNat (NF (Int.toNat v0))) < 0 → (I 236 (Int.toNat (wr ((wr (304 + (wr (66 * v0)))) + (wr ((wr (17 + (wr (2 * vr3)))) + 1)))))) = LF (Int.toNat v0) (Int.toNat (tpF (LF (Int.toNat v0)) (Int.toNat (NF (Int.toNat v0))))))) from by
                              refine ⟨fun z => ?_, fun z => ?_⟩
                              · first | omega | (exfalso; omega)
                              · rw [← qr5]
                                refine ⟨fun b => ?_, fun b => ?_⟩
                                all_goals first | omega | (exfalso; omega))⟩
    ·
      refine ⟨⟨_, rfl, (by decide)⟩, ?_⟩
      refine s_X12_finding hF (v := (-1000002)) (by decide) ?_
      exact ⟨rfl, fun hv hA' => hQ _ _ (Rg.u hR (Pr_f rfl)) hA' (hv _ rfl) (fun ka ja hk => (uI_o (show ¬ (ka = 238 ∧ ja = 2) from by omega))) (show (¬ ((0 ≤ v0 ∧ v0 < I 236 0)) → (-1000002) = -1000001) ∧ (((0 ≤ v0 ∧ v0 < I 236 0)) → (tpF (LF (Int.toNat v0)) (Int.toNat (NF (Int.toNat v0))) < 0 → (-1000002) = -1000002) ∧ (¬ tpF (LF (Int.toNat v0)) (Int.toNat (NF (Int.toNat v0))) < 0 → (-1000002) = LF (Int.toNat v0) (Int.toNat (tpF (LF (Int.toNat v0)) (Int.toNat (NF (Int.toNat v0))))))) from by
                              refine ⟨fun z => ?_, fun z => ?_⟩
                              · first | omega | (exfalso; omega)
                              · rw [← qr5]
                                refine ⟨fun b => ?_, fun b => ?_⟩
                                all_goals first | omega | (exfalso; omega))⟩
  ·
    refine ⟨fun c => absurd (show ((0 : Int) = 0) from by decide) c, fun _ => ?_⟩
    refine ⟨⟨_, rfl, (by decide)⟩, ?_⟩
    refine s_X12_finding hF (v := (-1000001)) (by decide) ?_
    exact ⟨rfl, fun hv hA' => hQ _ _ (Rg.u hR (Pr_f rfl)) hA' (hv _ rfl) (fun ka ja hk => (uI_o (show ¬ (ka = 238 ∧ ja = 1) from by omega))) (show (¬ ((0 ≤ v0 ∧ v0 < I 236 0)) → (-1000001) = -1000001) ∧ (((0 ≤ v0 ∧ v0 < I 236 0)) → (tpF (LF (Int.toNat v0)) (Int.toNat (NF (Int.toNat v0))) < 0 → (-1000001) = -1000002) ∧ (¬ tpF (LF (Int.toNat v0)) (Int.toNat (NF (Int.toNat v0))) < 0 → (-1000001) = LF (Int.toNat v0) (Int.toNat (tpF (LF (Int.toNat v0)) (Int.toNat (NF (Int.toNat v0))))))) from by
                              refine ⟨fun z => ?_, fun z => ?_⟩
                              · first | omega | (exfalso; omega)
                              · first | omega | (exfalso; omega))⟩
end TP11
def CtopF (SF LF : Nat → Nat → Int) (NF : Nat → Int) (v0 r : Int) (I : pI) : Prop := (¬ ((0 ≤ v0 ∧ v0 < I 1 1)) → r = -1000001) ∧ (((0 ≤ v0 ∧ v0 < I 1 1)) → (tpF (LF (Int.toNat v0)) (Int.toNat (NF (Int.toNat v0))) < 0 → r = -1000002) ∧ (¬ tpF (LF (Int.toNat v0)) (Int.toNat (NF (Int.toNat v0))) < 0 → r = LF (Int.toNat v0) (Int.toNat (tpF (LF (Int.toNat v0)) (Int.toNat (NF (Int.toNat v0)))))))
def RtopF (SF LF : Nat → Nat → Int) (NF : Nat → Int) (v0 r : Int) (J : pI) : Prop := (¬ ((0 ≤ v0 ∧ v0 < J 236 0)) → r = -1000001) ∧ (((0 ≤ v0 ∧ v0 < J 236 0)) → (tpF (LF (Int.toNat v0)) (Int.toNat (NF (Int.toNat v0))) < 0 → r = -1000002) ∧ (¬ tpF (LF (Int.toNat v0)) (Int.toNat (NF (Int.toNat v0))) < 0 → r = LF (Int.toNat v0) (Int.toNat (tpF (LF (Int.toNat v0)) (Int.toNat (NF (Int.toNat v0)))))))
theorem top_e {I J : pI} {v0 r r' : Int} {SF LF : Nat → Nat → Int} {NF : Nat → Int} (hR : Rg I) (eO : I 1 1 = I 236 0) (h4 : ∀ k j, 235 ≤ k → J k j = I k j) (c : CtopF SF LF NF v0 r I) (d : RtopF SF LF NF v0 r' J) : r = r' := by
  have m := Rg.n0 hR
  have e0 : J 236 0 = I 236 0 := h4 236 0 (by decide)
  unfold CtopF at c
  unfold RtopF at d
  rw [e0, ← eO] at d
  by_cases v : 0 ≤ v0 ∧ v0 < I 1 1
  · have c1 := c.2 v
    have d1 := d.2 v
    by_cases t : tpF (LF (Int.toNat v0)) (Int.toNat (NF (Int.toNat v0))) < 0
    · exact (c1.1 t).trans (d1.1 t).symm
    · exact (c1.2 t).trans (d1.2 t).symm
  · exact (c.1 v).trans (d.1 v).symm
