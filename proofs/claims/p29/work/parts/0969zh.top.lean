/-! what top answers. Own work (scripts laid by wip/pm/gen34.py). -/
section TP11
variable {G : pG} {d : Nat} {F : pF} {I : pI} {Q : Option pV → pF → pI → Prop}
theorem c_tops11_l (hF : FS F) (hR : Rg I) {rd : Nat} (hr : RP F rd) {S L : Nat → Int} {N : Int} (hq : RDS I rd S L N) (hQ : ∀ (r : Int) , (r = tpF L (Int.toNat N)) → Q (some (vi r)) F I) : ∀ (mz : Nat) (b i : Int) , (((-1) : Int) ≤ b) → ((b : Int) ≤ 23) → ((0 : Int) ≤ i) → ((i : Int) ≤ 24) → ((I rd 2) = N) → (i ≤ N) → (b = tpF L (Int.toNat i)) → (N - i).toNat < mz → GoN G (d + 2) kX6_topAt NP NP 4 [some (vr rd), some (vi b), some (vi i)] [] F I Q := by
  intro mz
  induction mz with
  | zero => intro b i _ _ _ _ _ _ _ h; exact absurd h (Nat.not_lt_zero _)
  | succ mz ih =>
    intro b i cc100 cc101 cc102 cc103 cc104 cc105 cc106 hm
    refine GoN_in (fun hok hA => ?_)
    have iib : -2147483648 ≤ b ∧ b < 2147483648 := hok 1 _ rfl
    have iii : -2147483648 ≤ i ∧ i < 2147483648 := hok 2 _ rfl
    have hN := hq.2.2.1
    have tb := tpF_b (L := L) (Int.toNat i)
    rw [← cc106] at tb
    have z1 : (I rd 2) = N := hq.1
    have a2 : -2147483648 ≤ (I rd 2) ∧ (I rd 2) < 2147483648 := hA.1 _ _
    refine Go_wp (by decide) ckX6_topAt [4] ?_
    refine ⟨_, hr.1.1, (by have := hr.2; show _ < 254; omega), ?_⟩
    refine ⟨fun (c3 : (((I rd 2) : Int) ≤ i)) => ?_, fun (c3 : (¬ (((I rd 2) : Int) ≤ i))) => ?_⟩
    ·
      exact ⟨rfl, hQ _ ((by
                              have h := cc106
                              rw [show Int.toNat N = Int.toNat i from by omega]
                              exact h))⟩
    ·
      refine ⟨⟨_, hr.1.1, (by have := hr.2; show _ < 254; omega)⟩, ?_⟩
      refine c_gd11 (v0 := i) hF hR hr hq (by omega) (fun vr4 hr5 qr6 => ?_)
      have hr5 : -2147483648 ≤ vr4 ∧ vr4 < 2147483648 := hr5
      refine ⟨fun (c7 : ((vr4 : Int) = 0)) => ?_, fun (c7 : (¬ ((vr4 : Int) = 0))) => ?_⟩
      ·
        have n8 : (wr (i + 1)) = i + 1 := wr_id (show -2147483648 ≤ (i + 1 : Int) ∧ (i + 1 : Int) < 2147483648 from by omega)
        exact ih b (wr (i + 1))  (show ((-1) : Int) ≤ b from by first | with_reducible assumption | omega | (simp only [wr, wl] at *; omega)) (show (b : Int) ≤ 23 from by first | with_reducible assumption | omega | (simp only [wr, wl] at *; omega)) (show (0 : Int) ≤ (wr (i + 1)) from by first | with_reducible assumption | omega | (simp only [wr, wl] at *; omega)) (show ((wr (i + 1)) : Int) ≤ 24 from by first | with_reducible assumption | omega | (simp only [wr, wl] at *; omega)) (show (I rd 2) = N from by first | omega | (simp only [wr, wl] at *; omega)) (show (wr (i + 1)) ≤ N from by first | with_reducible assumption | omega | (simp only [wr, wl] at *; omega)) ((by
                              have h := cc106
                              have ks := tpF_s (L := L) (k := Int.toNat i)
                              rw [← h] at ks
                              rw [show Int.toNat (wr (i + 1)) = Int.toNat i + 1 from by omega]
                              omega)) (show (N - (wr (i + 1))).toNat < mz from by omega)
      ·
        refine ⟨fun (c9 : ((b : Int) < 0)) => ?_, fun (c9 : (¬ ((b : Int) < 0))) => ?_⟩
        ·
          have n10 : (wr (i + 1)) = i + 1 := wr_id (show -2147483648 ≤ (i + 1 : Int) ∧ (i + 1 : Int) < 2147483648 from by omega)
          exact ih i (wr (i + 1))  (show ((-1) : Int) ≤ i from by first | with_reducible assumption | omega | (simp only [wr, wl] at *; omega)) (show (i : Int) ≤ 23 from by first | with_reducible assumption | omega | (simp only [wr, wl] at *; omega)) (show (0 : Int) ≤ (wr (i + 1)) from by first | with_reducible assumption | omega | (simp only [wr, wl] at *; omega)) (show ((wr (i + 1)) : Int) ≤ 24 from by first | with_reducible assumption | omega | (simp only [wr, wl] at *; omega)) (show (I rd 2) = N from by first | omega | (simp only [wr, wl] at *; omega)) (show (wr (i + 1)) ≤ N from by first | with_reducible assumption | omega | (simp only [wr, wl] at *; omega)) ((by
                              have h := cc106
                              have ks := tpF_s (L := L) (k := Int.toNat i)
                              rw [← h] at ks
                              rw [show Int.toNat (wr (i + 1)) = Int.toNat i + 1 from by omega]
                              omega)) (show (N - (wr (i + 1))).toNat < mz from by omega)
        ·
          refine ⟨⟨_, hr.1.1, (by have := hr.2; show _ < 254; omega)⟩, ?_⟩
          refine c_ld11 (v0 := i) hF hR hr hq (by omega) (fun vr11 hr12 qr13 => ?_)
          have hr12 : -2147483648 ≤ vr11 ∧ vr11 < 2147483648 := hr12
          have b14 : (-200000 : Int) ≤ vr11 ∧ vr11 ≤ 200000 := by rw [qr13]; exact hq.2.2.2.2 _
          refine ⟨⟨_, hr.1.1, (by have := hr.2; show _ < 254; omega)⟩, ?_⟩
          refine c_ld11 (v0 := b) hF hR hr hq (by omega) (fun vr15 hr16 qr17 => ?_)
          have hr16 : -2147483648 ≤ vr15 ∧ vr15 < 2147483648 := hr16
          have b18 : (-200000 : Int) ≤ vr15 ∧ vr15 ≤ 200000 := by rw [qr17]; exact hq.2.2.2.2 _
          refine ⟨fun (c19 : ((vr11 : Int) ≤ vr15)) => ?_, fun (c19 : (¬ ((vr11 : Int) ≤ vr15))) => ?_⟩
          ·
            have n20 : (wr (i + 1)) = i + 1 := wr_id (show -2147483648 ≤ (i + 1 : Int) ∧ (i + 1 : Int) < 2147483648 from by omega)
            exact ih b (wr (i + 1))  (show ((-1) : Int) ≤ b from by first | with_reducible assumption | omega | (simp only [wr, wl] at *; omega)) (show (b : Int) ≤ 23 from by first | with_reducible assumption | omega | (simp only [wr, wl] at *; omega)) (show (0 : Int) ≤ (wr (i + 1)) from by first | with_reducible assumption | omega | (simp only [wr, wl] at *; omega)) (show ((wr (i + 1)) : Int) ≤ 24 from by first | with_reducible assumption | omega | (simp only [wr, wl] at *; omega)) (show (I rd 2) = N from by first | omega | (simp only [wr, wl] at *; omega)) (show (wr (i + 1)) ≤ N from by first | with_reducible assumption | omega | (simp only [wr, wl] at *; omega)) ((by
                              have h := cc106
                              have ks := tpF_s (L := L) (k := Int.toNat i)
                              rw [← h] at ks
                              rw [show Int.toNat (wr (i + 1)) = Int.toNat i + 1 from by omega]
                              omega)) (show (N - (wr (i + 1))).toNat < mz from by omega)
          ·
            have n21 : (wr (i + 1)) = i + 1 := wr_id (show -2147483648 ≤ (i + 1 : Int) ∧ (i + 1 : Int) < 2147483648 from by omega)
            exact ih i (wr (i + 1))  (show ((-1) : Int) ≤ i from by first | with_reducible assumption | omega | (simp only [wr, wl] at *; omega)) (show (i : Int) ≤ 23 from by first | with_reducible assumption | omega | (simp only [wr, wl] at *; omega)) (show (0 : Int) ≤ (wr (i + 1)) from by first | with_reducible assumption | omega | (simp only [wr, wl] at *; omega)) (show ((wr (i + 1)) : Int) ≤ 24 from by first | with_reducible assumption | omega | (simp only [wr, wl] at *; omega)) (show (I rd 2) = N from by first | omega | (simp only [wr, wl] at *; omega)) (show (wr (i + 1)) ≤ N from by first | with_reducible assumption | omega | (simp only [wr, wl] at *; omega)) ((by
                              have h := cc106
                              have ks := tpF_s (L := L) (k := Int.toNat i)
                              rw [← h] at ks
                              rw [show Int.toNat (wr (i + 1)) = Int.toNat i + 1 from by omega]
                              omega)) (show (N - (wr (i + 1))).toNat < mz from by omega)
theorem c_tops11 (hF : FS F) (hR : Rg I) {rd : Nat} (hr : RP F rd) {S L : Nat → Int} {N : Int} (hq : RDS I rd S L N) (hQ : ∀ r : Int, iR r → (r = tpF L (Int.toNat N)) → Q (some (vi r)) F I) : CallN G (d + 2) kX6_topAt [vr rd] NP F I Q := by
  refine CallN_in (fun hok hA => CallN_out ?_)
  have hN := hq.2.2.1
  refine Call_wp (lv := [some (vr rd), none, none]) (by decide) ckX6_topAt [4] rfl rfl ?_
  have z1 : (I rd 2) = N := hq.1
  have a2 : -2147483648 ≤ (I rd 2) ∧ (I rd 2) < 2147483648 := hA.1 _ _
  refine c_tops11_l hF hR hr hq (fun r g3 hv hA' => hQ _ (hv _ rfl) g3) _ (-1) 0  (show ((-1) : Int) ≤ ((-1) : Int) from Int.le_refl _) (show (((-1) : Int) : Int) ≤ 23 from by first | with_reducible assumption | omega | (simp only [wr, wl] at *; omega)) (show (0 : Int) ≤ (0 : Int) from Int.le_refl _) (show ((0 : Int) : Int) ≤ 24 from by first | with_reducible assumption | omega | (simp only [wr, wl] at *; omega)) (show (I rd 2) = N from by first | omega | (simp only [wr, wl] at *; omega)) (show (0 : Int) ≤ N from by first | with_reducible assumption | omega | (simp only [wr, wl] at *; omega)) (rfl) (Nat.lt_succ_self _)
theorem r_tops11_l (hF : FS F) (hR : Rg I) {v0 : Int} (hp : 0 ≤ v0 ∧ v0 ≤ 13) {S L : Nat → Int} {N : Int} (hq : RDM I (Int.toNat v0) S L N) (hQ : ∀ (r : Int) , (r = tpF L (Int.toNat N)) → Q (some (vi r)) F I) : ∀ (mz : Nat) (b i : Int) , (((-1) : Int) ≤ b) → ((b : Int) ≤ 23) → ((0 : Int) ≤ i) → ((i : Int) ≤ 24) → (i ≤ N) → (b = tpF L (Int.toNat i)) → (N - i).toNat < mz → GoN G (d + 3) kX12_topOf NP NP 4 [some (vr 235), some (vi v0), some (vi b), some (vi i)] [] F I Q := by
  intro mz
  induction mz with
  | zero => intro b i _ _ _ _ _ _ h; exact absurd h (Nat.not_lt_zero _)
  | succ mz ih =>
    intro b i cc100 cc101 cc102 cc103 cc104 cc105 hm
    refine GoN_in (fun hok hA => ?_)
    have iiv0 : -2147483648 ≤ v0 ∧ v0 < 2147483648 := hok 1 _ rfl
    have iib : -2147483648 ≤ b ∧ b < 2147483648 := hok 2 _ rfl
    have iii : -2147483648 ≤ i ∧ i < 2147483648 := hok 3 _ rfl
    have hN := hq.2.2.1
    have tb := tpF_b (L := L) (Int.toNat i)
    rw [← cc105] at tb
    refine Go_wp (by decide) ckX12_topOf [4] ?_
    refine ⟨⟨_, rfl, (by decide)⟩, ?_⟩
    refine r_many11 (v0 := v0) hF hR (by omega) hq (fun vr1 hr2 qr3 => ?_)
    have hr2 : -2147483648 ≤ vr1 ∧ vr1 < 2147483648 := hr2
    refine ⟨fun (c4 : ((vr1 : Int) ≤ i)) => ?_, fun (c4 : (¬ ((vr1 : Int) ≤ i))) => ?_⟩
    ·
      exact ⟨rfl, hQ _ ((by
                              have h := cc105
                              rw [show Int.toNat N = Int.toNat i from by omega]
                              exact h))⟩
    ·
      refine ⟨⟨_, rfl, (by decide)⟩, ?_⟩
      refine r_gd11 (v0 := v0) (v1 := i) hF hR (by omega) hq (by omega) (fun vr5 hr6 qr7 => ?_)
      have hr6 : -2147483648 ≤ vr5 ∧ vr5 < 2147483648 := hr6
      refine ⟨fun (c8 : ((vr5 : Int) = 0)) => ?_, fun (c8 : (¬ ((vr5 : Int) = 0))) => ?_⟩
      ·
        have n9 : (wr (i + 1)) = i + 1 := wr_id (show -2147483648 ≤ (i + 1 : Int) ∧ (i + 1 : Int) < 2147483648 from by omega)
        exact ih b (wr (i + 1))  (show ((-1) : Int) ≤ b from by first | with_reducible assumption | omega | (simp only [wr, wl] at *; omega)) (show (b : Int) ≤ 23 from by first | with_reducible assumption | omega | (simp only [wr, wl] at *; omega)) (show (0 : Int) ≤ (wr (i + 1)) from by first | with_reducible assumption | omega | (simp only [wr, wl] at *; omega)) (show ((wr (i + 1)) : Int) ≤ 24 from by first | with_reducible assumption | omega | (simp only [wr, wl] at *; omega)) (show (wr (i + 1)) ≤ N from by first | with_reducible assumption | omega | (simp only [wr, wl] at *; omega)) ((by
                              have h := cc105
                              have ks := tpF_s (L := L) (k := Int.toNat i)
                              rw [← h] at ks
                              rw [show Int.toNat (wr (i + 1)) = Int.toNat i + 1 from by omega]
                              omega)) (show (N - (wr (i + 1))).toNat < mz from by omega)
      ·
        refine ⟨fun (c10 : ((b : Int) < 0)) => ?_, fun (c10 : (¬ ((b : Int) < 0))) => ?_⟩
        ·
          have n11 : (wr (i + 1)) = i + 1 := wr_id (show -2147483648 ≤ (i + 1 : Int) ∧ (i + 1 : Int) < 2147483648 from by omega)
          exact ih i (wr (i + 1))  (show ((-1) : Int) ≤ i from by first | with_reducible assumption | omega | (simp only [wr, wl] at *; omega)) (show (i : Int) ≤ 23 from by first | with_reducible assumption | omega | (simp only [wr, wl] at *; omega)) (show (0 : Int) ≤ (wr (i + 1)) from by first | with_reducible assumption | omega | (simp only [wr, wl] at *; omega)) (show ((wr (i + 1)) : Int) ≤ 24 from by first | with_reducible assumption | omega | (simp only [wr, wl] at *; omega)) (show (wr (i + 1)) ≤ N from by first | with_reducible assumption | omega | (simp only [wr, wl] at *; omega)) ((by
                              have h := cc105
                              have ks := tpF_s (L := L) (k := Int.toNat i)
                              rw [← h] at ks
                              rw [show Int.toNat (wr (i + 1)) = Int.toNat i + 1 from by omega]
                              omega)) (show (N - (wr (i + 1))).toNat < mz from by omega)
        ·
          refine ⟨⟨_, rfl, (by decide)⟩, ?_⟩
          refine r_ld11 (v0 := v0) (v1 := i) hF hR (by omega) hq (by omega) (fun vr12 hr13 qr14 => ?_)
          have hr13 : -2147483648 ≤ vr12 ∧ vr12 < 2147483648 := hr13
          have b15 : (-200000 : Int) ≤ vr12 ∧ vr12 ≤ 200000 := by rw [qr14]; exact hq.2.2.2.2 _
          refine ⟨⟨_, rfl, (by decide)⟩, ?_⟩
          refine r_ld11 (v0 := v0) (v1 := b) hF hR (by omega) hq (by omega) (fun vr16 hr17 qr18 => ?_)
          have hr17 : -2147483648 ≤ vr16 ∧ vr16 < 2147483648 := hr17
          have b19 : (-200000 : Int) ≤ vr16 ∧ vr16 ≤ 200000 := by rw [qr18]; exact hq.2.2.2.2 _
          refine ⟨fun (c20 : ((vr12 : Int) ≤ vr16)) => ?_, fun (c20 : (¬ ((vr12 : Int) ≤ vr16))) => ?_⟩
          ·
            have n21 : (wr (i + 1)) = i + 1 := wr_id (show -2147483648 ≤ (i + 1 : Int) ∧ (i + 1 : Int) < 2147483648 from by omega)
            exact ih b (wr (i + 1))  (show ((-1) : Int) ≤ b from by first | with_reducible assumption | omega | (simp only [wr, wl] at *; omega)) (show (b : Int) ≤ 23 from by first | with_reducible assumption | omega | (simp only [wr, wl] at *; omega)) (show (0 : Int) ≤ (wr (i + 1)) from by first | with_reducible assumption | omega | (simp only [wr, wl] at *; omega)) (show ((wr (i + 1)) : Int) ≤ 24 from by first | with_reducible assumption | omega | (simp only [wr, wl] at *; omega)) (show (wr (i + 1)) ≤ N from by first | with_reducible assumption | omega | (simp only [wr, wl] at *; omega)) ((by
                              have h := cc105
                              have ks := tpF_s (L := L) (k := Int.toNat i)
                              rw [← h] at ks
                              rw [show Int.toNat (wr (i + 1)) = Int.toNat i + 1 from by omega]
                              omega)) (show (N - (wr (i + 1))).toNat < mz from by omega)
          ·
            have n22 : (wr (i + 1)) = i + 1 := wr_id (show -2147483648 ≤ (i + 1 : Int) ∧ (i + 1 : Int) < 2147483648 from by omega)
            exact ih i (wr (i + 1))  (show ((-1) : Int) ≤ i from by first | with_reducible assumption | omega | (simp only [wr, wl] at *; omega)) (show (i : Int) ≤ 23 from by first | with_reducible assumption | omega | (simp only [wr, wl] at *; omega)) (show (0 : Int) ≤ (wr (i + 1)) from by first | with_reducible assumption | omega | (simp only [wr, wl] at *; omega)) (show ((wr (i + 1)) : Int) ≤ 24 from by first | with_reducible assumption | omega | (simp only [wr, wl] at *; omega)) (show (wr (i + 1)) ≤ N from by first | with_reducible assumption | omega | (simp only [wr, wl] at *; omega)) ((by
                              have h := cc105
                              have ks := tpF_s (L := L) (k := Int.toNat i)
                              rw [← h] at ks
                              rw [show Int.toNat (wr (i + 1)) = Int.toNat i + 1 from by omega]
                              omega)) (show (N - (wr (i + 1))).toNat < mz from by omega)
theorem r_tops11 (hF : FS F) (hR : Rg I) {v0 : Int} (hp : 0 ≤ v0 ∧ v0 ≤ 13) {S L : Nat → Int} {N : Int} (hq : RDM I (Int.toNat v0) S L N) (hQ : ∀ r : Int, iR r → (r = tpF L (Int.toNat N)) → Q (some (vi r)) F I) : CallN G (d + 3) kX12_topOf [vr 235, vi v0] NP F I Q := by
  refine CallN_in (fun hok hA => CallN_out ?_)
  have iv0 : -2147483648 ≤ v0 ∧ v0 < 2147483648 := hok (vi v0) (by simp)
  have hN := hq.2.2.1
  refine Call_wp (lv := [some (vr 235), some (vi v0), none, none]) (by decide) ckX12_topOf [4] rfl rfl ?_
  refine r_tops11_l hF hR hp hq (fun r g3 hv hA' => hQ _ (hv _ rfl) g3) _ (-1) 0  (show ((-1) : Int) ≤ ((-1) : Int) from Int.le_refl _) (show (((-1) : Int) : Int) ≤ 23 from by first | with_reducible assumption | omega | (simp only [wr, wl] at *; omega)) (show (0 : Int) ≤ (0 : Int) from Int.le_refl _) (show ((0 : Int) : Int) ≤ 24 from by first | with_reducible assumption | omega | (simp only [wr, wl] at *; omega)) (show (0 : Int) ≤ N from by first | with_reducible assumption | omega | (simp only [wr, wl] at *; omega)) (rfl) (Nat.lt_succ_self _)
end TP11
