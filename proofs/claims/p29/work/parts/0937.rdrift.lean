/-! drift of the reference, from any state. Own work (scripts laid by wip/pm/gen30.py). -/
section RD
variable {G : pG} {d : Nat} {F : pF} {I : pI} {Q : Option pV → pF → pI → Prop}
theorem r_bits_l (hF : FS F) (hR : Rg I) {v0 : Int}  (hQ : ∀ (r : Int) , Q (some (vi r)) F I) : ∀ (mz : Nat) (s i : Int) , ((0 : Int) ≤ i) → ((i : Int) ≤ 24) → (24 - i).toNat < mz → GoN G d kX12_bits NP NP 4 [some (vi v0), some (vi s), some (vi i)] [] F I Q := by
  intro mz
  induction mz with
  | zero => intro s i _ _ h; exact absurd h (Nat.not_lt_zero _)
  | succ mz ih =>
    intro s i c100 c101 hm
    refine GoN_in (fun hok hA => ?_)
    have iiv0 : -2147483648 ≤ v0 ∧ v0 < 2147483648 := hok 0 _ rfl
    have iis : -2147483648 ≤ s ∧ s < 2147483648 := hok 1 _ rfl
    have iii : -2147483648 ≤ i ∧ i < 2147483648 := hok 2 _ rfl
    refine Go_wp (by decide) ckX12_bits [4] ?_
    refine ⟨fun (c1 : ((24 : Int) ≤ i)) => ?_, fun (c1 : (¬ ((24 : Int) ≤ i))) => ?_⟩
    ·
      exact ⟨rfl, hQ _⟩
    ·
      have n2 : 0 ≤ (bI (srI v0 i) 1) ∧ (bI (srI v0 i) 1) ≤ 1 := bI_ri (by decide)
      have n3 : -2147483648 ≤ (wr (s + (bI (srI v0 i) 1))) ∧ (wr (s + (bI (srI v0 i) 1))) < 2147483648 := wr_R _
      have n4 : (wr (i + 1)) = i + 1 := wr_id (show -2147483648 ≤ (i + 1 : Int) ∧ (i + 1 : Int) < 2147483648 from by omega)
      exact ih (wr (s + (bI (srI v0 i) 1))) (wr (i + 1))  (show (0 : Int) ≤ (wr (i + 1)) from by first | with_reducible assumption | omega | (simp only [wr, wl] at *; omega)) (show ((wr (i + 1)) : Int) ≤ 24 from by first | with_reducible assumption | omega | (simp only [wr, wl] at *; omega)) (show (24 - (wr (i + 1))).toNat < mz from by omega)
theorem r_bits (hF : FS F) (hR : Rg I) {v0 : Int}  (hQ : ∀ r : Int, iR r → Q (some (vi r)) F I) : CallN G d kX12_bits [vi v0] NP F I Q := by
  refine CallN_in (fun hok hA => CallN_out ?_)
  have iv0 : -2147483648 ≤ v0 ∧ v0 < 2147483648 := hok (vi v0) (by simp)
  refine Call_wp (lv := [some (vi v0), none, none]) (by decide) ckX12_bits [4] rfl rfl ?_
  refine r_bits_l hF hR  (fun r hv hA' => hQ _ (hv _ rfl)) _ 0 0  (show (0 : Int) ≤ (0 : Int) from Int.le_refl _) (show ((0 : Int) : Int) ≤ 24 from by first | with_reducible assumption | omega | (simp only [wr, wl] at *; omega)) (Nat.lt_succ_self _)
theorem r_drift_l2 (hF : FS F) (hR : Rg I) {b k le v0 : Int} (hn : 2 ≤ v0 ∧ v0 ≤ 12) (hk : 0 ≤ k ∧ k ≤ 4095) (hK : ∀ (s : Int) , GoN G (d + 1) kX12_drift NP NP 79 [some (vr 235), some (vi v0), some (vi b), some (vi le), some (vi k), some (vi s), none] [] F I Q) : ∀ (mz : Nat) (s i : Int) , ((0 : Int) ≤ i) → (v0 - i).toNat < mz → GoN G (d + 1) kX12_drift NP NP 40 [some (vr 235), some (vi v0), some (vi b), some (vi le), some (vi k), some (vi s), some (vi i)] [] F I Q := by
  intro mz
  induction mz with
  | zero => intro s i _ h; exact absurd h (Nat.not_lt_zero _)
  | succ mz ih =>
    intro s i c100 hm
    refine GoN_in (fun hok hA => ?_)
    have iiv0 : -2147483648 ≤ v0 ∧ v0 < 2147483648 := hok 1 _ rfl
    have iib : -2147483648 ≤ b ∧ b < 2147483648 := hok 2 _ rfl
    have iile : -2147483648 ≤ le ∧ le < 2147483648 := hok 3 _ rfl
    have iik : -2147483648 ≤ k ∧ k < 2147483648 := hok 4 _ rfl
    have iis : -2147483648 ≤ s ∧ s < 2147483648 := hok 5 _ rfl
    have iii : -2147483648 ≤ i ∧ i < 2147483648 := hok 6 _ rfl
    refine Go_wp (by decide) ckX12_drift [40, 79] ?_
    refine ⟨fun (c1 : ((v0 : Int) ≤ i)) => ?_, fun (c1 : (¬ ((v0 : Int) ≤ i))) => ?_⟩
    ·
      refine GoN_lv (lv' := [some (vr 235), some (vi v0), some (vi b), some (vi le), some (vi k), some (vi s), none]) (LvLe.k (LvLe.k (LvLe.k (LvLe.k (LvLe.k (LvLe.k (LvLe.d LvLe.n))))))) ?_
      exact hK s  
    ·
      refine Call_wp (lv := [some (vi k), some (vi i)]) (by decide) ckX12_has [] rfl rfl ?_
      have n2 : 0 ≤ (bI (srI k i) 1) ∧ (bI (srI k i) 1) ≤ 1 := bI_ri (by decide)
      refine ⟨fun (c3 : (¬ ((bI (srI k i) 1) : Int) = 1)) => ?_, fun (c3 : (((bI (srI k i) 1) : Int) = 1)) => ?_⟩
      ·
        refine ⟨rfl, (by decide), ?_⟩
        refine ⟨fun _ => ?_, fun c => absurd (show ((0 : Int) = 0) from by decide) c⟩
        have n4 : -2147483648 ≤ (wr ((wr (- i)) - 1)) ∧ (wr ((wr (- i)) - 1)) < 2147483648 := wr_R _
        have n5 : -2147483648 ≤ (wr (s + (wr ((wr (- i)) - 1)))) ∧ (wr (s + (wr ((wr (- i)) - 1)))) < 2147483648 := wr_R _
        have n6 : (wr (i + 1)) = i + 1 := wr_id (show -2147483648 ≤ (i + 1 : Int) ∧ (i + 1 : Int) < 2147483648 from by omega)
        exact ih (wr (s + (wr ((wr (- i)) - 1)))) (wr (i + 1))  (show (0 : Int) ≤ (wr (i + 1)) from by first | with_reducible assumption | omega | (simp only [wr, wl] at *; omega)) (show (v0 - (wr (i + 1))).toNat < mz from by omega)
      ·
        refine ⟨rfl, (by decide), ?_⟩
        refine ⟨fun c => absurd c (show (¬ ((1 : Int) = 0)) from by decide), fun _ => ?_⟩
        have n7 : (wr (i + 1)) = i + 1 := wr_id (show -2147483648 ≤ (i + 1 : Int) ∧ (i + 1 : Int) < 2147483648 from by omega)
        have n8 : -2147483648 ≤ (wr (s + (wr (i + 1)))) ∧ (wr (s + (wr (i + 1)))) < 2147483648 := wr_R _
        exact ih (wr (s + (wr (i + 1)))) (wr (i + 1))  (show (0 : Int) ≤ (wr (i + 1)) from by first | with_reducible assumption | omega | (simp only [wr, wl] at *; omega)) (show (v0 - (wr (i + 1))).toNat < mz from by omega)
theorem r_drift_l1 (hF : FS F) (hR : Rg I) {v0 : Int} (hn : 2 ≤ v0 ∧ v0 ≤ 12) (hQ : ∀ (r : Int) , Q (some (vi r)) F I) : ∀ (mz : Nat) (b le k : Int) , ((0 : Int) ≤ k) → ((k : Int) ≤ 4096) → (4096 - k).toNat < mz → GoN G (d + 1) kX12_drift NP NP 26 [some (vr 235), some (vi v0), some (vi b), some (vi le), some (vi k), none, none] [] F I Q := by
  intro mz
  induction mz with
  | zero => intro b le k _ _ h; exact absurd h (Nat.not_lt_zero _)
  | succ mz ih =>
    intro b le k c100 c101 hm
    refine GoN_in (fun hok hA => ?_)
    have iiv0 : -2147483648 ≤ v0 ∧ v0 < 2147483648 := hok 1 _ rfl
    have iib : -2147483648 ≤ b ∧ b < 2147483648 := hok 2 _ rfl
    have iile : -2147483648 ≤ le ∧ le < 2147483648 := hok 3 _ rfl
    have iik : -2147483648 ≤ k ∧ k < 2147483648 := hok 4 _ rfl
    refine Go_wp (by decide) ckX12_drift [26, 40] ?_
    have n1 : 1 ≤ (slI 1 v0) ∧ (slI 1 v0) ≤ 4096 := slI_12 (by omega)
    refine ⟨fun (c2 : (((slI 1 v0) : Int) ≤ k)) => ?_, fun (c2 : (¬ (((slI 1 v0) : Int) ≤ k))) => ?_⟩
    ·
      exact ⟨rfl, hQ _⟩
    ·
      refine r_drift_l2 hF hR (by omega) (by omega) (fun y3 => ?_) _ 0 0  (show (0 : Int) ≤ (0 : Int) from Int.le_refl _) (Nat.lt_succ_self _)
      refine GoN_in (fun hok4 hA5 => ?_)
      have i6 : -2147483648 ≤ y3 ∧ y3 < 2147483648 := hok4 5 _ rfl
      refine Go_wp (by decide) ckX12_drift [26, 40] ?_
      refine r_bits  hF hR (fun vr7 hr8 => ?_)
      have hr8 : -2147483648 ≤ vr7 ∧ vr7 < 2147483648 := hr8
      refine ⟨(by decide), ?_⟩
      have n9 : (Int.tdiv v0 2) = (v0 : Int) / 2 := Int.tdiv_eq_ediv_of_nonneg (by omega)
      have n10 : (wr (Int.tdiv v0 2)) = (Int.tdiv v0 2) := wr_id (show -2147483648 ≤ ((Int.tdiv v0 2) : Int) ∧ ((Int.tdiv v0 2) : Int) < 2147483648 from by omega)
      refine ⟨fun (c11 : (¬ (vr7 : Int) = (wr (Int.tdiv v0 2)))) => ?_, fun (c11 : ((vr7 : Int) = (wr (Int.tdiv v0 2)))) => ?_⟩
      ·
        refine GoN_lv (lv' := [some (vr 235), some (vi v0), some (vi b), some (vi le), some (vi (wr (k + 1))), none, none]) (LvLe.k (LvLe.k (LvLe.k (LvLe.k (LvLe.k (LvLe.d (LvLe.k LvLe.n))))))) ?_
        have n12 : (wr (k + 1)) = k + 1 := wr_id (show -2147483648 ≤ (k + 1 : Int) ∧ (k + 1 : Int) < 2147483648 from by omega)
        exact ih b le (wr (k + 1))  (show (0 : Int) ≤ (wr (k + 1)) from by first | with_reducible assumption | omega | (simp only [wr, wl] at *; omega)) (show ((wr (k + 1)) : Int) ≤ 4096 from by first | with_reducible assumption | omega | (simp only [wr, wl] at *; omega)) (show (4096 - (wr (k + 1))).toNat < mz from by omega)
      ·
        refine Call_wp (lv := [some (vi y3)]) (by decide) ckJ9_abs_0f7a4 [] rfl rfl ?_
        refine ⟨fun (c13 : ((0 : Int) ≤ y3)) => ?_, fun (c13 : (¬ ((0 : Int) ≤ y3))) => ?_⟩
        ·
          refine ⟨rfl, ?_⟩
          refine ⟨fun (c14 : ((le : Int) ≤ y3)) => ?_, fun (c14 : (¬ ((le : Int) ≤ y3))) => ?_⟩
          ·
            refine GoN_lv (lv' := [some (vr 235), some (vi v0), some (vi b), some (vi le), some (vi (wr (k + 1))), none, none]) (LvLe.k (LvLe.k (LvLe.k (LvLe.k (LvLe.k (LvLe.d (LvLe.k LvLe.n))))))) ?_
            have n15 : (wr (k + 1)) = k + 1 := wr_id (show -2147483648 ≤ (k + 1 : Int) ∧ (k + 1 : Int) < 2147483648 from by omega)
            exact ih b le (wr (k + 1))  (show (0 : Int) ≤ (wr (k + 1)) from by first | with_reducible assumption | omega | (simp only [wr, wl] at *; omega)) (show ((wr (k + 1)) : Int) ≤ 4096 from by first | with_reducible assumption | omega | (simp only [wr, wl] at *; omega)) (show (4096 - (wr (k + 1))).toNat < mz from by omega)
          ·
            refine Call_wp (lv := [some (vi y3)]) (by decide) ckJ9_abs_0f7a4 [] rfl rfl ?_
            refine ⟨fun _ => ?_, fun c => absurd (show ((0 : Int) ≤ y3) from by first | with_reducible assumption | omega | (simp only [wr, wl] at *; omega)) c⟩
            refine ⟨rfl, ?_⟩
            refine GoN_lv (lv' := [some (vr 235), some (vi v0), some (vi k), some (vi y3), some (vi (wr (k + 1))), none, none]) (LvLe.k (LvLe.k (LvLe.k (LvLe.k (LvLe.k (LvLe.d (LvLe.k LvLe.n))))))) ?_
            have n16 : (wr (k + 1)) = k + 1 := wr_id (show -2147483648 ≤ (k + 1 : Int) ∧ (k + 1 : Int) < 2147483648 from by omega)
            exact ih k y3 (wr (k + 1))  (show (0 : Int) ≤ (wr (k + 1)) from by first | with_reducible assumption | omega | (simp only [wr, wl] at *; omega)) (show ((wr (k + 1)) : Int) ≤ 4096 from by first | with_reducible assumption | omega | (simp only [wr, wl] at *; omega)) (show (4096 - (wr (k + 1))).toNat < mz from by omega)
        ·
          refine ⟨rfl, ?_⟩
          refine ⟨fun (c17 : ((le : Int) ≤ (wr (- y3)))) => ?_, fun (c17 : (¬ ((le : Int) ≤ (wr (- y3))))) => ?_⟩
          ·
            refine GoN_lv (lv' := [some (vr 235), some (vi v0), some (vi b), some (vi le), some (vi (wr (k + 1))), none, none]) (LvLe.k (LvLe.k (LvLe.k (LvLe.k (LvLe.k (LvLe.d (LvLe.k LvLe.n))))))) ?_
            have n18 : (wr (k + 1)) = k + 1 := wr_id (show -2147483648 ≤ (k + 1 : Int) ∧ (k + 1 : Int) < 2147483648 from by omega)
            exact ih b le (wr (k + 1))  (show (0 : Int) ≤ (wr (k + 1)) from by first | with_reducible assumption | omega | (simp only [wr, wl] at *; omega)) (show ((wr (k + 1)) : Int) ≤ 4096 from by first | with_reducible assumption | omega | (simp only [wr, wl] at *; omega)) (show (4096 - (wr (k + 1))).toNat < mz from by omega)
          ·
            refine Call_wp (lv := [some (vi y3)]) (by decide) ckJ9_abs_0f7a4 [] rfl rfl ?_
            refine ⟨fun c => absurd c (show (¬ ((0 : Int) ≤ y3)) from by first | omega | (simp only [wr, wl] at *; omega)), fun _ => ?_⟩
            refine ⟨rfl, ?_⟩
            refine GoN_lv (lv' := [some (vr 235), some (vi v0), some (vi k), some (vi (wr (- y3))), some (vi (wr (k + 1))), none, none]) (LvLe.k (LvLe.k (LvLe.k (LvLe.k (LvLe.k (LvLe.d (LvLe.k LvLe.n))))))) ?_
            have n19 : (wr (k + 1)) = k + 1 := wr_id (show -2147483648 ≤ (k + 1 : Int) ∧ (k + 1 : Int) < 2147483648 from by omega)
            exact ih k (wr (- y3)) (wr (k + 1))  (show (0 : Int) ≤ (wr (k + 1)) from by first | with_reducible assumption | omega | (simp only [wr, wl] at *; omega)) (show ((wr (k + 1)) : Int) ≤ 4096 from by first | with_reducible assumption | omega | (simp only [wr, wl] at *; omega)) (show (4096 - (wr (k + 1))).toNat < mz from by omega)
theorem r_drift (hF : FS F) (hR : Rg I) {v0 : Int}  (hQ : ∀ (r : Int) (I' : pI), Rg I' → AR I' → iR r → (∀ k j, ¬ (k = 238) → I' k j = I k j) → Q (some (vi r)) F I') : CallN G (d + 1) kX12_drift [vr 235, vi v0] NP F I Q := by
  refine CallN_in (fun hok hA => CallN_out ?_)
  have iv0 : -2147483648 ≤ v0 ∧ v0 < 2147483648 := hok (vi v0) (by simp)
  refine Call_wp (lv := [some (vr 235), some (vi v0), none, none, none, none, none]) (by decide) ckX12_drift [26] rfl rfl ?_
  refine s_X12_within (fun (w1 : ((2 : Int) ≤ v0 ∧ (v0 : Int) ≤ 12)) => ?_) (fun (w1 : ¬ ((2 : Int) ≤ v0 ∧ (v0 : Int) ≤ 12)) => ?_)
  ·
    refine ⟨fun _ => ?_, fun c => absurd c (show (¬ (1 : Int) = 0) from by decide)⟩
    refine r_drift_l1 hF hR (by omega) (fun r hv hA' => hQ _ _ hR hA' (hv _ rfl) (fun _ _ _ => rfl)) _ 0 1000 0  (show (0 : Int) ≤ (0 : Int) from Int.le_refl _) (show ((0 : Int) : Int) ≤ 4096 from by first | with_reducible assumption | omega | (simp only [wr, wl] at *; omega)) (Nat.lt_succ_self _)
  ·
    refine ⟨fun c => absurd (show ((0 : Int) = 0) from by decide) c, fun _ => ?_⟩
    refine ⟨⟨_, rfl, (by decide)⟩, ?_⟩
    refine s_X12_finding hF (v := (-1000001)) (by decide) ?_
    exact ⟨rfl, fun hv hA' => hQ _ _ (Rg.u hR (Pr_f rfl)) hA' (hv _ rfl) (fun ka ja hk => (uI_o (show ¬ (ka = 238 ∧ ja = 1) from by first | (intro e; obtain ⟨rfl, rfl⟩ := e; exact hk (by decide)) | omega)))⟩
end RD
