/-! what curve answers. Own work (scripts laid by wip/pm/gen34.py). -/
section CU11
variable {G : pG} {d : Nat} {F : pF} {I : pI} {Q : Option pV → pF → pI → Prop}
/-- between two, straight -/
def swF (f o p w : Int) : Int := if w = 0 then f else f + Int.tdiv ((o - f) * p) w
theorem td_n {x w M : Int} (hw : 0 < w) (hM : 0 ≤ M) (hx : -M ≤ x ∧ x ≤ M) : -M ≤ Int.tdiv x w ∧ Int.tdiv x w ≤ M := by
  have e : M + 1 ≤ (M + 1) * w := by
    have h := Int.mul_le_mul_of_nonneg_left (show (1 : Int) ≤ w by omega) (show 0 ≤ M + 1 by omega)
    rwa [Int.mul_one] at h
  exact td_b hw hM (by omega) (by omega)
theorem pms {x y : Int} (hx : -400000 ≤ x ∧ x ≤ 400000) (hy : 0 ≤ y ∧ y ≤ 999) : -399600000 ≤ x * y ∧ x * y ≤ 399600000 := by
  have h : (x * y).natAbs ≤ 400000 * 999 := by rw [Int.natAbs_mul]; exact Nat.mul_le_mul (by omega) (by omega)
  omega
theorem swF_b {f o p w : Int} (hf : -200000 ≤ f ∧ f ≤ 200000) (ho : -200000 ≤ o ∧ o ≤ 200000) (hp : 0 ≤ p ∧ p ≤ 999) (hw : 0 ≤ w) : -399800000 ≤ swF f o p w ∧ swF f o p w ≤ 399800000 := by
  unfold swF
  by_cases c : w = 0
  · rw [if_pos c]; omega
  · rw [if_neg c]
    have t := td_n (x := (o - f) * p) (w := w) (M := 399600000) (by omega) (by omega) (pms (by omega) hp)
    omega
theorem sw_of {f o p w f' x p' w' : Int} (hf : f' = f) (hx : x = o - f) (hp : p' = p) (hw : w' = w) (bf : -200000 ≤ f ∧ f ≤ 200000) (bo : -200000 ≤ o ∧ o ≤ 200000) (bp : 0 ≤ p ∧ p ≤ 999) (bw : 0 ≤ w) (h0 : ¬ w = 0) : wr (f' + (wr (wl (Int.tdiv (wl (x * p')) w')))) = swF f o p w := by
  subst hf hx hp hw
  have m := pms (x := o - f') (y := p') (by omega) bp
  have t := td_n (x := (o - f') * p') (w := w') (M := 399600000) (by omega) (by omega) m
  have e1 : wl ((o - f') * p') = (o - f') * p' := wl_id (by unfold lR; omega)
  have e2 : wl (Int.tdiv ((o - f') * p') w') = Int.tdiv ((o - f') * p') w' := wl_id (by unfold lR; omega)
  have e3 : wr (Int.tdiv ((o - f') * p') w') = Int.tdiv ((o - f') * p') w' := wr_id (by unfold iR; omega)
  rw [e1, e2, e3, wr_id (by unfold iR; omega)]
  unfold swF
  rw [if_neg h0]
theorem sw_0 {f o p w : Int} (h : w = 0) : swF f o p w = f := if_pos h
theorem crF_s {S L : Nat → Int} {x : Int} {m k : Nat} {a : Int} : (¬ 0 ≤ L k → crF S L x (m + 1) k a = crF S L x m (k + 1) a) ∧ (0 ≤ L k → ¬ (0 ≤ a ∧ S (Int.toNat a) ≤ x ∧ x ≤ S k) → crF S L x (m + 1) k a = crF S L x m (k + 1) (k : Int)) ∧ (0 ≤ L k → 0 ≤ a ∧ S (Int.toNat a) ≤ x ∧ x ≤ S k → crF S L x (m + 1) k a = swF (L (Int.toNat a)) (L k) (x - S (Int.toNat a)) (S k - S (Int.toNat a))) := by
  refine ⟨fun h => ?_, fun h g => ?_, fun h g => ?_⟩
  · exact if_neg h
  · exact (if_pos h).trans (if_neg g)
  · exact (if_pos h).trans (if_pos g)
theorem crF_b {S L : Nat → Int} (hb : RB S L) {x : Int} (hx : 0 ≤ x ∧ x ≤ 999) : ∀ (m k : Nat) (a : Int), crF S L x m k a ≤ 2000000000 := by
  intro m
  induction m with
  | zero => intro k a; show (-1 : Int) ≤ 2000000000; omega
  | succ m ih =>
    intro k a
    have s := crF_s (S := S) (L := L) (x := x) (m := m) (k := k) (a := a)
    by_cases c : 0 ≤ L k
    · by_cases d : 0 ≤ a ∧ S (Int.toNat a) ≤ x ∧ x ≤ S k
      · rw [s.2.2 c d]
        have b1 := hb.1 (Int.toNat a)
        have b := swF_b (f := L (Int.toNat a)) (o := L k) (p := x - S (Int.toNat a)) (w := S k - S (Int.toNat a)) (hb.2 _) (hb.2 _) (by omega) (by omega)
        omega
      · rw [s.2.1 c d]; exact ih _ _
    · rw [s.1 c]; exact ih _ _
theorem wr_w {w l : Int} (hl : 0 ≤ l ∧ l ≤ 13) : (w = 0 → wr (w * l) = 0) ∧ (w = 1 → wr (w * l) = l) ∧ (w = 2 → wr (w * l) = 2 * l) := by
  refine ⟨fun h => ?_, fun h => ?_, fun h => ?_⟩
  · subst h; rw [Int.zero_mul]; exact wr_id (by unfold iR; omega)
  · subst h; rw [Int.one_mul]; exact wr_id (by unfold iR; omega)
  · subst h; exact wr_id (by unfold iR; omega)
theorem c_str11 (hF : FS F) (hR : Rg I) {v0 v1 v2 v3 : Int} {f o p w : Int} (h0 : v0 = f) (h1 : v1 = o) (h2 : v2 = p) (h3 : v3 = w) (bf : -200000 ≤ f ∧ f ≤ 200000) (bo : -200000 ≤ o ∧ o ≤ 200000) (bp : 0 ≤ p ∧ p ≤ 999) (bw : 0 ≤ w ∧ w ≤ 5100000) (hQ : ∀ r : Int, iR r → (r = swF f o p w) → Q (some (vi r)) F I) : CallN G d kX11_straight [vi v0, vi v1, vi v2, vi v3] NP F I Q := by
  refine CallN_in (fun hok hA => CallN_out ?_)
  have iv0 : -2147483648 ≤ v0 ∧ v0 < 2147483648 := hok (vi v0) (by simp)
  have iv1 : -2147483648 ≤ v1 ∧ v1 < 2147483648 := hok (vi v1) (by simp)
  have iv2 : -2147483648 ≤ v2 ∧ v2 < 2147483648 := hok (vi v2) (by simp)
  have iv3 : -2147483648 ≤ v3 ∧ v3 < 2147483648 := hok (vi v3) (by simp)
  refine Call_wp (lv := [some (vi v0), some (vi v1), some (vi v2), some (vi v3)]) (by decide) ckX11_straight [] rfl rfl ?_
  refine ⟨fun (c1 : (¬ (v3 : Int) = 0)) => ?_, fun (c1 : ((v3 : Int) = 0)) => ?_⟩
  ·
    refine ⟨(show ¬ (v3 : Int) = 0 from by first | omega | (simp only [wr, wl] at *; omega)), ?_⟩
    have n2 : (wr (v1 - v0)) = v1 - v0 := wr_id (show -2147483648 ≤ (v1 - v0 : Int) ∧ (v1 - v0 : Int) < 2147483648 from by omega)
    have n3 : -2147483648 ≤ (wr (wl (Int.tdiv (wl ((wr (v1 - v0)) * v2)) v3))) ∧ (wr (wl (Int.tdiv (wl ((wr (v1 - v0)) * v2)) v3))) < 2147483648 := wr_R _
    have n4 : -2147483648 ≤ (wr (v0 + (wr (wl (Int.tdiv (wl ((wr (v1 - v0)) * v2)) v3))))) ∧ (wr (v0 + (wr (wl (Int.tdiv (wl ((wr (v1 - v0)) * v2)) v3))))) < 2147483648 := wr_R _
    exact ⟨rfl, fun hv hA' => hQ _ (hv _ rfl) ((by
                              exact sw_of h0 (by omega) h2 h3 bf bo bp bw.1 (by omega)))⟩
  ·
    exact ⟨rfl, fun hv hA' => hQ _ (hv _ rfl) ((sw_0 (f := f) (o := o) (p := p) (w := w) (by omega)).trans h0.symm |>.symm)⟩
theorem c_crv11_l (hF : FS F) (hR : Rg I) {v0 : Int} {rd : Nat} (hr : RP F rd) {S L : Nat → Int} {N : Int} (hq : RDS I rd S L N) (hv : 0 ≤ v0 ∧ v0 ≤ 999) (hQ : ∀ (r : Int) , (r = crF S L v0 (Int.toNat N) 0 (-1)) → Q (some (vi r)) F I) : ∀ (mz : Nat) (a i : Int) , (((-1) : Int) ≤ a) → ((a : Int) ≤ 23) → ((0 : Int) ≤ i) → ((i : Int) ≤ 24) → ((I rd 2) = N) → (i ≤ N) → (a < i) → (crF S L v0 (Int.toNat (N - i)) (Int.toNat i) a = crF S L v0 (Int.toNat N) 0 (-1)) → (N - i).toNat < mz → GoN G (d + 2) kX6_curveAt NP NP 4 [some (vr rd), some (vi v0), some (vi a), some (vi i)] [] F I Q := by
  intro mz
  induction mz with
  | zero => intro a i _ _ _ _ _ _ _ _ h; exact absurd h (Nat.not_lt_zero _)
  | succ mz ih =>
    intro a i cc100 cc101 cc102 cc103 cc104 cc105 cc106 cc107 hm
    refine GoN_in (fun hok hA => ?_)
    have iiv0 : -2147483648 ≤ v0 ∧ v0 < 2147483648 := hok 1 _ rfl
    have iia : -2147483648 ≤ a ∧ a < 2147483648 := hok 2 _ rfl
    have iii : -2147483648 ≤ i ∧ i < 2147483648 := hok 3 _ rfl
    have hN := hq.2.2.1
    have sa := hq.2.2.2.1 (Int.toNat a)
    have si := hq.2.2.2.1 (Int.toNat i)
    have z1 : (I rd 2) = N := hq.1
    have a2 : -2147483648 ≤ (I rd 2) ∧ (I rd 2) < 2147483648 := hA.1 _ _
    refine Go_wp (by decide) ckX6_curveAt [4] ?_
    refine ⟨_, hr.1.1, (by have := hr.2; show _ < 254; omega), ?_⟩
    refine ⟨fun (c3 : (((I rd 2) : Int) ≤ i)) => ?_, fun (c3 : (¬ (((I rd 2) : Int) ≤ i))) => ?_⟩
    ·
      exact ⟨rfl, hQ _ ((by
                              have h := cc107
                              rw [show Int.toNat (N - i) = 0 from by omega] at h
                              exact h))⟩
    ·
      refine ⟨⟨_, hr.1.1, (by have := hr.2; show _ < 254; omega)⟩, ?_⟩
      refine c_gd11 (v0 := i) hF hR hr hq (by omega) (fun vr4 hr5 qr6 => ?_)
      have hr5 : -2147483648 ≤ vr4 ∧ vr4 < 2147483648 := hr5
      refine ⟨fun (c7 : (¬ (vr4 : Int) = 0)) => ?_, fun (c7 : ((vr4 : Int) = 0)) => ?_⟩
      ·
        refine ⟨fun (c8 : ((a : Int) < 0)) => ?_, fun (c8 : (¬ ((a : Int) < 0))) => ?_⟩
        ·
          have n9 : (wr (i + 1)) = i + 1 := wr_id (show -2147483648 ≤ (i + 1 : Int) ∧ (i + 1 : Int) < 2147483648 from by omega)
          exact ih i (wr (i + 1))  (show ((-1) : Int) ≤ i from by first | with_reducible assumption | omega | (simp only [wr, wl] at *; omega)) (show (i : Int) ≤ 23 from by first | with_reducible assumption | omega | (simp only [wr, wl] at *; omega)) (show (0 : Int) ≤ (wr (i + 1)) from by first | with_reducible assumption | omega | (simp only [wr, wl] at *; omega)) (show ((wr (i + 1)) : Int) ≤ 24 from by first | with_reducible assumption | omega | (simp only [wr, wl] at *; omega)) (show (I rd 2) = N from by first | omega | (simp only [wr, wl] at *; omega)) (show (wr (i + 1)) ≤ N from by first | with_reducible assumption | omega | (simp only [wr, wl] at *; omega)) (show i < (wr (i + 1)) from by first | with_reducible assumption | omega | (simp only [wr, wl] at *; omega)) (show crF S L v0 (Int.toNat (N - (wr (i + 1)))) (Int.toNat (wr (i + 1))) i = crF S L v0 (Int.toNat N) 0 (-1) from (by
                              have h := cc107
                              have ks := crF_s (S := S) (L := L) (x := v0) (m := Int.toNat (N - (i + 1))) (k := Int.toNat i) (a := a)
                              rw [show Int.toNat (N - i) = Int.toNat (N - (i + 1)) + 1 from by omega] at h
                              rw [show Int.toNat (wr (i + 1)) = Int.toNat i + 1 from by omega, show N - (wr (i + 1)) = N - (i + 1) from by omega]
                              first
                                | (rw [ks.1 (by omega)] at h; exact h)
                                | (rw [ks.2.1 (by omega) (fun q => by have q1 := q.1; have q2 := q.2.1; have q3 := q.2.2; omega), show ((Int.toNat i : Nat) : Int) = i from by omega] at h; exact h))) (show (N - (wr (i + 1))).toNat < mz from by omega)
        ·
          refine ⟨⟨_, hr.1.1, (by have := hr.2; show _ < 254; omega)⟩, ?_⟩
          refine c_st11 (v0 := a) hF hR hr hq (by omega) (fun vr10 hr11 qr12 => ?_)
          have hr11 : -2147483648 ≤ vr10 ∧ vr10 < 2147483648 := hr11
          have b13 : (0 : Int) ≤ vr10 ∧ vr10 ≤ 5100000 := by rw [qr12]; exact hq.2.2.2.1 _
          refine ⟨fun (c14 : ((v0 : Int) < vr10)) => ?_, fun (c14 : (¬ ((v0 : Int) < vr10))) => ?_⟩
          ·
            have n15 : (wr (i + 1)) = i + 1 := wr_id (show -2147483648 ≤ (i + 1 : Int) ∧ (i + 1 : Int) < 2147483648 from by omega)
            exact ih i (wr (i + 1))  (show ((-1) : Int) ≤ i from by first | with_reducible assumption | omega | (simp only [wr, wl] at *; omega)) (show (i : Int) ≤ 23 from by first | with_reducible assumption | omega | (simp only [wr, wl] at *; omega)) (show (0 : Int) ≤ (wr (i + 1)) from by first | with_reducible assumption | omega | (simp only [wr, wl] at *; omega)) (show ((wr (i + 1)) : Int) ≤ 24 from by first | with_reducible assumption | omega | (simp only [wr, wl] at *; omega)) (show (I rd 2) = N from by first | omega | (simp only [wr, wl] at *; omega)) (show (wr (i + 1)) ≤ N from by first | with_reducible assumption | omega | (simp only [wr, wl] at *; omega)) (show i < (wr (i + 1)) from by first | with_reducible assumption | omega | (simp only [wr, wl] at *; omega)) (show crF S L v0 (Int.toNat (N - (wr (i + 1)))) (Int.toNat (wr (i + 1))) i = crF S L v0 (Int.toNat N) 0 (-1) from (by
                              have h := cc107
                              have ks := crF_s (S := S) (L := L) (x := v0) (m := Int.toNat (N - (i + 1))) (k := Int.toNat i) (a := a)
                              rw [show Int.toNat (N - i) = Int.toNat (N - (i + 1)) + 1 from by omega] at h
                              rw [show Int.toNat (wr (i + 1)) = Int.toNat i + 1 from by omega, show N - (wr (i + 1)) = N - (i + 1) from by omega]
                              first
                                | (rw [ks.1 (by omega)] at h; exact h)
                                | (rw [ks.2.1 (by omega) (fun q => by have q1 := q.1; have q2 := q.2.1; have q3 := q.2.2; omega), show ((Int.toNat i : Nat) : Int) = i from by omega] at h; exact h))) (show (N - (wr (i + 1))).toNat < mz from by omega)
          ·
            refine ⟨⟨_, hr.1.1, (by have := hr.2; show _ < 254; omega)⟩, ?_⟩
            refine c_st11 (v0 := i) hF hR hr hq (by omega) (fun vr16 hr17 qr18 => ?_)
            have hr17 : -2147483648 ≤ vr16 ∧ vr16 < 2147483648 := hr17
            have b19 : (0 : Int) ≤ vr16 ∧ vr16 ≤ 5100000 := by rw [qr18]; exact hq.2.2.2.1 _
            refine ⟨fun (c20 : ((vr16 : Int) < v0)) => ?_, fun (c20 : (¬ ((vr16 : Int) < v0))) => ?_⟩
            ·
              have n21 : (wr (i + 1)) = i + 1 := wr_id (show -2147483648 ≤ (i + 1 : Int) ∧ (i + 1 : Int) < 2147483648 from by omega)
              exact ih i (wr (i + 1))  (show ((-1) : Int) ≤ i from by first | with_reducible assumption | omega | (simp only [wr, wl] at *; omega)) (show (i : Int) ≤ 23 from by first | with_reducible assumption | omega | (simp only [wr, wl] at *; omega)) (show (0 : Int) ≤ (wr (i + 1)) from by first | with_reducible assumption | omega | (simp only [wr, wl] at *; omega)) (show ((wr (i + 1)) : Int) ≤ 24 from by first | with_reducible assumption | omega | (simp only [wr, wl] at *; omega)) (show (I rd 2) = N from by first | omega | (simp only [wr, wl] at *; omega)) (show (wr (i + 1)) ≤ N from by first | with_reducible assumption | omega | (simp only [wr, wl] at *; omega)) (show i < (wr (i + 1)) from by first | with_reducible assumption | omega | (simp only [wr, wl] at *; omega)) (show crF S L v0 (Int.toNat (N - (wr (i + 1)))) (Int.toNat (wr (i + 1))) i = crF S L v0 (Int.toNat N) 0 (-1) from (by
                              have h := cc107
                              have ks := crF_s (S := S) (L := L) (x := v0) (m := Int.toNat (N - (i + 1))) (k := Int.toNat i) (a := a)
                              rw [show Int.toNat (N - i) = Int.toNat (N - (i + 1)) + 1 from by omega] at h
                              rw [show Int.toNat (wr (i + 1)) = Int.toNat i + 1 from by omega, show N - (wr (i + 1)) = N - (i + 1) from by omega]
                              first
                                | (rw [ks.1 (by omega)] at h; exact h)
                                | (rw [ks.2.1 (by omega) (fun q => by have q1 := q.1; have q2 := q.2.1; have q3 := q.2.2; omega), show ((Int.toNat i : Nat) : Int) = i from by omega] at h; exact h))) (show (N - (wr (i + 1))).toNat < mz from by omega)
            ·
              refine ⟨⟨_, hr.1.1, (by have := hr.2; show _ < 254; omega)⟩, ?_⟩
              refine c_ld11 (v0 := a) hF hR hr hq (by omega) (fun vr22 hr23 qr24 => ?_)
              have hr23 : -2147483648 ≤ vr22 ∧ vr22 < 2147483648 := hr23
              have b25 : (-200000 : Int) ≤ vr22 ∧ vr22 ≤ 200000 := by rw [qr24]; exact hq.2.2.2.2 _
              refine ⟨⟨_, hr.1.1, (by have := hr.2; show _ < 254; omega)⟩, ?_⟩
              refine c_ld11 (v0 := i) hF hR hr hq (by omega) (fun vr26 hr27 qr28 => ?_)
              have hr27 : -2147483648 ≤ vr26 ∧ vr26 < 2147483648 := hr27
              have b29 : (-200000 : Int) ≤ vr26 ∧ vr26 ≤ 200000 := by rw [qr28]; exact hq.2.2.2.2 _
              refine ⟨⟨_, hr.1.1, (by have := hr.2; show _ < 254; omega)⟩, ?_⟩
              refine c_st11 (v0 := a) hF hR hr hq (by omega) (fun vr30 hr31 qr32 => ?_)
              have hr31 : -2147483648 ≤ vr30 ∧ vr30 < 2147483648 := hr31
              have b33 : (0 : Int) ≤ vr30 ∧ vr30 ≤ 5100000 := by rw [qr32]; exact hq.2.2.2.1 _
              refine ⟨⟨_, hr.1.1, (by have := hr.2; show _ < 254; omega)⟩, ?_⟩
              refine c_st11 (v0 := i) hF hR hr hq (by omega) (fun vr34 hr35 qr36 => ?_)
              have hr35 : -2147483648 ≤ vr34 ∧ vr34 < 2147483648 := hr35
              have b37 : (0 : Int) ≤ vr34 ∧ vr34 ≤ 5100000 := by rw [qr36]; exact hq.2.2.2.1 _
              refine ⟨⟨_, hr.1.1, (by have := hr.2; show _ < 254; omega)⟩, ?_⟩
              refine c_st11 (v0 := a) hF hR hr hq (by omega) (fun vr38 hr39 qr40 => ?_)
              have hr39 : -2147483648 ≤ vr38 ∧ vr38 < 2147483648 := hr39
              have b41 : (0 : Int) ≤ vr38 ∧ vr38 ≤ 5100000 := by rw [qr40]; exact hq.2.2.2.1 _
              have n42 : (wr (v0 - vr30)) = v0 - vr30 := wr_id (show -2147483648 ≤ (v0 - vr30 : Int) ∧ (v0 - vr30 : Int) < 2147483648 from by omega)
              have n43 : (wr (vr34 - vr38)) = vr34 - vr38 := wr_id (show -2147483648 ≤ (vr34 - vr38 : Int) ∧ (vr34 - vr38 : Int) < 2147483648 from by omega)
              refine c_str11 (v0 := vr22) (v1 := vr26) (v2 := (wr (v0 - vr30))) (v3 := (wr (vr34 - vr38))) hF hR (f := L (Int.toNat a)) (o := L (Int.toNat i)) (p := v0 - S (Int.toNat a)) (w := S (Int.toNat i) - S (Int.toNat a)) (by omega) (by omega) (by omega) (by omega) (hq.2.2.2.2 _) (hq.2.2.2.2 _) (by omega) (by omega) (fun vr44 hr45 qr46 => ?_)
              have hr45 : -2147483648 ≤ vr44 ∧ vr44 < 2147483648 := hr45
              exact ⟨rfl, hQ _ ((by
                              have h := cc107
                              have ks := crF_s (S := S) (L := L) (x := v0) (m := Int.toNat (N - (i + 1))) (k := Int.toNat i) (a := a)
                              rw [show Int.toNat (N - i) = Int.toNat (N - (i + 1)) + 1 from by omega] at h
                              rw [ks.2.2 (by omega) ⟨by omega, by omega, by omega⟩] at h
                              rw [← h]
                              exact qr46))⟩
      ·
        have n47 : (wr (i + 1)) = i + 1 := wr_id (show -2147483648 ≤ (i + 1 : Int) ∧ (i + 1 : Int) < 2147483648 from by omega)
        exact ih a (wr (i + 1))  (show ((-1) : Int) ≤ a from by first | with_reducible assumption | omega | (simp only [wr, wl] at *; omega)) (show (a : Int) ≤ 23 from by first | with_reducible assumption | omega | (simp only [wr, wl] at *; omega)) (show (0 : Int) ≤ (wr (i + 1)) from by first | with_reducible assumption | omega | (simp only [wr, wl] at *; omega)) (show ((wr (i + 1)) : Int) ≤ 24 from by first | with_reducible assumption | omega | (simp only [wr, wl] at *; omega)) (show (I rd 2) = N from by first | omega | (simp only [wr, wl] at *; omega)) (show (wr (i + 1)) ≤ N from by first | with_reducible assumption | omega | (simp only [wr, wl] at *; omega)) (show a < (wr (i + 1)) from by first | with_reducible assumption | omega | (simp only [wr, wl] at *; omega)) (show crF S L v0 (Int.toNat (N - (wr (i + 1)))) (Int.toNat (wr (i + 1))) a = crF S L v0 (Int.toNat N) 0 (-1) from (by
                              have h := cc107
                              have ks := crF_s (S := S) (L := L) (x := v0) (m := Int.toNat (N - (i + 1))) (k := Int.toNat i) (a := a)
                              rw [show Int.toNat (N - i) = Int.toNat (N - (i + 1)) + 1 from by omega] at h
                              rw [show Int.toNat (wr (i + 1)) = Int.toNat i + 1 from by omega, show N - (wr (i + 1)) = N - (i + 1) from by omega]
                              first
                                | (rw [ks.1 (by omega)] at h; exact h)
                                | (rw [ks.2.1 (by omega) (fun q => by have q1 := q.1; have q2 := q.2.1; have q3 := q.2.2; omega), show ((Int.toNat i : Nat) : Int) = i from by omega] at h; exact h))) (show (N - (wr (i + 1))).toNat < mz from by omega)
theorem c_crv11 (hF : FS F) (hR : Rg I) {v0 : Int} {rd : Nat} (hr : RP F rd) {S L : Nat → Int} {N : Int} (hq : RDS I rd S L N) (hv : 0 ≤ v0 ∧ v0 ≤ 999) (hQ : ∀ r : Int, iR r → (r = crF S L v0 (Int.toNat N) 0 (-1)) → Q (some (vi r)) F I) : CallN G (d + 2) kX6_curveAt [vr rd, vi v0] NP F I Q := by
  refine CallN_in (fun hok hA => CallN_out ?_)
  have iv0 : -2147483648 ≤ v0 ∧ v0 < 2147483648 := hok (vi v0) (by simp)
  have hN := hq.2.2.1
  refine Call_wp (lv := [some (vr rd), some (vi v0), none, none]) (by decide) ckX6_curveAt [4] rfl rfl ?_
  have z1 : (I rd 2) = N := hq.1
  have a2 : -2147483648 ≤ (I rd 2) ∧ (I rd 2) < 2147483648 := hA.1 _ _
  refine c_crv11_l hF hR hr hq hv (fun r g3 hv hA' => hQ _ (hv _ rfl) g3) _ (-1) 0  (show ((-1) : Int) ≤ ((-1) : Int) from Int.le_refl _) (show (((-1) : Int) : Int) ≤ 23 from by first | with_reducible assumption | omega | (simp only [wr, wl] at *; omega)) (show (0 : Int) ≤ (0 : Int) from Int.le_refl _) (show ((0 : Int) : Int) ≤ 24 from by first | with_reducible assumption | omega | (simp only [wr, wl] at *; omega)) (show (I rd 2) = N from by first | omega | (simp only [wr, wl] at *; omega)) (show (0 : Int) ≤ N from by first | with_reducible assumption | omega | (simp only [wr, wl] at *; omega)) (show ((-1) : Int) < (0 : Int) from by first | with_reducible assumption | omega | (simp only [wr, wl] at *; omega)) (show crF S L v0 (Int.toNat (N - (0 : Int))) (Int.toNat (0 : Int)) ((-1) : Int) = crF S L v0 (Int.toNat N) 0 (-1) from (by
                              rw [show Int.toNat (N - (0 : Int)) = Int.toNat N from by omega]
                              rfl)) (Nat.lt_succ_self _)
theorem r_crv11_l (hF : FS F) (hR : Rg I) {v0 v1 : Int} (hp : 0 ≤ v0 ∧ v0 ≤ 13) {S L : Nat → Int} {N : Int} (hq : RDM I (Int.toNat v0) S L N) (hv : 0 ≤ v1 ∧ v1 ≤ 999) (hQ : ∀ (r : Int) , (r = crF S L v1 (Int.toNat N) 0 (-1)) → Q (some (vi r)) F I) : ∀ (mz : Nat) (a i : Int) , (((-1) : Int) ≤ a) → ((a : Int) ≤ 23) → ((0 : Int) ≤ i) → ((i : Int) ≤ 24) → (i ≤ N) → (a < i) → (crF S L v1 (Int.toNat (N - i)) (Int.toNat i) a = crF S L v1 (Int.toNat N) 0 (-1)) → (N - i).toNat < mz → GoN G (d + 3) kX12_curveOf NP NP 5 [some (vr 235), some (vi v0), some (vi v1), some (vi a), some (vi i), none, none, none] [] F I Q := by
  intro mz
  induction mz with
  | zero => intro a i _ _ _ _ _ _ _ h; exact absurd h (Nat.not_lt_zero _)
  | succ mz ih =>
    intro a i cc100 cc101 cc102 cc103 cc104 cc105 cc106 hm
    refine GoN_in (fun hok hA => ?_)
    have iiv0 : -2147483648 ≤ v0 ∧ v0 < 2147483648 := hok 1 _ rfl
    have iiv1 : -2147483648 ≤ v1 ∧ v1 < 2147483648 := hok 2 _ rfl
    have iia : -2147483648 ≤ a ∧ a < 2147483648 := hok 3 _ rfl
    have iii : -2147483648 ≤ i ∧ i < 2147483648 := hok 4 _ rfl
    have hN := hq.2.2.1
    have sa := hq.2.2.2.1 (Int.toNat a)
    have si := hq.2.2.2.1 (Int.toNat i)
    refine Go_wp (by decide) ckX12_curveOf [5] ?_
    refine ⟨⟨_, rfl, (by decide)⟩, ?_⟩
    refine r_many11 (v0 := v0) hF hR (by omega) hq (fun vr1 hr2 qr3 => ?_)
    have hr2 : -2147483648 ≤ vr1 ∧ vr1 < 2147483648 := hr2
    refine ⟨fun (c4 : ((vr1 : Int) ≤ i)) => ?_, fun (c4 : (¬ ((vr1 : Int) ≤ i))) => ?_⟩
    ·
      exact ⟨rfl, hQ _ ((by
                              have h := cc106
                              rw [show Int.toNat (N - i) = 0 from by omega] at h
                              exact h))⟩
    ·
      refine ⟨⟨_, rfl, (by decide)⟩, ?_⟩
      refine r_gd11 (v0 := v0) (v1 := i) hF hR (by omega) hq (by omega) (fun vr5 hr6 qr7 => ?_)
      have hr6 : -2147483648 ≤ vr5 ∧ vr5 < 2147483648 := hr6
      refine ⟨fun (c8 : ((vr5 : Int) = 0)) => ?_, fun (c8 : (¬ ((vr5 : Int) = 0))) => ?_⟩
      ·
        have n9 : (wr (i + 1)) = i + 1 := wr_id (show -2147483648 ≤ (i + 1 : Int) ∧ (i + 1 : Int) < 2147483648 from by omega)
        exact ih a (wr (i + 1))  (show ((-1) : Int) ≤ a from by first | with_reducible assumption | omega | (simp only [wr, wl] at *; omega)) (show (a : Int) ≤ 23 from by first | with_reducible assumption | omega | (simp only [wr, wl] at *; omega)) (show (0 : Int) ≤ (wr (i + 1)) from by first | with_reducible assumption | omega | (simp only [wr, wl] at *; omega)) (show ((wr (i + 1)) : Int) ≤ 24 from by first | with_reducible assumption | omega | (simp only [wr, wl] at *; omega)) (show (wr (i + 1)) ≤ N from by first | with_reducible assumption | omega | (simp only [wr, wl] at *; omega)) (show a < (wr (i + 1)) from by first | with_reducible assumption | omega | (simp only [wr, wl] at *; omega)) (show crF S L v1 (Int.toNat (N - (wr (i + 1)))) (Int.toNat (wr (i + 1))) a = crF S L v1 (Int.toNat N) 0 (-1) from (by
                              have h := cc106
                              have ks := crF_s (S := S) (L := L) (x := v1) (m := Int.toNat (N - (i + 1))) (k := Int.toNat i) (a := a)
                              rw [show Int.toNat (N - i) = Int.toNat (N - (i + 1)) + 1 from by omega] at h
                              rw [show Int.toNat (wr (i + 1)) = Int.toNat i + 1 from by omega, show N - (wr (i + 1)) = N - (i + 1) from by omega]
                              first
                                | (rw [ks.1 (by omega)] at h; exact h)
                                | (rw [ks.2.1 (by omega) (fun q => by have q1 := q.1; have q2 := q.2.1; have q3 := q.2.2; omega), show ((Int.toNat i : Nat) : Int) = i from by omega] at h; exact h))) (show (N - (wr (i + 1))).toNat < mz from by omega)
      ·
        refine ⟨fun (c10 : ((a : Int) < 0)) => ?_, fun (c10 : (¬ ((a : Int) < 0))) => ?_⟩
        ·
          have n11 : (wr (i + 1)) = i + 1 := wr_id (show -2147483648 ≤ (i + 1 : Int) ∧ (i + 1 : Int) < 2147483648 from by omega)
          exact ih i (wr (i + 1))  (show ((-1) : Int) ≤ i from by first | with_reducible assumption | omega | (simp only [wr, wl] at *; omega)) (show (i : Int) ≤ 23 from by first | with_reducible assumption | omega | (simp only [wr, wl] at *; omega)) (show (0 : Int) ≤ (wr (i + 1)) from by first | with_reducible assumption | omega | (simp only [wr, wl] at *; omega)) (show ((wr (i + 1)) : Int) ≤ 24 from by first | with_reducible assumption | omega | (simp only [wr, wl] at *; omega)) (show (wr (i + 1)) ≤ N from by first | with_reducible assumption | omega | (simp only [wr, wl] at *; omega)) (show i < (wr (i + 1)) from by first | with_reducible assumption | omega | (simp only [wr, wl] at *; omega)) (show crF S L v1 (Int.toNat (N - (wr (i + 1)))) (Int.toNat (wr (i + 1))) i = crF S L v1 (Int.toNat N) 0 (-1) from (by
                              have h := cc106
                              have ks := crF_s (S := S) (L := L) (x := v1) (m := Int.toNat (N - (i + 1))) (k := Int.toNat i) (a := a)
                              rw [show Int.toNat (N - i) = Int.toNat (N - (i + 1)) + 1 from by omega] at h
                              rw [show Int.toNat (wr (i + 1)) = Int.toNat i + 1 from by omega, show N - (wr (i + 1)) = N - (i + 1) from by omega]
                              first
                                | (rw [ks.1 (by omega)] at h; exact h)
                                | (rw [ks.2.1 (by omega) (fun q => by have q1 := q.1; have q2 := q.2.1; have q3 := q.2.2; omega), show ((Int.toNat i : Nat) : Int) = i from by omega] at h; exact h))) (show (N - (wr (i + 1))).toNat < mz from by omega)
        ·
          refine ⟨⟨_, rfl, (by decide)⟩, ?_⟩
          refine r_st11 (v0 := v0) (v1 := a) hF hR (by omega) hq (by omega) (fun vr12 hr13 qr14 => ?_)
          have hr13 : -2147483648 ≤ vr12 ∧ vr12 < 2147483648 := hr13
          have b15 : (0 : Int) ≤ vr12 ∧ vr12 ≤ 5100000 := by rw [qr14]; exact hq.2.2.2.1 _
          refine ⟨fun (c16 : ((v1 : Int) < vr12)) => ?_, fun (c16 : (¬ ((v1 : Int) < vr12))) => ?_⟩
          ·
            have n17 : (wr (i + 1)) = i + 1 := wr_id (show -2147483648 ≤ (i + 1 : Int) ∧ (i + 1 : Int) < 2147483648 from by omega)
            exact ih i (wr (i + 1))  (show ((-1) : Int) ≤ i from by first | with_reducible assumption | omega | (simp only [wr, wl] at *; omega)) (show (i : Int) ≤ 23 from by first | with_reducible assumption | omega | (simp only [wr, wl] at *; omega)) (show (0 : Int) ≤ (wr (i + 1)) from by first | with_reducible assumption | omega | (simp only [wr, wl] at *; omega)) (show ((wr (i + 1)) : Int) ≤ 24 from by first | with_reducible assumption | omega | (simp only [wr, wl] at *; omega)) (show (wr (i + 1)) ≤ N from by first | with_reducible assumption | omega | (simp only [wr, wl] at *; omega)) (show i < (wr (i + 1)) from by first | with_reducible assumption | omega | (simp only [wr, wl] at *; omega)) (show crF S L v1 (Int.toNat (N - (wr (i + 1)))) (Int.toNat (wr (i + 1))) i = crF S L v1 (Int.toNat N) 0 (-1) from (by
                              have h := cc106
                              have ks := crF_s (S := S) (L := L) (x := v1) (m := Int.toNat (N - (i + 1))) (k := Int.toNat i) (a := a)
                              rw [show Int.toNat (N - i) = Int.toNat (N - (i + 1)) + 1 from by omega] at h
                              rw [show Int.toNat (wr (i + 1)) = Int.toNat i + 1 from by omega, show N - (wr (i + 1)) = N - (i + 1) from by omega]
                              first
                                | (rw [ks.1 (by omega)] at h; exact h)
                                | (rw [ks.2.1 (by omega) (fun q => by have q1 := q.1; have q2 := q.2.1; have q3 := q.2.2; omega), show ((Int.toNat i : Nat) : Int) = i from by omega] at h; exact h))) (show (N - (wr (i + 1))).toNat < mz from by omega)
          ·
            refine ⟨⟨_, rfl, (by decide)⟩, ?_⟩
            refine r_st11 (v0 := v0) (v1 := i) hF hR (by omega) hq (by omega) (fun vr18 hr19 qr20 => ?_)
            have hr19 : -2147483648 ≤ vr18 ∧ vr18 < 2147483648 := hr19
            have b21 : (0 : Int) ≤ vr18 ∧ vr18 ≤ 5100000 := by rw [qr20]; exact hq.2.2.2.1 _
            refine ⟨fun (c22 : ((vr18 : Int) < v1)) => ?_, fun (c22 : (¬ ((vr18 : Int) < v1))) => ?_⟩
            ·
              have n23 : (wr (i + 1)) = i + 1 := wr_id (show -2147483648 ≤ (i + 1 : Int) ∧ (i + 1 : Int) < 2147483648 from by omega)
              exact ih i (wr (i + 1))  (show ((-1) : Int) ≤ i from by first | with_reducible assumption | omega | (simp only [wr, wl] at *; omega)) (show (i : Int) ≤ 23 from by first | with_reducible assumption | omega | (simp only [wr, wl] at *; omega)) (show (0 : Int) ≤ (wr (i + 1)) from by first | with_reducible assumption | omega | (simp only [wr, wl] at *; omega)) (show ((wr (i + 1)) : Int) ≤ 24 from by first | with_reducible assumption | omega | (simp only [wr, wl] at *; omega)) (show (wr (i + 1)) ≤ N from by first | with_reducible assumption | omega | (simp only [wr, wl] at *; omega)) (show i < (wr (i + 1)) from by first | with_reducible assumption | omega | (simp only [wr, wl] at *; omega)) (show crF S L v1 (Int.toNat (N - (wr (i + 1)))) (Int.toNat (wr (i + 1))) i = crF S L v1 (Int.toNat N) 0 (-1) from (by
                              have h := cc106
                              have ks := crF_s (S := S) (L := L) (x := v1) (m := Int.toNat (N - (i + 1))) (k := Int.toNat i) (a := a)
                              rw [show Int.toNat (N - i) = Int.toNat (N - (i + 1)) + 1 from by omega] at h
                              rw [show Int.toNat (wr (i + 1)) = Int.toNat i + 1 from by omega, show N - (wr (i + 1)) = N - (i + 1) from by omega]
                              first
                                | (rw [ks.1 (by omega)] at h; exact h)
                                | (rw [ks.2.1 (by omega) (fun q => by have q1 := q.1; have q2 := q.2.1; have q3 := q.2.2; omega), show ((Int.toNat i : Nat) : Int) = i from by omega] at h; exact h))) (show (N - (wr (i + 1))).toNat < mz from by omega)
            ·
              refine ⟨⟨_, rfl, (by decide)⟩, ?_⟩
              refine r_st11 (v0 := v0) (v1 := i) hF hR (by omega) hq (by omega) (fun vr24 hr25 qr26 => ?_)
              have hr25 : -2147483648 ≤ vr24 ∧ vr24 < 2147483648 := hr25
              have b27 : (0 : Int) ≤ vr24 ∧ vr24 ≤ 5100000 := by rw [qr26]; exact hq.2.2.2.1 _
              refine ⟨⟨_, rfl, (by decide)⟩, ?_⟩
              refine r_st11 (v0 := v0) (v1 := a) hF hR (by omega) hq (by omega) (fun vr28 hr29 qr30 => ?_)
              have hr29 : -2147483648 ≤ vr28 ∧ vr28 < 2147483648 := hr29
              have b31 : (0 : Int) ≤ vr28 ∧ vr28 ≤ 5100000 := by rw [qr30]; exact hq.2.2.2.1 _
              have n32 : (wr (vr24 - vr28)) = vr24 - vr28 := wr_id (show -2147483648 ≤ (vr24 - vr28 : Int) ∧ (vr24 - vr28 : Int) < 2147483648 from by omega)
              refine ⟨fun (c33 : (¬ ((wr (vr24 - vr28)) : Int) = 0)) => ?_, fun (c33 : (((wr (vr24 - vr28)) : Int) = 0)) => ?_⟩
              ·
                refine ⟨⟨_, rfl, (by decide)⟩, ?_⟩
                refine r_ld11 (v0 := v0) (v1 := i) hF hR (by omega) hq (by omega) (fun vr34 hr35 qr36 => ?_)
                have hr35 : -2147483648 ≤ vr34 ∧ vr34 < 2147483648 := hr35
                have b37 : (-200000 : Int) ≤ vr34 ∧ vr34 ≤ 200000 := by rw [qr36]; exact hq.2.2.2.2 _
                refine ⟨⟨_, rfl, (by decide)⟩, ?_⟩
                refine r_ld11 (v0 := v0) (v1 := a) hF hR (by omega) hq (by omega) (fun vr38 hr39 qr40 => ?_)
                have hr39 : -2147483648 ≤ vr38 ∧ vr38 < 2147483648 := hr39
                have b41 : (-200000 : Int) ≤ vr38 ∧ vr38 ≤ 200000 := by rw [qr40]; exact hq.2.2.2.2 _
                refine ⟨⟨_, rfl, (by decide)⟩, ?_⟩
                refine r_st11 (v0 := v0) (v1 := a) hF hR (by omega) hq (by omega) (fun vr42 hr43 qr44 => ?_)
                have hr43 : -2147483648 ≤ vr42 ∧ vr42 < 2147483648 := hr43
                have b45 : (0 : Int) ≤ vr42 ∧ vr42 ≤ 5100000 := by rw [qr44]; exact hq.2.2.2.1 _
                refine ⟨(show ¬ ((wr (vr24 - vr28)) : Int) = 0 from by first | omega | (simp only [wr, wl] at *; omega)), ?_⟩
                refine ⟨⟨_, rfl, (by decide)⟩, ?_⟩
                refine r_ld11 (v0 := v0) (v1 := a) hF hR (by omega) hq (by omega) (fun vr46 hr47 qr48 => ?_)
                have hr47 : -2147483648 ≤ vr46 ∧ vr46 < 2147483648 := hr47
                have b49 : (-200000 : Int) ≤ vr46 ∧ vr46 ≤ 200000 := by rw [qr48]; exact hq.2.2.2.2 _
                have n50 : (wr (vr34 - vr38)) = vr34 - vr38 := wr_id (show -2147483648 ≤ (vr34 - vr38 : Int) ∧ (vr34 - vr38 : Int) < 2147483648 from by omega)
                have n51 : (wr (v1 - vr42)) = v1 - vr42 := wr_id (show -2147483648 ≤ (v1 - vr42 : Int) ∧ (v1 - vr42 : Int) < 2147483648 from by omega)
                have n52 : -2147483648 ≤ (wr (wl (Int.tdiv (wl ((wr (vr34 - vr38)) * (wr (v1 - vr42)))) (wr (vr24 - vr28))))) ∧ (wr (wl (Int.tdiv (wl ((wr (vr34 - vr38)) * (wr (v1 - vr42)))) (wr (vr24 - vr28))))) < 2147483648 := wr_R _
                have n53 : -2147483648 ≤ (wr (vr46 + (wr (wl (Int.tdiv (wl ((wr (vr34 - vr38)) * (wr (v1 - vr42)))) (wr (vr24 - vr28))))))) ∧ (wr (vr46 + (wr (wl (Int.tdiv (wl ((wr (vr34 - vr38)) * (wr (v1 - vr42)))) (wr (vr24 - vr28))))))) < 2147483648 := wr_R _
                exact ⟨rfl, hQ _ (show (wr (vr46 + (wr (wl (Int.tdiv (wl ((wr (vr34 - vr38)) * (wr (v1 - vr42)))) (wr (vr24 - vr28))))))) = crF S L v1 (Int.toNat N) 0 (-1) from (by
                              have h := cc106
                              have ks := crF_s (S := S) (L := L) (x := v1) (m := Int.toNat (N - (i + 1))) (k := Int.toNat i) (a := a)
                              rw [show Int.toNat (N - i) = Int.toNat (N - (i + 1)) + 1 from by omega] at h
                              rw [ks.2.2 (by omega) ⟨by omega, by omega, by omega⟩] at h
                              rw [← h]
                              by_cases q : S (Int.toNat i) - S (Int.toNat a) = 0
                              · rw [sw_0 q]
                                first
                                  | omega
                                  | exact absurd q (by omega)
                              · first
                                  | exact absurd (by omega) q
                                  | exact sw_of (by omega) (by omega) (by omega) (by omega) (hq.2.2.2.2 _) (hq.2.2.2.2 _) (by omega) (by omega) q))⟩
              ·
                refine ⟨⟨_, rfl, (by decide)⟩, ?_⟩
                refine r_ld11 (v0 := v0) (v1 := a) hF hR (by omega) hq (by omega) (fun vr54 hr55 qr56 => ?_)
                have hr55 : -2147483648 ≤ vr54 ∧ vr54 < 2147483648 := hr55
                have b57 : (-200000 : Int) ≤ vr54 ∧ vr54 ≤ 200000 := by rw [qr56]; exact hq.2.2.2.2 _
                have n58 : (wr (vr54 + 0)) = vr54 + 0 := wr_id (show -2147483648 ≤ (vr54 + 0 : Int) ∧ (vr54 + 0 : Int) < 2147483648 from by omega)
                exact ⟨rfl, hQ _ (show (wr (vr54 + 0)) = crF S L v1 (Int.toNat N) 0 (-1) from (by
                              have h := cc106
                              have ks := crF_s (S := S) (L := L) (x := v1) (m := Int.toNat (N - (i + 1))) (k := Int.toNat i) (a := a)
                              rw [show Int.toNat (N - i) = Int.toNat (N - (i + 1)) + 1 from by omega] at h
                              rw [ks.2.2 (by omega) ⟨by omega, by omega, by omega⟩] at h
                              rw [← h]
                              by_cases q : S (Int.toNat i) - S (Int.toNat a) = 0
                              · rw [sw_0 q]
                                first
                                  | omega
                                  | exact absurd q (by omega)
                              · first
                                  | exact absurd (by omega) q
                                  | exact sw_of (by omega) (by omega) (by omega) (by omega) (hq.2.2.2.2 _) (hq.2.2.2.2 _) (by omega) (by omega) q))⟩
theorem r_crv11 (hF : FS F) (hR : Rg I) {v0 v1 : Int} (hp : 0 ≤ v0 ∧ v0 ≤ 13) {S L : Nat → Int} {N : Int} (hq : RDM I (Int.toNat v0) S L N) (hv : 0 ≤ v1 ∧ v1 ≤ 999) (hQ : ∀ r : Int, iR r → (r = crF S L v1 (Int.toNat N) 0 (-1)) → Q (some (vi r)) F I) : CallN G (d + 3) kX12_curveOf [vr 235, vi v0, vi v1] NP F I Q := by
  refine CallN_in (fun hok hA => CallN_out ?_)
  have iv0 : -2147483648 ≤ v0 ∧ v0 < 2147483648 := hok (vi v0) (by simp)
  have iv1 : -2147483648 ≤ v1 ∧ v1 < 2147483648 := hok (vi v1) (by simp)
  have hN := hq.2.2.1
  refine Call_wp (lv := [some (vr 235), some (vi v0), some (vi v1), none, none, none, none, none]) (by decide) ckX12_curveOf [5] rfl rfl ?_
  refine r_crv11_l hF hR hp hq hv (fun r g3 hv hA' => hQ _ (hv _ rfl) g3) _ (-1) 0  (show ((-1) : Int) ≤ ((-1) : Int) from Int.le_refl _) (show (((-1) : Int) : Int) ≤ 23 from by first | with_reducible assumption | omega | (simp only [wr, wl] at *; omega)) (show (0 : Int) ≤ (0 : Int) from Int.le_refl _) (show ((0 : Int) : Int) ≤ 24 from by first | with_reducible assumption | omega | (simp only [wr, wl] at *; omega)) (show (0 : Int) ≤ N from by first | with_reducible assumption | omega | (simp only [wr, wl] at *; omega)) (show ((-1) : Int) < (0 : Int) from by first | with_reducible assumption | omega | (simp only [wr, wl] at *; omega)) (show crF S L v1 (Int.toNat (N - (0 : Int))) (Int.toNat (0 : Int)) ((-1) : Int) = crF S L v1 (Int.toNat N) 0 (-1) from (by
                              rw [show Int.toNat (N - (0 : Int)) = Int.toNat N from by omega]
                              rfl)) (Nat.lt_succ_self _)
theorem c_ordc11_l (hF : FS F) (hR : Rg I) {v0 v1 : Int} (hc : I 1 1 ≤ 14) {SF LF : Nat → Nat → Int} {NF : Nat → Int} (hq : ∀ p : Nat, (p : Int) < I 1 1 → RDS I ((1 + 19 + 5 * p) + 2) (SF p) (LF p) (NF p)) {FN : Nat → Int} (hf : ∀ i : Nat, (i : Int) < I 1 1 → FN i = if I (1 + 19 + 5 * i) 1 = v0 then crF (SF i) (LF i) v1 (Int.toNat (NF i)) 0 (-1) else -1) (hn : ∀ i : Nat, ¬ (i : Int) < I 1 1 → FN i = -1) (hv : 0 ≤ v1 ∧ v1 ≤ 999) (hQ : ∀ (I' : pI), Rg I' → (∀ k j, ¬ (223 ≤ k ∧ k ≤ 225) → I' k j = I k j) → (ORC I' (OFs FN 14).1 (OFs FN 14).2.1 (OFs FN 14).2.2) → Q none F I') : ∀ (mz : Nat) (i : Int) (J : pI), Rg J → (∀ k j, ¬ (223 ≤ k ∧ k ≤ 225) → J k j = I k j) → ((0 : Int) ≤ i) → ((i : Int) ≤ 14) → (ORC J (OFs FN (Int.toNat i)).1 (OFs FN (Int.toNat i)).2.1 (OFs FN (Int.toNat i)).2.2) → (14 - i).toNat < mz → GoN G (d + 3) kX11_orderCurves NP NP 9 [some (vr 0), some (vi v0), some (vi v1), some (vi i), none, none] [] F J Q := by
  intro mz
  induction mz with
  | zero => intro i J hJ hV _ _ _ h; exact absurd h (Nat.not_lt_zero _)
  | succ mz ih =>
    intro i J hJ hV cc100 cc101 cc102 hm
    refine GoN_in (fun hok hA => ?_)
    have iiv0 : -2147483648 ≤ v0 ∧ v0 < 2147483648 := hok 1 _ rfl
    have iiv1 : -2147483648 ≤ v1 ∧ v1 < 2147483648 := hok 2 _ rfl
    have iii : -2147483648 ≤ i ∧ i < 2147483648 := hok 3 _ rfl
    refine Go_wp (by decide) ckX11_orderCurves [9] ?_
    refine ⟨fun (c1 : ((14 : Int) ≤ i)) => ?_, fun (c1 : (¬ ((14 : Int) ≤ i))) => ?_⟩
    ·
      exact ⟨rfl, hQ _ hJ (fun ka ja hk => (hV ka ja (by omega))) ((by
                              have h := cc102
                              rw [show Int.toNat i = 14 from by omega] at h
                              exact h))⟩
    ·
      refine ⟨_, rfl, (by decide), ?_⟩
      refine fun w0 hw0 => ?_; obtain rfl : w0 = some 1 := hw0.symm.trans (FS.g hF rfl)
      refine ⟨⟨_, rfl, (by decide)⟩, ?_⟩
      have u2 : (J 1 1) = (I 1 1) := hV _ _ (by first | decide | omega)
      have a3 : -2147483648 ≤ (J 1 1) ∧ (J 1 1) < 2147483648 := hA.1 _ _
      refine s_X8_pieceAt hF (S := 1) (Or.inl rfl) (fun (w4 : (0 ≤ i ∧ i < (J 1 1) ∧ i < 14)) => ?_) (fun (w4 : ¬ (0 ≤ i ∧ i < (J 1 1) ∧ i < 14)) => ?_)
      ·
        have hp5 : PP F (1 + 19 + 5 * Int.toNat i) := PP_of hF (by omega)
        refine ⟨_, hp5.1.1, (by have := hp5.2; show _ < 254; omega), ?_⟩
        have z6 : (J (1 + 19 + 5 * Int.toNat i) 1) = I (1 + 19 + 5 * Int.toNat i) 1 := hV (1 + 19 + 5 * Int.toNat i) 1 (by omega)
        have a7 : -2147483648 ≤ (J (1 + 19 + 5 * Int.toNat i) 1) ∧ (J (1 + 19 + 5 * Int.toNat i) 1) < 2147483648 := hA.1 _ _
        refine ⟨fun (c8 : (((J (1 + 19 + 5 * Int.toNat i) 1) : Int) = v0)) => ?_, fun (c8 : (¬ (((J (1 + 19 + 5 * Int.toNat i) 1) : Int) = v0))) => ?_⟩
        ·
          refine ⟨_, hp5.1.1, (by have := hp5.2; show _ < 254; omega), ?_⟩
          refine fun w0 hw0 => ?_; obtain rfl : w0 = some ((1 + 19 + 5 * Int.toNat i) + 2) := hw0.symm.trans hp5.1.2.2.2.2.1
          refine ⟨⟨_, hp5.r.1.1, (by have := hp5.r.2; show _ < 254; omega)⟩, ?_⟩
          refine c_crv11 (v0 := v1) hF hJ hp5.r (RDS_f (hq (Int.toNat i) (by omega)) (fun ka ja hk => (hV ka ja (by omega)))) hv (fun vr9 hr10 qr11 => ?_)
          have hr10 : -2147483648 ≤ vr9 ∧ vr9 < 2147483648 := hr10
          refine ⟨fun (c12 : ((vr9 : Int) < 0)) => ?_, fun (c12 : (¬ ((vr9 : Int) < 0))) => ?_⟩
          ·
            refine GoN_lv (lv' := [some (vr 0), some (vi v0), some (vi v1), some (vi (wr (i + 1))), none, none]) (LvLe.k (LvLe.k (LvLe.k (LvLe.k (LvLe.d (LvLe.d LvLe.n)))))) ?_
            have n13 : (wr (i + 1)) = i + 1 := wr_id (show -2147483648 ≤ (i + 1 : Int) ∧ (i + 1 : Int) < 2147483648 from by omega)
            exact ih (wr (i + 1)) J hJ (fun ka ja hk => (hV ka ja (by omega))) (show (0 : Int) ≤ (wr (i + 1)) from by first | with_reducible assumption | omega | (simp only [wr, wl] at *; omega)) (show ((wr (i + 1)) : Int) ≤ 14 from by first | with_reducible assumption | omega | (simp only [wr, wl] at *; omega)) (show ORC J (OFs FN (Int.toNat (wr (i + 1)))).1 (OFs FN (Int.toNat (wr (i + 1)))).2.1 (OFs FN (Int.toNat (wr (i + 1)))).2.2 from (by
                              have f : ¬ 0 ≤ FN (Int.toNat i) := by
                                first
                                  | (rw [hn (Int.toNat i) (by omega)]; omega)
                                  | (rw [hf (Int.toNat i) (by omega), if_neg (by omega)]; omega)
                                  | (rw [hf (Int.toNat i) (by omega), if_pos (by omega), ← qr11]; omega)
                              rw [show Int.toNat (wr (i + 1)) = Int.toNat i + 1 from by omega, OFs_n (fn := FN) (i := Int.toNat i) f]
                              exact cc102)) (show (14 - (wr (i + 1))).toNat < mz from by omega)
          ·
            refine ⟨_, rfl, (by decide), ?_⟩
            refine fun w0 hw0 => ?_; obtain rfl : w0 = some 223 := hw0.symm.trans (FS.g hF rfl)
            refine ⟨⟨_, rfl, (by decide)⟩, ?_⟩
            refine c_ins11 (v0 := vr9) (v1 := i) hF hJ cc102 (by have b := OFs_b (fn := FN) (Int.toNat i); omega) (fun I14 hR15 hA16 hW17 qr18 => ?_)
            refine GoN_lv (lv' := [some (vr 0), some (vi v0), some (vi v1), some (vi (wr (i + 1))), none, none]) (LvLe.k (LvLe.k (LvLe.k (LvLe.k (LvLe.d (LvLe.d LvLe.n)))))) ?_
            have n19 : (wr (i + 1)) = i + 1 := wr_id (show -2147483648 ≤ (i + 1 : Int) ∧ (i + 1 : Int) < 2147483648 from by omega)
            exact ih (wr (i + 1)) I14 hR15 (fun ka ja hk => ((hW17 ka ja (by omega))).trans ((hV ka ja (by omega)))) (show (0 : Int) ≤ (wr (i + 1)) from by first | with_reducible assumption | omega | (simp only [wr, wl] at *; omega)) (show ((wr (i + 1)) : Int) ≤ 14 from by first | with_reducible assumption | omega | (simp only [wr, wl] at *; omega)) (show ORC I14 (OFs FN (Int.toNat (wr (i + 1)))).1 (OFs FN (Int.toNat (wr (i + 1)))).2.1 (OFs FN (Int.toNat (wr (i + 1)))).2.2 from (by
                              have f : FN (Int.toNat i) = vr9 := (hf (Int.toNat i) (by omega)).trans (by rw [if_pos (by omega)]; exact qr11.symm)
                              rw [show Int.toNat (wr (i + 1)) = Int.toNat i + 1 from by omega, OFs_y (fn := FN) (i := Int.toNat i) (by omega), f, show ((Int.toNat i : Nat) : Int) = i from by omega]
                              exact qr18)) (show (14 - (wr (i + 1))).toNat < mz from by omega)
        ·
          refine ⟨fun _ => ?_, fun c => absurd (show (((-1) : Int) < 0) from by decide) c⟩
          refine GoN_lv (lv' := [some (vr 0), some (vi v0), some (vi v1), some (vi (wr (i + 1))), none, none]) (LvLe.k (LvLe.k (LvLe.k (LvLe.k (LvLe.d (LvLe.d LvLe.n)))))) ?_
          have n20 : (wr (i + 1)) = i + 1 := wr_id (show -2147483648 ≤ (i + 1 : Int) ∧ (i + 1 : Int) < 2147483648 from by omega)
          exact ih (wr (i + 1)) J hJ (fun ka ja hk => (hV ka ja (by omega))) (show (0 : Int) ≤ (wr (i + 1)) from by first | with_reducible assumption | omega | (simp only [wr, wl] at *; omega)) (show ((wr (i + 1)) : Int) ≤ 14 from by first | with_reducible assumption | omega | (simp only [wr, wl] at *; omega)) (show ORC J (OFs FN (Int.toNat (wr (i + 1)))).1 (OFs FN (Int.toNat (wr (i + 1)))).2.1 (OFs FN (Int.toNat (wr (i + 1)))).2.2 from (by
                              have f : ¬ 0 ≤ FN (Int.toNat i) := by
                                first
                                  | (rw [hn (Int.toNat i) (by omega)]; omega)
                                  | (rw [hf (Int.toNat i) (by omega), if_neg (by omega)]; omega)
                              rw [show Int.toNat (wr (i + 1)) = Int.toNat i + 1 from by omega, OFs_n (fn := FN) (i := Int.toNat i) f]
                              exact cc102)) (show (14 - (wr (i + 1))).toNat < mz from by omega)
      ·
        refine ⟨fun _ => ?_, fun c => absurd (show (((-1) : Int) < 0) from by decide) c⟩
        refine GoN_lv (lv' := [some (vr 0), some (vi v0), some (vi v1), some (vi (wr (i + 1))), none, none]) (LvLe.k (LvLe.k (LvLe.k (LvLe.k (LvLe.d (LvLe.d LvLe.n)))))) ?_
        have n21 : (wr (i + 1)) = i + 1 := wr_id (show -2147483648 ≤ (i + 1 : Int) ∧ (i + 1 : Int) < 2147483648 from by omega)
        exact ih (wr (i + 1)) J hJ (fun ka ja hk => (hV ka ja (by omega))) (show (0 : Int) ≤ (wr (i + 1)) from by first | with_reducible assumption | omega | (simp only [wr, wl] at *; omega)) (show ((wr (i + 1)) : Int) ≤ 14 from by first | with_reducible assumption | omega | (simp only [wr, wl] at *; omega)) (show ORC J (OFs FN (Int.toNat (wr (i + 1)))).1 (OFs FN (Int.toNat (wr (i + 1)))).2.1 (OFs FN (Int.toNat (wr (i + 1)))).2.2 from (by
                              have f : ¬ 0 ≤ FN (Int.toNat i) := by
                                first
                                  | (rw [hn (Int.toNat i) (by omega)]; omega)
                                  | (rw [hf (Int.toNat i) (by omega), if_neg (by omega)]; omega)
                              rw [show Int.toNat (wr (i + 1)) = Int.toNat i + 1 from by omega, OFs_n (fn := FN) (i := Int.toNat i) f]
                              exact cc102)) (show (14 - (wr (i + 1))).toNat < mz from by omega)
theorem c_ordc11 (hF : FS F) (hR : Rg I) {v0 v1 : Int} (hc : I 1 1 ≤ 14) {SF LF : Nat → Nat → Int} {NF : Nat → Int} (hq : ∀ p : Nat, (p : Int) < I 1 1 → RDS I ((1 + 19 + 5 * p) + 2) (SF p) (LF p) (NF p)) {FN : Nat → Int} (hf : ∀ i : Nat, (i : Int) < I 1 1 → FN i = if I (1 + 19 + 5 * i) 1 = v0 then crF (SF i) (LF i) v1 (Int.toNat (NF i)) 0 (-1) else -1) (hn : ∀ i : Nat, ¬ (i : Int) < I 1 1 → FN i = -1) (hv : 0 ≤ v1 ∧ v1 ≤ 999) (hQ : ∀ (I' : pI), Rg I' → AR I' → (∀ k j, ¬ (223 ≤ k ∧ k ≤ 225) → I' k j = I k j) → (ORC I' (OFs FN 14).1 (OFs FN 14).2.1 (OFs FN 14).2.2) → Q none F I') : CallN G (d + 3) kX11_orderCurves [vr 0, vi v0, vi v1] NP F I Q := by
  refine CallN_in (fun hok hA => CallN_out ?_)
  have iv0 : -2147483648 ≤ v0 ∧ v0 < 2147483648 := hok (vi v0) (by simp)
  have iv1 : -2147483648 ≤ v1 ∧ v1 < 2147483648 := hok (vi v1) (by simp)
  refine Call_wp (lv := [some (vr 0), some (vi v0), some (vi v1), none, none, none]) (by decide) ckX11_orderCurves [9] rfl rfl ?_
  refine ⟨_, rfl, (by decide), ?_⟩
  refine fun w0 hw0 => ?_; obtain rfl : w0 = some 223 := hw0.symm.trans (FS.g hF rfl)
  refine ⟨⟨_, rfl, (by decide)⟩, ?_⟩
  refine Call_wp (lv := [some (vr 223)]) (by decide) ckX3_clear [] rfl rfl ?_
  refine ⟨_, rfl, (by decide), ?_⟩
  refine ⟨rfl, ?_⟩
  refine c_ordc11_l hF hR hc hq hf hn hv (fun I' g1 g2 g3 hv hA' => hQ _ g1 hA' g2 g3) _ 0 (uI I 223 2 0) (Rg.u hR (Pr_f rfl)) (fun ka ja hk => (uI_o (show ¬ (ka = 223 ∧ ja = 2) from by first | (intro e; obtain ⟨rfl, rfl⟩ := e; exact hk (by decide)) | omega))) (show (0 : Int) ≤ (0 : Int) from Int.le_refl _) (show ((0 : Int) : Int) ≤ 14 from by first | with_reducible assumption | omega | (simp only [wr, wl] at *; omega)) (show ORC (uI I 223 2 0) (OFs FN (Int.toNat (0 : Int))).1 (OFs FN (Int.toNat (0 : Int))).2.1 (OFs FN (Int.toNat (0 : Int))).2.2 from ORC_0 uJ_eq) (Nat.lt_succ_self _)
theorem c_curve11 (hF : FS F) (hR : Rg I) {v0 v1 v2 : Int} (hc : I 1 1 ≤ 14) {SF LF : Nat → Nat → Int} {NF : Nat → Int} (hq : ∀ p : Nat, (p : Int) < I 1 1 → RDS I ((1 + 19 + 5 * p) + 2) (SF p) (LF p) (NF p)) {FN : Nat → Int} (hf : ∀ i : Nat, (i : Int) < I 1 1 → FN i = if I (1 + 19 + 5 * i) 1 = v0 then crF (SF i) (LF i) v1 (Int.toNat (NF i)) 0 (-1) else -1) (hn : ∀ i : Nat, ¬ (i : Int) < I 1 1 → FN i = -1) (hb : 0 ≤ v1 ∧ v1 ≤ 999 → ∀ i, FN i ≤ 2000000000) (hQ : ∀ (r : Int) (I' : pI), Rg I' → AR I' → iR r → (∀ k j, ¬ (k = 203 ∨ (223 ≤ k ∧ k < 226)) → I' k j = I k j) → ((¬ ((0 ≤ v0 ∧ v0 ≤ 3) ∧ (0 ≤ v1 ∧ v1 ≤ 999) ∧ (0 ≤ v2 ∧ v2 ≤ 3)) → r = -1000001) ∧ (((0 ≤ v0 ∧ v0 ≤ 3) ∧ (0 ≤ v1 ∧ v1 ≤ 999) ∧ (0 ≤ v2 ∧ v2 ≤ 3)) → (v2 = 3 → r = ((OFs FN 14).2.2 : Int)) ∧ (¬ v2 = 3 → ((OFs FN 14).2.2 = 0 → r = -1000002) ∧ (¬ (OFs FN 14).2.2 = 0 → (v2 = 0 → r = (OFs FN 14).1 0) ∧ (v2 = 1 → r = (OFs FN 14).1 (((OFs FN 14).2.2 - 1) / 2)) ∧ (v2 = 2 → r = (OFs FN 14).1 ((OFs FN 14).2.2 - 1)))))) → Q (some (vi r)) F I') : CallN G (d + 4) kX11_curve [vr 0, vi v0, vi v1, vi v2] NP F I Q := by
  refine CallN_in (fun hok hA => CallN_out ?_)
  have iv0 : -2147483648 ≤ v0 ∧ v0 < 2147483648 := hok (vi v0) (by simp)
  have iv1 : -2147483648 ≤ v1 ∧ v1 < 2147483648 := hok (vi v1) (by simp)
  have iv2 : -2147483648 ≤ v2 ∧ v2 < 2147483648 := hok (vi v2) (by simp)
  refine Call_wp (lv := [some (vr 0), some (vi v0), some (vi v1), some (vi v2), none]) (by decide) ckX11_curve [] rfl rfl ?_
  refine s_X11_isLot (fun (w1 : ((0 : Int) ≤ v0 ∧ (v0 : Int) ≤ 3)) => ?_) (fun (w1 : ¬ ((0 : Int) ≤ v0 ∧ (v0 : Int) ≤ 3)) => ?_)
  ·
    refine ⟨fun c => absurd c (show (¬ ((1 : Int) = 0)) from by decide), fun _ => ?_⟩
    refine s_X11_isStretch (fun (w2 : ((0 : Int) ≤ v1 ∧ (v1 : Int) ≤ 999)) => ?_) (fun (w2 : ¬ ((0 : Int) ≤ v1 ∧ (v1 : Int) ≤ 999)) => ?_)
    ·
      refine ⟨fun c => absurd c (show (¬ ((1 : Int) = 0)) from by decide), fun _ => ?_⟩
      refine s_X11_within (fun (w3 : ((0 : Int) ≤ v2 ∧ (v2 : Int) ≤ 3)) => ?_) (fun (w3 : ¬ ((0 : Int) ≤ v2 ∧ (v2 : Int) ≤ 3)) => ?_)
      ·
        refine ⟨fun _ => ?_, fun c => absurd c (show (¬ (1 : Int) = 0) from by decide)⟩
        refine ⟨⟨_, rfl, (by decide)⟩, ?_⟩
        refine c_ordc11 (v0 := v0) (v1 := v1) hF hR hc hq hf hn (by omega) (fun I4 hR5 hA6 hW7 qr8 => ?_)
        refine ⟨fun (c9 : (¬ (v2 : Int) = 3)) => ?_, fun (c9 : ((v2 : Int) = 3)) => ?_⟩
        ·
          refine ⟨_, rfl, (by decide), ?_⟩
          refine fun w0 hw0 => ?_; obtain rfl : w0 = some 223 := hw0.symm.trans (FS.g hF rfl)
          refine ⟨_, rfl, (by decide), ?_⟩
          have z10 : (I4 223 2) = ((OFs FN 14).2.2 : Int) := (qr8).1
          have z11 := (qr8).2.1
          have a12 : -2147483648 ≤ (I4 223 2) ∧ (I4 223 2) < 2147483648 := hA6.1 _ _
          refine ⟨fun (c13 : (¬ ((I4 223 2) : Int) = 0)) => ?_, fun (c13 : (((I4 223 2) : Int) = 0)) => ?_⟩
          ·
            refine ⟨_, rfl, (by decide), ?_⟩
            refine fun w0 hw0 => ?_; obtain rfl : w0 = some 223 := hw0.symm.trans (FS.g hF rfl)
            refine ⟨_, rfl, (by decide), ?_⟩
            refine ⟨_, rfl, (by decide), ?_⟩
            refine fun w0 hw0 => ?_; obtain rfl : w0 = some 223 := hw0.symm.trans (FS.g hF rfl)
            refine ⟨(by decide), ?_⟩
            refine ⟨⟨_, rfl, (by decide)⟩, ?_⟩
            have n14 : (wr ((I4 223 2) - 1)) = (I4 223 2) - 1 := wr_id (show -2147483648 ≤ ((I4 223 2) - 1 : Int) ∧ ((I4 223 2) - 1 : Int) < 2147483648 from by omega)
            have p15 := wr_w (w := v2) (l := (wr ((I4 223 2) - 1))) (by omega)
            have n16 : (Int.tdiv (wr (v2 * (wr ((I4 223 2) - 1)))) 2) = ((wr (v2 * (wr ((I4 223 2) - 1)))) : Int) / 2 := Int.tdiv_eq_ediv_of_nonneg (by omega)
            have n17 : (wr (Int.tdiv (wr (v2 * (wr ((I4 223 2) - 1)))) 2)) = (Int.tdiv (wr (v2 * (wr ((I4 223 2) - 1)))) 2) := wr_id (show -2147483648 ≤ ((Int.tdiv (wr (v2 * (wr ((I4 223 2) - 1)))) 2) : Int) ∧ ((Int.tdiv (wr (v2 * (wr ((I4 223 2) - 1)))) 2) : Int) < 2147483648 from by omega)
            refine c_val11 (v0 := (wr (Int.tdiv (wr (v2 * (wr ((I4 223 2) - 1)))) 2))) hF hR5 qr8 (RV_14 (hb (by omega))) (by omega) (fun vr18 hr19 qr20 => ?_)
            have hr19 : -2147483648 ≤ vr18 ∧ vr18 < 2147483648 := hr19
            exact ⟨rfl, fun hv hA' => hQ _ _ hR5 hA' (hv _ rfl) (fun ka ja hk => (hW7 ka ja (by omega))) (show (¬ ((0 ≤ v0 ∧ v0 ≤ 3) ∧ (0 ≤ v1 ∧ v1 ≤ 999) ∧ (0 ≤ v2 ∧ v2 ≤ 3)) → vr18 = -1000001) ∧ (((0 ≤ v0 ∧ v0 ≤ 3) ∧ (0 ≤ v1 ∧ v1 ≤ 999) ∧ (0 ≤ v2 ∧ v2 ≤ 3)) → (v2 = 3 → vr18 = ((OFs FN 14).2.2 : Int)) ∧ (¬ v2 = 3 → ((OFs FN 14).2.2 = 0 → vr18 = -1000002) ∧ (¬ (OFs FN 14).2.2 = 0 → (v2 = 0 → vr18 = (OFs FN 14).1 0) ∧ (v2 = 1 → vr18 = (OFs FN 14).1 (((OFs FN 14).2.2 - 1) / 2)) ∧ (v2 = 2 → vr18 = (OFs FN 14).1 ((OFs FN 14).2.2 - 1))))) from by
                              refine ⟨fun z => ?_, fun z => ⟨fun b => ?_, fun b => ⟨fun c => ?_, fun c => ⟨fun e => ?_, fun e => ?_, fun e => ?_⟩⟩⟩⟩
                              · exfalso; omega
                              · exfalso; omega
                              · exfalso; omega
                              · first
                                | (exfalso; omega)
                                | (have q : Int.toNat (wr (Int.tdiv (wr (v2 * (wr ((I4 223 2) - 1)))) 2)) = 0 := by omega
                                   rw [← q]; exact (qr20).1)
                              · first
                                | (exfalso; omega)
                                | (have q : Int.toNat (wr (Int.tdiv (wr (v2 * (wr ((I4 223 2) - 1)))) 2)) = ((OFs FN 14).2.2 - 1) / 2 := by omega
                                   rw [← q]; exact (qr20).1)
                              · first
                                | (exfalso; omega)
                                | (have q : Int.toNat (wr (Int.tdiv (wr (v2 * (wr ((I4 223 2) - 1)))) 2)) = (OFs FN 14).2.2 - 1 := by omega
                                   rw [← q]; exact (qr20).1)
)⟩
          ·
            refine ⟨⟨_, rfl, (by decide)⟩, ?_⟩
            refine s_X11_refuse hF (e := 2) (by decide) ?_
            have u21 : (I4 203 2) = (I 203 2) := hW7 _ _ (by first | decide | omega)
            have a22 : -2147483648 ≤ (I 203 2) ∧ (I 203 2) < 2147483648 := hA.1 _ _
            have a23 : -2147483648 ≤ (I4 203 2) ∧ (I4 203 2) < 2147483648 := hA6.1 _ _
            exact ⟨rfl, fun hv hA' => hQ _ _ (Rg.u hR5 (Pr_f rfl)) hA' (hv _ rfl) (fun ka ja hk => ((uI_o (show ¬ (ka = 203 ∧ ja = 2) from by first | (intro e; obtain ⟨rfl, rfl⟩ := e; exact hk (by decide)) | omega))).trans ((hW7 ka ja (by omega)))) (show (¬ ((0 ≤ v0 ∧ v0 ≤ 3) ∧ (0 ≤ v1 ∧ v1 ≤ 999) ∧ (0 ≤ v2 ∧ v2 ≤ 3)) → (-1000002) = -1000001) ∧ (((0 ≤ v0 ∧ v0 ≤ 3) ∧ (0 ≤ v1 ∧ v1 ≤ 999) ∧ (0 ≤ v2 ∧ v2 ≤ 3)) → (v2 = 3 → (-1000002) = ((OFs FN 14).2.2 : Int)) ∧ (¬ v2 = 3 → ((OFs FN 14).2.2 = 0 → (-1000002) = -1000002) ∧ (¬ (OFs FN 14).2.2 = 0 → (v2 = 0 → (-1000002) = (OFs FN 14).1 0) ∧ (v2 = 1 → (-1000002) = (OFs FN 14).1 (((OFs FN 14).2.2 - 1) / 2)) ∧ (v2 = 2 → (-1000002) = (OFs FN 14).1 ((OFs FN 14).2.2 - 1))))) from by
                              refine ⟨fun z => ?_, fun z => ⟨fun b => ?_, fun b => ⟨fun c => ?_, fun c => ⟨fun e => ?_, fun e => ?_, fun e => ?_⟩⟩⟩⟩
                              all_goals first | rfl | omega | (exfalso; omega))⟩
        ·
          refine ⟨_, rfl, (by decide), ?_⟩
          refine fun w0 hw0 => ?_; obtain rfl : w0 = some 223 := hw0.symm.trans (FS.g hF rfl)
          refine ⟨_, rfl, (by decide), ?_⟩
          have z24 : (I4 223 2) = ((OFs FN 14).2.2 : Int) := (qr8).1
          have z25 := (qr8).2.1
          have a26 : -2147483648 ≤ (I4 223 2) ∧ (I4 223 2) < 2147483648 := hA6.1 _ _
          exact ⟨rfl, fun hv hA' => hQ _ _ hR5 hA' (hv _ rfl) (fun ka ja hk => (hW7 ka ja (by omega))) (show (¬ ((0 ≤ v0 ∧ v0 ≤ 3) ∧ (0 ≤ v1 ∧ v1 ≤ 999) ∧ (0 ≤ v2 ∧ v2 ≤ 3)) → (I4 223 2) = -1000001) ∧ (((0 ≤ v0 ∧ v0 ≤ 3) ∧ (0 ≤ v1 ∧ v1 ≤ 999) ∧ (0 ≤ v2 ∧ v2 ≤ 3)) → (v2 = 3 → (I4 223 2) = ((OFs FN 14).2.2 : Int)) ∧ (¬ v2 = 3 → ((OFs FN 14).2.2 = 0 → (I4 223 2) = -1000002) ∧ (¬ (OFs FN 14).2.2 = 0 → (v2 = 0 → (I4 223 2) = (OFs FN 14).1 0) ∧ (v2 = 1 → (I4 223 2) = (OFs FN 14).1 (((OFs FN 14).2.2 - 1) / 2)) ∧ (v2 = 2 → (I4 223 2) = (OFs FN 14).1 ((OFs FN 14).2.2 - 1))))) from by
                              refine ⟨fun z => ?_, fun z => ⟨fun b => ?_, fun b => ⟨fun c => ?_, fun c => ⟨fun e => ?_, fun e => ?_, fun e => ?_⟩⟩⟩⟩
                              all_goals first | rfl | omega | (exfalso; omega))⟩
      ·
        refine ⟨fun c => absurd (show ((0 : Int) = 0) from by decide) c, fun _ => ?_⟩
        refine ⟨⟨_, rfl, (by decide)⟩, ?_⟩
        refine s_X11_refuse hF (e := 1) (by decide) ?_
        exact ⟨rfl, fun hv hA' => hQ _ _ (Rg.u hR (Pr_f rfl)) hA' (hv _ rfl) (fun ka ja hk => (uI_o (show ¬ (ka = 203 ∧ ja = 1) from by first | (intro e; obtain ⟨rfl, rfl⟩ := e; exact hk (by decide)) | omega))) (show (¬ ((0 ≤ v0 ∧ v0 ≤ 3) ∧ (0 ≤ v1 ∧ v1 ≤ 999) ∧ (0 ≤ v2 ∧ v2 ≤ 3)) → (-1000001) = -1000001) ∧ (((0 ≤ v0 ∧ v0 ≤ 3) ∧ (0 ≤ v1 ∧ v1 ≤ 999) ∧ (0 ≤ v2 ∧ v2 ≤ 3)) → (v2 = 3 → (-1000001) = ((OFs FN 14).2.2 : Int)) ∧ (¬ v2 = 3 → ((OFs FN 14).2.2 = 0 → (-1000001) = -1000002) ∧ (¬ (OFs FN 14).2.2 = 0 → (v2 = 0 → (-1000001) = (OFs FN 14).1 0) ∧ (v2 = 1 → (-1000001) = (OFs FN 14).1 (((OFs FN 14).2.2 - 1) / 2)) ∧ (v2 = 2 → (-1000001) = (OFs FN 14).1 ((OFs FN 14).2.2 - 1))))) from by
                              refine ⟨fun z => ?_, fun z => ⟨fun b => ?_, fun b => ⟨fun c => ?_, fun c => ⟨fun e => ?_, fun e => ?_, fun e => ?_⟩⟩⟩⟩
                              all_goals first | rfl | omega | (exfalso; omega))⟩
    ·
      refine ⟨fun _ => ?_, fun c => absurd (show ((0 : Int) = 0) from by decide) c⟩
      refine ⟨⟨_, rfl, (by decide)⟩, ?_⟩
      refine s_X11_refuse hF (e := 1) (by decide) ?_
      exact ⟨rfl, fun hv hA' => hQ _ _ (Rg.u hR (Pr_f rfl)) hA' (hv _ rfl) (fun ka ja hk => (uI_o (show ¬ (ka = 203 ∧ ja = 1) from by first | (intro e; obtain ⟨rfl, rfl⟩ := e; exact hk (by decide)) | omega))) (show (¬ ((0 ≤ v0 ∧ v0 ≤ 3) ∧ (0 ≤ v1 ∧ v1 ≤ 999) ∧ (0 ≤ v2 ∧ v2 ≤ 3)) → (-1000001) = -1000001) ∧ (((0 ≤ v0 ∧ v0 ≤ 3) ∧ (0 ≤ v1 ∧ v1 ≤ 999) ∧ (0 ≤ v2 ∧ v2 ≤ 3)) → (v2 = 3 → (-1000001) = ((OFs FN 14).2.2 : Int)) ∧ (¬ v2 = 3 → ((OFs FN 14).2.2 = 0 → (-1000001) = -1000002) ∧ (¬ (OFs FN 14).2.2 = 0 → (v2 = 0 → (-1000001) = (OFs FN 14).1 0) ∧ (v2 = 1 → (-1000001) = (OFs FN 14).1 (((OFs FN 14).2.2 - 1) / 2)) ∧ (v2 = 2 → (-1000001) = (OFs FN 14).1 ((OFs FN 14).2.2 - 1))))) from by
                              refine ⟨fun z => ?_, fun z => ⟨fun b => ?_, fun b => ⟨fun c => ?_, fun c => ⟨fun e => ?_, fun e => ?_, fun e => ?_⟩⟩⟩⟩
                              all_goals first | rfl | omega | (exfalso; omega))⟩
  ·
    refine ⟨fun _ => ?_, fun c => absurd (show ((0 : Int) = 0) from by decide) c⟩
    refine ⟨⟨_, rfl, (by decide)⟩, ?_⟩
    refine s_X11_refuse hF (e := 1) (by decide) ?_
    exact ⟨rfl, fun hv hA' => hQ _ _ (Rg.u hR (Pr_f rfl)) hA' (hv _ rfl) (fun ka ja hk => (uI_o (show ¬ (ka = 203 ∧ ja = 1) from by first | (intro e; obtain ⟨rfl, rfl⟩ := e; exact hk (by decide)) | omega))) (show (¬ ((0 ≤ v0 ∧ v0 ≤ 3) ∧ (0 ≤ v1 ∧ v1 ≤ 999) ∧ (0 ≤ v2 ∧ v2 ≤ 3)) → (-1000001) = -1000001) ∧ (((0 ≤ v0 ∧ v0 ≤ 3) ∧ (0 ≤ v1 ∧ v1 ≤ 999) ∧ (0 ≤ v2 ∧ v2 ≤ 3)) → (v2 = 3 → (-1000001) = ((OFs FN 14).2.2 : Int)) ∧ (¬ v2 = 3 → ((OFs FN 14).2.2 = 0 → (-1000001) = -1000002) ∧ (¬ (OFs FN 14).2.2 = 0 → (v2 = 0 → (-1000001) = (OFs FN 14).1 0) ∧ (v2 = 1 → (-1000001) = (OFs FN 14).1 (((OFs FN 14).2.2 - 1) / 2)) ∧ (v2 = 2 → (-1000001) = (OFs FN 14).1 ((OFs FN 14).2.2 - 1))))) from by
                              refine ⟨fun z => ?_, fun z => ⟨fun b => ?_, fun b => ⟨fun c => ?_, fun c => ⟨fun e => ?_, fun e => ?_, fun e => ?_⟩⟩⟩⟩
                              all_goals first | rfl | omega | (exfalso; omega))⟩
theorem r_curve11_l (hF : FS F) (hR : Rg I) {v0 v1 v2 : Int} {SF LF : Nat → Nat → Int} {NF : Nat → Int} (hq : ∀ p : Nat, (p : Int) < I 236 0 → RDM I p (SF p) (LF p) (NF p)) {FN : Nat → Int} (hf : ∀ i : Nat, (i : Int) < I 236 0 → FN i = if I 236 (304 + 66 * i + 1) = v0 then crF (SF i) (LF i) v1 (Int.toNat (NF i)) 0 (-1) else -1) (hn : ∀ i : Nat, ¬ (i : Int) < I 236 0 → FN i = -1) (hb : ∀ i, FN i ≤ 2000000000) (hv : 0 ≤ v1 ∧ v1 ≤ 999) (hok : ((0 ≤ v0 ∧ v0 ≤ 3) ∧ (0 ≤ v1 ∧ v1 ≤ 999) ∧ (0 ≤ v2 ∧ v2 ≤ 3))) (hQ : ∀ (r : Int) (I' : pI), Rg I' → (∀ k j, ¬ (k = 238 ∨ (k = 235 ∧ (j = 27)) ∨ k = 245 ∨ k = 246) → I' k j = I k j) → ((¬ ((0 ≤ v0 ∧ v0 ≤ 3) ∧ (0 ≤ v1 ∧ v1 ≤ 999) ∧ (0 ≤ v2 ∧ v2 ≤ 3)) → r = -1000001) ∧ (((0 ≤ v0 ∧ v0 ≤ 3) ∧ (0 ≤ v1 ∧ v1 ≤ 999) ∧ (0 ≤ v2 ∧ v2 ≤ 3)) → (v2 = 3 → r = ((OFs FN 14).2.2 : Int)) ∧ (¬ v2 = 3 → ((OFs FN 14).2.2 = 0 → r = -1000002) ∧ (¬ (OFs FN 14).2.2 = 0 → (v2 = 0 → r = (OFs FN 14).1 0) ∧ (v2 = 1 → r = (OFs FN 14).1 (((OFs FN 14).2.2 - 1) / 2)) ∧ (v2 = 2 → r = (OFs FN 14).1 ((OFs FN 14).2.2 - 1)))))) → Q (some (vi r)) F I') : ∀ (mz : Nat) (i : Int) (J : pI), Rg J → (∀ k j, ¬ (k = 238 ∨ (k = 235 ∧ (j = 27)) ∨ k = 245 ∨ k = 246) → J k j = I k j) → ((0 : Int) ≤ i) → ((i : Int) ≤ 14) → (i ≤ I 236 0) → (ORM J (OFs FN (Int.toNat i)).1 (OFs FN (Int.toNat i)).2.1 (OFs FN (Int.toNat i)).2.2) → (14 - i).toNat < mz → GoN G (d + 4) kX12_curve NP NP 42 [some (vr 235), some (vi v0), some (vi v1), some (vi v2), some (vi i), none] [] F J Q := by
  intro mz
  induction mz with
  | zero => intro i J hJ hV _ _ _ _ h; exact absurd h (Nat.not_lt_zero _)
  | succ mz ih =>
    intro i J hJ hV cc100 cc101 cc102 cc103 hm
    refine GoN_in (fun hok hA => ?_)
    have iiv0 : -2147483648 ≤ v0 ∧ v0 < 2147483648 := hok 1 _ rfl
    have iiv1 : -2147483648 ≤ v1 ∧ v1 < 2147483648 := hok 2 _ rfl
    have iiv2 : -2147483648 ≤ v2 ∧ v2 < 2147483648 := hok 3 _ rfl
    have iii : -2147483648 ≤ i ∧ i < 2147483648 := hok 4 _ rfl
    have r1 : 0 ≤ (I 236 0) ∧ (I 236 0) ≤ 14 := Rg.n0 hR
    have u2 : (J 236 0) = (I 236 0) := hV _ _ (by first | decide | omega)
    have a3 : -2147483648 ≤ (J 236 0) ∧ (J 236 0) < 2147483648 := hA.1 _ _
    have z4 : (J 236 0) = I 236 0 := hV 236 0 (by first | decide | omega)
    have r5 : 0 ≤ (J 236 0) ∧ (J 236 0) ≤ 14 := Rg.n0 hJ
    refine Go_wp (by decide) ckX12_curve [42] ?_
    refine ⟨_, rfl, (by decide), ?_⟩
    refine fun w0 hw0 => ?_; obtain rfl : w0 = some 236 := hw0.symm.trans (FS.g hF rfl)
    refine ⟨_, rfl, (by decide), (by decide), (by decide), ?_⟩
    refine ⟨fun (c6 : (((J 236 0) : Int) ≤ i)) => ?_, fun (c6 : (¬ (((J 236 0) : Int) ≤ i))) => ?_⟩
    ·
      refine ⟨fun (c7 : (¬ (v2 : Int) = 3)) => ?_, fun (c7 : ((v2 : Int) = 3)) => ?_⟩
      ·
        refine ⟨_, rfl, (by decide), ?_⟩
        have ho8 : ORM J (OFs FN 14).1 (OFs FN 14).2.1 (OFs FN 14).2.2 := by
          have h := cc103
          rw [← OFs_m (fn := FN) (m := Int.toNat i) (by omega) (fun k hk => by rw [hn k (by omega)]; omega)] at h
          exact h
        have e9 := ho8.2.1
        have z10 : (J 235 27) = ((OFs FN 14).2.2 : Int) := ho8.1
        have r11 : 0 ≤ (J 235 27) ∧ (J 235 27) ≤ 14 := Rg.f27 hJ
        refine ⟨fun (c13 : (¬ ((J 235 27) : Int) = 0)) => ?_, fun (c13 : (((J 235 27) : Int) = 0)) => ?_⟩
        ·
          refine ⟨_, rfl, (by decide), ?_⟩
          refine fun w0 hw0 => ?_; obtain rfl : w0 = some 245 := hw0.symm.trans (FS.g hF rfl)
          refine ⟨fun (c14 : (¬ (v2 : Int) = 0)) => ?_, fun (c14 : ((v2 : Int) = 0)) => ?_⟩
          ·
            refine ⟨fun (c15 : (¬ (v2 : Int) = 1)) => ?_, fun (c15 : ((v2 : Int) = 1)) => ?_⟩
            ·
              refine ⟨_, rfl, (by decide), ?_⟩
              have n16 : (wr ((J 235 27) - 1)) = (J 235 27) - 1 := wr_id (show -2147483648 ≤ ((J 235 27) - 1 : Int) ∧ ((J 235 27) - 1 : Int) < 2147483648 from by omega)
              refine ⟨_, rfl, (by decide), (show (0 : Int) ≤ (wr ((J 235 27) - 1)) from by first | with_reducible assumption | omega | (simp only [wr, wl] at *; omega)), (show (wr ((J 235 27) - 1)) < (14 : Int) from by first | with_reducible assumption | omega | (simp only [wr, wl] at *; omega)), ?_⟩
              have z17 : (J 245 (Int.toNat (wr ((J 235 27) - 1)))) = (OFs FN 14).1 ((OFs FN 14).2.2 - 1) := (congrArg (J 245) (by omega)).trans (ho8.2.2 ((OFs FN 14).2.2 - 1) (by omega)).1
              have z18 := (RV_14 hb) ((OFs FN 14).2.2 - 1) (by omega)
              have a19 : -2147483648 ≤ (J 245 (Int.toNat (wr ((J 235 27) - 1)))) ∧ (J 245 (Int.toNat (wr ((J 235 27) - 1)))) < 2147483648 := hA.1 _ _
              exact ⟨rfl, hQ _ _ hJ (fun ka ja hk => (hV ka ja (by omega))) (show (¬ ((0 ≤ v0 ∧ v0 ≤ 3) ∧ (0 ≤ v1 ∧ v1 ≤ 999) ∧ (0 ≤ v2 ∧ v2 ≤ 3)) → (J 245 (Int.toNat (wr ((J 235 27) - 1)))) = -1000001) ∧ (((0 ≤ v0 ∧ v0 ≤ 3) ∧ (0 ≤ v1 ∧ v1 ≤ 999) ∧ (0 ≤ v2 ∧ v2 ≤ 3)) → (v2 = 3 → (J 245 (Int.toNat (wr ((J 235 27) - 1)))) = ((OFs FN 14).2.2 : Int)) ∧ (¬ v2 = 3 → ((OFs FN 14).2.2 = 0 → (J 245 (Int.toNat (wr ((J 235 27) - 1)))) = -1000002) ∧ (¬ (OFs FN 14).2.2 = 0 → (v2 = 0 → (J 245 (Int.toNat (wr ((J 235 27) - 1)))) = (OFs FN 14).1 0) ∧ (v2 = 1 → (J 245 (Int.toNat (wr ((J 235 27) - 1)))) = (OFs FN 14).1 (((OFs FN 14).2.2 - 1) / 2)) ∧ (v2 = 2 → (J 245 (Int.toNat (wr ((J 235 27) - 1)))) = (OFs FN 14).1 ((OFs FN 14).2.2 - 1))))) from by
                              refine ⟨fun z => ?_, fun z => ⟨fun b => ?_, fun b => ⟨fun c => ?_, fun c => ⟨fun e => ?_, fun e => ?_, fun e => ?_⟩⟩⟩⟩
                              all_goals first | rfl | omega | (exfalso; omega))⟩
            ·
              refine ⟨_, rfl, (by decide), ?_⟩
              refine ⟨(by decide), ?_⟩
              have n20 : (wr ((J 235 27) - 1)) = (J 235 27) - 1 := wr_id (show -2147483648 ≤ ((J 235 27) - 1 : Int) ∧ ((J 235 27) - 1 : Int) < 2147483648 from by omega)
              have n21 : (Int.tdiv (wr ((J 235 27) - 1)) 2) = ((wr ((J 235 27) - 1)) : Int) / 2 := Int.tdiv_eq_ediv_of_nonneg (by omega)
              have n22 : (wr (Int.tdiv (wr ((J 235 27) - 1)) 2)) = (Int.tdiv (wr ((J 235 27) - 1)) 2) := wr_id (show -2147483648 ≤ ((Int.tdiv (wr ((J 235 27) - 1)) 2) : Int) ∧ ((Int.tdiv (wr ((J 235 27) - 1)) 2) : Int) < 2147483648 from by omega)
              refine ⟨_, rfl, (by decide), (show (0 : Int) ≤ (wr (Int.tdiv (wr ((J 235 27) - 1)) 2)) from by first | with_reducible assumption | omega | (simp only [wr, wl] at *; omega)), (show (wr (Int.tdiv (wr ((J 235 27) - 1)) 2)) < (14 : Int) from by first | with_reducible assumption | omega | (simp only [wr, wl] at *; omega)), ?_⟩
              have z23 : (J 245 (Int.toNat (wr (Int.tdiv (wr ((J 235 27) - 1)) 2)))) = (OFs FN 14).1 (((OFs FN 14).2.2 - 1) / 2) := (congrArg (J 245) (by omega)).trans (ho8.2.2 (((OFs FN 14).2.2 - 1) / 2) (by omega)).1
              have z24 := (RV_14 hb) (((OFs FN 14).2.2 - 1) / 2) (by omega)
              have a25 : -2147483648 ≤ (J 245 (Int.toNat (wr (Int.tdiv (wr ((J 235 27) - 1)) 2)))) ∧ (J 245 (Int.toNat (wr (Int.tdiv (wr ((J 235 27) - 1)) 2)))) < 2147483648 := hA.1 _ _
              exact ⟨rfl, hQ _ _ hJ (fun ka ja hk => (hV ka ja (by omega))) (show (¬ ((0 ≤ v0 ∧ v0 ≤ 3) ∧ (0 ≤ v1 ∧ v1 ≤ 999) ∧ (0 ≤ v2 ∧ v2 ≤ 3)) → (J 245 (Int.toNat (wr (Int.tdiv (wr ((J 235 27) - 1)) 2)))) = -1000001) ∧ (((0 ≤ v0 ∧ v0 ≤ 3) ∧ (0 ≤ v1 ∧ v1 ≤ 999) ∧ (0 ≤ v2 ∧ v2 ≤ 3)) → (v2 = 3 → (J 245 (Int.toNat (wr (Int.tdiv (wr ((J 235 27) - 1)) 2)))) = ((OFs FN 14).2.2 : Int)) ∧ (¬ v2 = 3 → ((OFs FN 14).2.2 = 0 → (J 245 (Int.toNat (wr (Int.tdiv (wr ((J 235 27) - 1)) 2)))) = -1000002) ∧ (¬ (OFs FN 14).2.2 = 0 → (v2 = 0 → (J 245 (Int.toNat (wr (Int.tdiv (wr ((J 235 27) - 1)) 2)))) = (OFs FN 14).1 0) ∧ (v2 = 1 → (J 245 (Int.toNat (wr (Int.tdiv (wr ((J 235 27) - 1)) 2)))) = (OFs FN 14).1 (((OFs FN 14).2.2 - 1) / 2)) ∧ (v2 = 2 → (J 245 (Int.toNat (wr (Int.tdiv (wr ((J 235 27) - 1)) 2)))) = (OFs FN 14).1 ((OFs FN 14).2.2 - 1))))) from by
                              refine ⟨fun z => ?_, fun z => ⟨fun b => ?_, fun b => ⟨fun c => ?_, fun c => ⟨fun e => ?_, fun e => ?_, fun e => ?_⟩⟩⟩⟩
                              all_goals first | rfl | omega | (exfalso; omega))⟩
          ·
            refine ⟨_, rfl, (by decide), (by decide), (by decide), ?_⟩
            have z26 : (J 245 0) = (OFs FN 14).1 0 := (congrArg (J 245) (by omega)).trans (ho8.2.2 0 (by omega)).1
            have z27 := (RV_14 hb) 0 (by omega)
            have a28 : -2147483648 ≤ (J 245 0) ∧ (J 245 0) < 2147483648 := hA.1 _ _
            exact ⟨rfl, hQ _ _ hJ (fun ka ja hk => (hV ka ja (by omega))) (show (¬ ((0 ≤ v0 ∧ v0 ≤ 3) ∧ (0 ≤ v1 ∧ v1 ≤ 999) ∧ (0 ≤ v2 ∧ v2 ≤ 3)) → (J 245 0) = -1000001) ∧ (((0 ≤ v0 ∧ v0 ≤ 3) ∧ (0 ≤ v1 ∧ v1 ≤ 999) ∧ (0 ≤ v2 ∧ v2 ≤ 3)) → (v2 = 3 → (J 245 0) = ((OFs FN 14).2.2 : Int)) ∧ (¬ v2 = 3 → ((OFs FN 14).2.2 = 0 → (J 245 0) = -1000002) ∧ (¬ (OFs FN 14).2.2 = 0 → (v2 = 0 → (J 245 0) = (OFs FN 14).1 0) ∧ (v2 = 1 → (J 245 0) = (OFs FN 14).1 (((OFs FN 14).2.2 - 1) / 2)) ∧ (v2 = 2 → (J 245 0) = (OFs FN 14).1 ((OFs FN 14).2.2 - 1))))) from by
                              refine ⟨fun z => ?_, fun z => ⟨fun b => ?_, fun b => ⟨fun c => ?_, fun c => ⟨fun e => ?_, fun e => ?_, fun e => ?_⟩⟩⟩⟩
                              all_goals first | rfl | omega | (exfalso; omega))⟩
        ·
          refine ⟨⟨_, rfl, (by decide)⟩, ?_⟩
          refine s_X12_finding hF (v := (-1000002)) (by decide) ?_
          exact ⟨rfl, hQ _ _ (Rg.u hJ (Pr_f rfl)) (fun ka ja hk => ((uI_o (show ¬ (ka = 238 ∧ ja = 2) from by first | (intro e; obtain ⟨rfl, rfl⟩ := e; exact hk (by decide)) | omega))).trans ((hV ka ja (by omega)))) (show (¬ ((0 ≤ v0 ∧ v0 ≤ 3) ∧ (0 ≤ v1 ∧ v1 ≤ 999) ∧ (0 ≤ v2 ∧ v2 ≤ 3)) → (-1000002) = -1000001) ∧ (((0 ≤ v0 ∧ v0 ≤ 3) ∧ (0 ≤ v1 ∧ v1 ≤ 999) ∧ (0 ≤ v2 ∧ v2 ≤ 3)) → (v2 = 3 → (-1000002) = ((OFs FN 14).2.2 : Int)) ∧ (¬ v2 = 3 → ((OFs FN 14).2.2 = 0 → (-1000002) = -1000002) ∧ (¬ (OFs FN 14).2.2 = 0 → (v2 = 0 → (-1000002) = (OFs FN 14).1 0) ∧ (v2 = 1 → (-1000002) = (OFs FN 14).1 (((OFs FN 14).2.2 - 1) / 2)) ∧ (v2 = 2 → (-1000002) = (OFs FN 14).1 ((OFs FN 14).2.2 - 1))))) from by
                              refine ⟨fun z => ?_, fun z => ⟨fun b => ?_, fun b => ⟨fun c => ?_, fun c => ⟨fun e => ?_, fun e => ?_, fun e => ?_⟩⟩⟩⟩
                              all_goals first | rfl | omega | (exfalso; omega))⟩
      ·
        refine ⟨_, rfl, (by decide), ?_⟩
        have ho29 : ORM J (OFs FN 14).1 (OFs FN 14).2.1 (OFs FN 14).2.2 := by
          have h := cc103
          rw [← OFs_m (fn := FN) (m := Int.toNat i) (by omega) (fun k hk => by rw [hn k (by omega)]; omega)] at h
          exact h
        have e30 := ho29.2.1
        have z31 : (J 235 27) = ((OFs FN 14).2.2 : Int) := ho29.1
        have r32 : 0 ≤ (J 235 27) ∧ (J 235 27) ≤ 14 := Rg.f27 hJ
        exact ⟨rfl, hQ _ _ hJ (fun ka ja hk => (hV ka ja (by omega))) (show (¬ ((0 ≤ v0 ∧ v0 ≤ 3) ∧ (0 ≤ v1 ∧ v1 ≤ 999) ∧ (0 ≤ v2 ∧ v2 ≤ 3)) → (J 235 27) = -1000001) ∧ (((0 ≤ v0 ∧ v0 ≤ 3) ∧ (0 ≤ v1 ∧ v1 ≤ 999) ∧ (0 ≤ v2 ∧ v2 ≤ 3)) → (v2 = 3 → (J 235 27) = ((OFs FN 14).2.2 : Int)) ∧ (¬ v2 = 3 → ((OFs FN 14).2.2 = 0 → (J 235 27) = -1000002) ∧ (¬ (OFs FN 14).2.2 = 0 → (v2 = 0 → (J 235 27) = (OFs FN 14).1 0) ∧ (v2 = 1 → (J 235 27) = (OFs FN 14).1 (((OFs FN 14).2.2 - 1) / 2)) ∧ (v2 = 2 → (J 235 27) = (OFs FN 14).1 ((OFs FN 14).2.2 - 1))))) from by
                              refine ⟨fun z => ?_, fun z => ⟨fun b => ?_, fun b => ⟨fun c => ?_, fun c => ⟨fun e => ?_, fun e => ?_, fun e => ?_⟩⟩⟩⟩
                              all_goals first | rfl | omega | (exfalso; omega))⟩
    ·
      refine ⟨⟨_, rfl, (by decide)⟩, ?_⟩
      refine Call_wp (lv := [some (vr 235), some (vi i), some (vi 1)]) (by decide) ckX12_of [] rfl rfl ?_
      refine ⟨_, rfl, (by decide), ?_⟩
      refine fun w0 hw0 => ?_; obtain rfl : w0 = some 236 := hw0.symm.trans (FS.g hF rfl)
      have n34 : (wr (66 * i)) = 66 * i := wr_id (show -2147483648 ≤ (66 * i : Int) ∧ (66 * i : Int) < 2147483648 from by omega)
      have n35 : (wr (304 + (wr (66 * i)))) = 304 + (wr (66 * i)) := wr_id (show -2147483648 ≤ (304 + (wr (66 * i)) : Int) ∧ (304 + (wr (66 * i)) : Int) < 2147483648 from by omega)
      have n36 : (wr ((wr (304 + (wr (66 * i)))) + 1)) = (wr (304 + (wr (66 * i)))) + 1 := wr_id (show -2147483648 ≤ ((wr (304 + (wr (66 * i)))) + 1 : Int) ∧ ((wr (304 + (wr (66 * i)))) + 1 : Int) < 2147483648 from by omega)
      refine ⟨_, rfl, (by decide), (show (0 : Int) ≤ (wr ((wr (304 + (wr (66 * i)))) + 1)) from by first | with_reducible assumption | omega | (simp only [wr, wl] at *; omega)), (show (wr ((wr (304 + (wr (66 * i)))) + 1)) < (1340 : Int) from by first | with_reducible assumption | omega | (simp only [wr, wl] at *; omega)), ?_⟩
      have z37 : (I 236 (Int.toNat (wr ((wr (304 + (wr (66 * i)))) + 1)))) = I 236 (304 + 66 * Int.toNat i + 1) := (rfl).trans (congrArg (I 236) (by omega))
      have u38 : (J 236 (Int.toNat (wr ((wr (304 + (wr (66 * i)))) + 1)))) = (I 236 (Int.toNat (wr ((wr (304 + (wr (66 * i)))) + 1)))) := hV _ _ (by first | decide | omega)
      have a39 : -2147483648 ≤ (J 236 (Int.toNat (wr ((wr (304 + (wr (66 * i)))) + 1)))) ∧ (J 236 (Int.toNat (wr ((wr (304 + (wr (66 * i)))) + 1)))) < 2147483648 := hA.1 _ _
      have z40 : (J 236 (Int.toNat (wr ((wr (304 + (wr (66 * i)))) + 1)))) = I 236 (304 + 66 * Int.toNat i + 1) := (hV 236 (Int.toNat (wr ((wr (304 + (wr (66 * i)))) + 1))) (by omega)).trans (congrArg (I 236) (by omega))
      refine ⟨rfl, ?_⟩
      refine ⟨fun (c41 : (¬ ((J 236 (Int.toNat (wr ((wr (304 + (wr (66 * i)))) + 1)))) : Int) = v0)) => ?_, fun (c41 : (((J 236 (Int.toNat (wr ((wr (304 + (wr (66 * i)))) + 1)))) : Int) = v0)) => ?_⟩
      ·
        refine ⟨fun _ => ?_, fun c => absurd (show (((-1) : Int) < 0) from by decide) c⟩
        refine GoN_lv (lv' := [some (vr 235), some (vi v0), some (vi v1), some (vi v2), some (vi (wr (i + 1))), none]) (LvLe.k (LvLe.k (LvLe.k (LvLe.k (LvLe.k (LvLe.d LvLe.n)))))) ?_
        have n42 : (wr (i + 1)) = i + 1 := wr_id (show -2147483648 ≤ (i + 1 : Int) ∧ (i + 1 : Int) < 2147483648 from by omega)
        exact ih (wr (i + 1)) J hJ (fun ka ja hk => (hV ka ja (by omega))) (show (0 : Int) ≤ (wr (i + 1)) from by first | with_reducible assumption | omega | (simp only [wr, wl] at *; omega)) (show ((wr (i + 1)) : Int) ≤ 14 from by first | with_reducible assumption | omega | (simp only [wr, wl] at *; omega)) (show (wr (i + 1)) ≤ I 236 0 from by first | with_reducible assumption | omega | (simp only [wr, wl] at *; omega)) (show ORM J (OFs FN (Int.toNat (wr (i + 1)))).1 (OFs FN (Int.toNat (wr (i + 1)))).2.1 (OFs FN (Int.toNat (wr (i + 1)))).2.2 from (by
                              have f : ¬ 0 ≤ FN (Int.toNat i) := by
                                first
                                  | (rw [hf (Int.toNat i) (by omega), if_neg (by omega)]; omega)
                              rw [show Int.toNat (wr (i + 1)) = Int.toNat i + 1 from by omega, OFs_n (fn := FN) (i := Int.toNat i) f]
                              exact cc103)) (show (14 - (wr (i + 1))).toNat < mz from by omega)
      ·
        refine ⟨⟨_, rfl, (by decide)⟩, ?_⟩
        refine r_crv11 (v0 := i) (v1 := v1) hF hJ (by omega) (RDM_f (hq (Int.toNat i) (by omega)) (fun j => hV 236 j (by omega))) hv (fun vr43 hr44 qr45 => ?_)
        have hr44 : -2147483648 ≤ vr43 ∧ vr43 < 2147483648 := hr44
        refine ⟨fun (c46 : ((vr43 : Int) < 0)) => ?_, fun (c46 : (¬ ((vr43 : Int) < 0))) => ?_⟩
        ·
          refine GoN_lv (lv' := [some (vr 235), some (vi v0), some (vi v1), some (vi v2), some (vi (wr (i + 1))), none]) (LvLe.k (LvLe.k (LvLe.k (LvLe.k (LvLe.k (LvLe.d LvLe.n)))))) ?_
          have n47 : (wr (i + 1)) = i + 1 := wr_id (show -2147483648 ≤ (i + 1 : Int) ∧ (i + 1 : Int) < 2147483648 from by omega)
          exact ih (wr (i + 1)) J hJ (fun ka ja hk => (hV ka ja (by omega))) (show (0 : Int) ≤ (wr (i + 1)) from by first | with_reducible assumption | omega | (simp only [wr, wl] at *; omega)) (show ((wr (i + 1)) : Int) ≤ 14 from by first | with_reducible assumption | omega | (simp only [wr, wl] at *; omega)) (show (wr (i + 1)) ≤ I 236 0 from by first | with_reducible assumption | omega | (simp only [wr, wl] at *; omega)) (show ORM J (OFs FN (Int.toNat (wr (i + 1)))).1 (OFs FN (Int.toNat (wr (i + 1)))).2.1 (OFs FN (Int.toNat (wr (i + 1)))).2.2 from (by
                              have f : ¬ 0 ≤ FN (Int.toNat i) := by
                                first
                                  | (rw [hf (Int.toNat i) (by omega), if_neg (by omega)]; omega)
                                  | (rw [hf (Int.toNat i) (by omega), if_pos (by omega), ← qr45]; omega)
                              rw [show Int.toNat (wr (i + 1)) = Int.toNat i + 1 from by omega, OFs_n (fn := FN) (i := Int.toNat i) f]
                              exact cc103)) (show (14 - (wr (i + 1))).toNat < mz from by omega)
        ·
          refine ⟨⟨_, rfl, (by decide)⟩, ?_⟩
          refine r_ins11 (v0 := vr43) (v1 := i) hF hJ cc103 (by have b := OFs_b (fn := FN) (Int.toNat i); omega) (fun I48 hR49 hA50 hW51 qr52 => ?_)
          refine GoN_lv (lv' := [some (vr 235), some (vi v0), some (vi v1), some (vi v2), some (vi (wr (i + 1))), none]) (LvLe.k (LvLe.k (LvLe.k (LvLe.k (LvLe.k (LvLe.d LvLe.n)))))) ?_
          have n53 : (wr (i + 1)) = i + 1 := wr_id (show -2147483648 ≤ (i + 1 : Int) ∧ (i + 1 : Int) < 2147483648 from by omega)
          have u54 : (I48 236 0) = (J 236 0) := hW51 _ _ (by first | decide | omega)
          have a55 : -2147483648 ≤ (I48 236 0) ∧ (I48 236 0) < 2147483648 := hA50.1 _ _
          have z56 : (I48 236 0) = I 236 0 := (hW51 236 0 (by first | decide | omega)).trans (hV 236 0 (by first | decide | omega))
          have r57 : 0 ≤ (I48 236 0) ∧ (I48 236 0) ≤ 14 := Rg.n0 hR49
          exact ih (wr (i + 1)) I48 hR49 (fun ka ja hk => ((hW51 ka ja (by omega))).trans ((hV ka ja (by omega)))) (show (0 : Int) ≤ (wr (i + 1)) from by first | with_reducible assumption | omega | (simp only [wr, wl] at *; omega)) (show ((wr (i + 1)) : Int) ≤ 14 from by first | with_reducible assumption | omega | (simp only [wr, wl] at *; omega)) (show (wr (i + 1)) ≤ I 236 0 from by first | with_reducible assumption | omega | (simp only [wr, wl] at *; omega)) (show ORM I48 (OFs FN (Int.toNat (wr (i + 1)))).1 (OFs FN (Int.toNat (wr (i + 1)))).2.1 (OFs FN (Int.toNat (wr (i + 1)))).2.2 from (by
                              have f : FN (Int.toNat i) = vr43 := (hf (Int.toNat i) (by omega)).trans (by rw [if_pos (by omega)]; exact qr45.symm)
                              rw [show Int.toNat (wr (i + 1)) = Int.toNat i + 1 from by omega, OFs_y (fn := FN) (i := Int.toNat i) (by omega), f, show ((Int.toNat i : Nat) : Int) = i from by omega]
                              exact qr52)) (show (14 - (wr (i + 1))).toNat < mz from by omega)
theorem r_curve11 (hF : FS F) (hR : Rg I) {v0 v1 v2 : Int} {SF LF : Nat → Nat → Int} {NF : Nat → Int} (hq : ∀ p : Nat, (p : Int) < I 236 0 → RDM I p (SF p) (LF p) (NF p)) {FN : Nat → Int} (hf : ∀ i : Nat, (i : Int) < I 236 0 → FN i = if I 236 (304 + 66 * i + 1) = v0 then crF (SF i) (LF i) v1 (Int.toNat (NF i)) 0 (-1) else -1) (hn : ∀ i : Nat, ¬ (i : Int) < I 236 0 → FN i = -1) (hb : 0 ≤ v1 ∧ v1 ≤ 999 → ∀ i, FN i ≤ 2000000000) (hQ : ∀ (r : Int) (I' : pI), Rg I' → AR I' → iR r → (∀ k j, ¬ (k = 238 ∨ (k = 235 ∧ (j = 27)) ∨ k = 245 ∨ k = 246) → I' k j = I k j) → ((¬ ((0 ≤ v0 ∧ v0 ≤ 3) ∧ (0 ≤ v1 ∧ v1 ≤ 999) ∧ (0 ≤ v2 ∧ v2 ≤ 3)) → r = -1000001) ∧ (((0 ≤ v0 ∧ v0 ≤ 3) ∧ (0 ≤ v1 ∧ v1 ≤ 999) ∧ (0 ≤ v2 ∧ v2 ≤ 3)) → (v2 = 3 → r = ((OFs FN 14).2.2 : Int)) ∧ (¬ v2 = 3 → ((OFs FN 14).2.2 = 0 → r = -1000002) ∧ (¬ (OFs FN 14).2.2 = 0 → (v2 = 0 → r = (OFs FN 14).1 0) ∧ (v2 = 1 → r = (OFs FN 14).1 (((OFs FN 14).2.2 - 1) / 2)) ∧ (v2 = 2 → r = (OFs FN 14).1 ((OFs FN 14).2.2 - 1)))))) → Q (some (vi r)) F I') : CallN G (d + 4) kX12_curve [vr 235, vi v0, vi v1, vi v2] NP F I Q := by
  refine CallN_in (fun hok hA => CallN_out ?_)
  have iv0 : -2147483648 ≤ v0 ∧ v0 < 2147483648 := hok (vi v0) (by simp)
  have iv1 : -2147483648 ≤ v1 ∧ v1 < 2147483648 := hok (vi v1) (by simp)
  have iv2 : -2147483648 ≤ v2 ∧ v2 < 2147483648 := hok (vi v2) (by simp)
  refine Call_wp (lv := [some (vr 235), some (vi v0), some (vi v1), some (vi v2), none, none]) (by decide) ckX12_curve [42] rfl rfl ?_
  refine s_X12_isLot (fun (w1 : ((0 : Int) ≤ v0 ∧ (v0 : Int) ≤ 3)) => ?_) (fun (w1 : ¬ ((0 : Int) ≤ v0 ∧ (v0 : Int) ≤ 3)) => ?_)
  ·
    refine ⟨fun c => absurd c (show (¬ ((1 : Int) = 0)) from by decide), fun _ => ?_⟩
    refine s_X12_within (fun (w2 : ((0 : Int) ≤ v1 ∧ (v1 : Int) ≤ 999)) => ?_) (fun (w2 : ¬ ((0 : Int) ≤ v1 ∧ (v1 : Int) ≤ 999)) => ?_)
    ·
      refine ⟨fun c => absurd c (show (¬ ((1 : Int) = 0)) from by decide), fun _ => ?_⟩
      refine s_X12_within (fun (w3 : ((0 : Int) ≤ v2 ∧ (v2 : Int) ≤ 3)) => ?_) (fun (w3 : ¬ ((0 : Int) ≤ v2 ∧ (v2 : Int) ≤ 3)) => ?_)
      ·
        refine ⟨fun _ => ?_, fun c => absurd c (show (¬ (1 : Int) = 0) from by decide)⟩
        refine ⟨_, rfl, (by decide), ?_⟩
        have p4 : (0 : Int) ≤ 0 ∧ (0 : Int) ≤ 14 := by decide
        have r5 : 0 ≤ (I 236 0) ∧ (I 236 0) ≤ 14 := Rg.n0 hR
        refine r_curve11_l hF hR hq hf hn (hb (by omega)) (by omega) (by omega) (fun r I' g1 g2 g3 hv hA' => hQ _ _ g1 hA' (hv _ rfl) g2 g3) _ 0 (uI I 235 27 0) (Rg.u hR (Pr_x27 p4)) (fun ka ja hk => (uI_o (show ¬ (ka = 235 ∧ ja = 27) from by first | (intro e; obtain ⟨rfl, rfl⟩ := e; exact hk (by decide)) | omega))) (show (0 : Int) ≤ (0 : Int) from Int.le_refl _) (show ((0 : Int) : Int) ≤ 14 from by first | with_reducible assumption | omega | (simp only [wr, wl] at *; omega)) (show (0 : Int) ≤ I 236 0 from by first | with_reducible assumption | omega | (simp only [wr, wl] at *; omega)) (show ORM (uI I 235 27 0) (OFs FN (Int.toNat (0 : Int))).1 (OFs FN (Int.toNat (0 : Int))).2.1 (OFs FN (Int.toNat (0 : Int))).2.2 from ORM_0 uJ_eq) (Nat.lt_succ_self _)
      ·
        refine ⟨fun c => absurd (show ((0 : Int) = 0) from by decide) c, fun _ => ?_⟩
        refine ⟨⟨_, rfl, (by decide)⟩, ?_⟩
        refine s_X12_finding hF (v := (-1000001)) (by decide) ?_
        exact ⟨rfl, fun hv hA' => hQ _ _ (Rg.u hR (Pr_f rfl)) hA' (hv _ rfl) (fun ka ja hk => (uI_o (show ¬ (ka = 238 ∧ ja = 1) from by first | (intro e; obtain ⟨rfl, rfl⟩ := e; exact hk (by decide)) | omega))) (show (¬ ((0 ≤ v0 ∧ v0 ≤ 3) ∧ (0 ≤ v1 ∧ v1 ≤ 999) ∧ (0 ≤ v2 ∧ v2 ≤ 3)) → (-1000001) = -1000001) ∧ (((0 ≤ v0 ∧ v0 ≤ 3) ∧ (0 ≤ v1 ∧ v1 ≤ 999) ∧ (0 ≤ v2 ∧ v2 ≤ 3)) → (v2 = 3 → (-1000001) = ((OFs FN 14).2.2 : Int)) ∧ (¬ v2 = 3 → ((OFs FN 14).2.2 = 0 → (-1000001) = -1000002) ∧ (¬ (OFs FN 14).2.2 = 0 → (v2 = 0 → (-1000001) = (OFs FN 14).1 0) ∧ (v2 = 1 → (-1000001) = (OFs FN 14).1 (((OFs FN 14).2.2 - 1) / 2)) ∧ (v2 = 2 → (-1000001) = (OFs FN 14).1 ((OFs FN 14).2.2 - 1))))) from by
                              refine ⟨fun z => ?_, fun z => ⟨fun b => ?_, fun b => ⟨fun c => ?_, fun c => ⟨fun e => ?_, fun e => ?_, fun e => ?_⟩⟩⟩⟩
                              all_goals first | rfl | omega | (exfalso; omega))⟩
    ·
      refine ⟨fun _ => ?_, fun c => absurd (show ((0 : Int) = 0) from by decide) c⟩
      refine ⟨⟨_, rfl, (by decide)⟩, ?_⟩
      refine s_X12_finding hF (v := (-1000001)) (by decide) ?_
      exact ⟨rfl, fun hv hA' => hQ _ _ (Rg.u hR (Pr_f rfl)) hA' (hv _ rfl) (fun ka ja hk => (uI_o (show ¬ (ka = 238 ∧ ja = 1) from by first | (intro e; obtain ⟨rfl, rfl⟩ := e; exact hk (by decide)) | omega))) (show (¬ ((0 ≤ v0 ∧ v0 ≤ 3) ∧ (0 ≤ v1 ∧ v1 ≤ 999) ∧ (0 ≤ v2 ∧ v2 ≤ 3)) → (-1000001) = -1000001) ∧ (((0 ≤ v0 ∧ v0 ≤ 3) ∧ (0 ≤ v1 ∧ v1 ≤ 999) ∧ (0 ≤ v2 ∧ v2 ≤ 3)) → (v2 = 3 → (-1000001) = ((OFs FN 14).2.2 : Int)) ∧ (¬ v2 = 3 → ((OFs FN 14).2.2 = 0 → (-1000001) = -1000002) ∧ (¬ (OFs FN 14).2.2 = 0 → (v2 = 0 → (-1000001) = (OFs FN 14).1 0) ∧ (v2 = 1 → (-1000001) = (OFs FN 14).1 (((OFs FN 14).2.2 - 1) / 2)) ∧ (v2 = 2 → (-1000001) = (OFs FN 14).1 ((OFs FN 14).2.2 - 1))))) from by
                              refine ⟨fun z => ?_, fun z => ⟨fun b => ?_, fun b => ⟨fun c => ?_, fun c => ⟨fun e => ?_, fun e => ?_, fun e => ?_⟩⟩⟩⟩
                              all_goals first | rfl | omega | (exfalso; omega))⟩
  ·
    refine ⟨fun _ => ?_, fun c => absurd (show ((0 : Int) = 0) from by decide) c⟩
    refine ⟨⟨_, rfl, (by decide)⟩, ?_⟩
    refine s_X12_finding hF (v := (-1000001)) (by decide) ?_
    exact ⟨rfl, fun hv hA' => hQ _ _ (Rg.u hR (Pr_f rfl)) hA' (hv _ rfl) (fun ka ja hk => (uI_o (show ¬ (ka = 238 ∧ ja = 1) from by first | (intro e; obtain ⟨rfl, rfl⟩ := e; exact hk (by decide)) | omega))) (show (¬ ((0 ≤ v0 ∧ v0 ≤ 3) ∧ (0 ≤ v1 ∧ v1 ≤ 999) ∧ (0 ≤ v2 ∧ v2 ≤ 3)) → (-1000001) = -1000001) ∧ (((0 ≤ v0 ∧ v0 ≤ 3) ∧ (0 ≤ v1 ∧ v1 ≤ 999) ∧ (0 ≤ v2 ∧ v2 ≤ 3)) → (v2 = 3 → (-1000001) = ((OFs FN 14).2.2 : Int)) ∧ (¬ v2 = 3 → ((OFs FN 14).2.2 = 0 → (-1000001) = -1000002) ∧ (¬ (OFs FN 14).2.2 = 0 → (v2 = 0 → (-1000001) = (OFs FN 14).1 0) ∧ (v2 = 1 → (-1000001) = (OFs FN 14).1 (((OFs FN 14).2.2 - 1) / 2)) ∧ (v2 = 2 → (-1000001) = (OFs FN 14).1 ((OFs FN 14).2.2 - 1))))) from by
                              refine ⟨fun z => ?_, fun z => ⟨fun b => ?_, fun b => ⟨fun c => ?_, fun c => ⟨fun e => ?_, fun e => ?_, fun e => ?_⟩⟩⟩⟩
                              all_goals first | rfl | omega | (exfalso; omega))⟩
end CU11
def fnC (I : pI) (v0 v1 : Int) (i : Nat) : Int := if (i : Int) < I 236 0 then (if I 236 (304 + 66 * i + 1) = v0 then crF (SFI I i) (LFI I i) v1 (Int.toNat (NFI I i)) 0 (-1) else -1) else -1
theorem fnC_c {I : pI} (hP : LPc I) (eO : I 1 1 = I 236 0) {v0 v1 : Int} : ∀ i : Nat, (i : Int) < I 1 1 → fnC I v0 v1 i = if I (1 + 19 + 5 * i) 1 = v0 then crF (SFI I i) (LFI I i) v1 (Int.toNat (NFI I i)) 0 (-1) else -1 := fun i hi => by
  obtain ⟨⟨_, e1, _, _⟩, _⟩ := hP i (by omega)
  unfold fnC
  rw [if_pos (by omega), show 1 + 19 + 5 * i = 20 + 5 * i from by omega, e1]
theorem fnC_n {I : pI} (eO : I 1 1 = I 236 0) {v0 v1 : Int} : ∀ i : Nat, ¬ (i : Int) < I 1 1 → fnC I v0 v1 i = -1 := fun i hi => by
  unfold fnC
  rw [if_neg (by omega)]
theorem fnC_r {I J : pI} (h4 : ∀ j, J 236 j = I 236 j) {v0 v1 : Int} : ∀ i : Nat, (i : Int) < J 236 0 → fnC I v0 v1 i = if J 236 (304 + 66 * i + 1) = v0 then crF (SFI I i) (LFI I i) v1 (Int.toNat (NFI I i)) 0 (-1) else -1 := fun i hi => by
  rw [h4] at hi
  unfold fnC
  rw [if_pos hi, h4]
theorem fnC_m {I J : pI} (h4 : ∀ j, J 236 j = I 236 j) {v0 v1 : Int} : ∀ i : Nat, ¬ (i : Int) < J 236 0 → fnC I v0 v1 i = -1 := fun i hi => by
  rw [h4] at hi
  unfold fnC
  rw [if_neg hi]
theorem fnC_b {I : pI} (hL : LRc I) {v0 v1 : Int} : 0 ≤ v1 ∧ v1 ≤ 999 → ∀ i, fnC I v0 v1 i ≤ 2000000000 := fun hv i => by
  unfold fnC
  by_cases c : (i : Int) < I 236 0
  · rw [if_pos c]
    by_cases d : I 236 (304 + 66 * i + 1) = v0
    · rw [if_pos d]; exact crF_b (REQ_S (hL i c)).2.2.2.2 hv _ _ _
    · rw [if_neg d]; omega
  · rw [if_neg c]; omega
def CUQ (FN : Nat → Int) (v0 v1 v2 r : Int) : Prop := (¬ ((0 ≤ v0 ∧ v0 ≤ 3) ∧ (0 ≤ v1 ∧ v1 ≤ 999) ∧ (0 ≤ v2 ∧ v2 ≤ 3)) → r = -1000001) ∧ (((0 ≤ v0 ∧ v0 ≤ 3) ∧ (0 ≤ v1 ∧ v1 ≤ 999) ∧ (0 ≤ v2 ∧ v2 ≤ 3)) → (v2 = 3 → r = ((OFs FN 14).2.2 : Int)) ∧ (¬ v2 = 3 → ((OFs FN 14).2.2 = 0 → r = -1000002) ∧ (¬ (OFs FN 14).2.2 = 0 → (v2 = 0 → r = (OFs FN 14).1 0) ∧ (v2 = 1 → r = (OFs FN 14).1 (((OFs FN 14).2.2 - 1) / 2)) ∧ (v2 = 2 → r = (OFs FN 14).1 ((OFs FN 14).2.2 - 1)))))
theorem curve_e {FN : Nat → Int} {v0 v1 v2 r r' : Int} (c : CUQ FN v0 v1 v2 r) (d : CUQ FN v0 v1 v2 r') : r = r' := by
  unfold CUQ at c d
  by_cases v : (0 ≤ v0 ∧ v0 ≤ 3) ∧ (0 ≤ v1 ∧ v1 ≤ 999) ∧ (0 ≤ v2 ∧ v2 ≤ 3)
  · have c1 := c.2 v
    have d1 := d.2 v
    by_cases w3 : v2 = 3
    · exact (c1.1 w3).trans (d1.1 w3).symm
    · have c2 := c1.2 w3
      have d2 := d1.2 w3
      by_cases z : (OFs FN 14).2.2 = 0
      · exact (c2.1 z).trans (d2.1 z).symm
      · have c3 := c2.2 z
        have d3 := d2.2 z
        have t : v2 = 0 ∨ v2 = 1 ∨ v2 = 2 := by omega
        rcases t with t | t | t
        · exact (c3.1 t).trans (d3.1 t).symm
        · exact (c3.2.1 t).trans (d3.2.1 t).symm
        · exact (c3.2.2 t).trans (d3.2.2 t).symm
  · exact (c.1 v).trans (d.1 v).symm
