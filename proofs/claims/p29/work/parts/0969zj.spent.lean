/-! what spent answers. Own work (scripts laid by wip/pm/gen34.py). -/
section SP11
variable {G : pG} {d : Nat} {F : pF} {I : pI} {Q : Option pV → pF → pI → Prop}
def spD (S L : Nat → Int) (a k : Nat) : Int := (if S k - S a < 0 then 0 else S k - S a) * (L a + L k)
theorem spm {m s : Int} (hm : 0 ≤ m ∧ m ≤ 5100000) (hs : 0 ≤ s ∧ s ≤ 400000) : 0 ≤ m * s ∧ m * s ≤ 2040000000000 := by
  have h1 := Int.mul_nonneg hm.1 hs.1
  have h2 := Int.mul_le_mul_of_nonneg_right hm.2 hs.1
  omega
theorem spl {S L : Nat → Int} {a k : Nat} {w g : Int} (hS : ∀ k, 0 ≤ S k ∧ S k ≤ 5100000) (hL : ∀ k, -200000 ≤ L k ∧ L k ≤ 200000) (h1 : 0 ≤ L a) (h2 : 0 ≤ L k) (hw : (w = 0 ∨ w = S k - S a) ∧ 0 ≤ w ∧ S k - S a ≤ w) (hg : g = L a + L k) : wl (w * g) = spD S L a k ∧ wl (g * w) = spD S L a k ∧ 0 ≤ spD S L a k ∧ spD S L a k ≤ 2040000000000 := by
  have b1 := hS a
  have b2 := hS k
  have b3 := hL a
  have b4 := hL k
  have e : w = if S k - S a < 0 then 0 else S k - S a := by
    by_cases c : S k - S a < 0
    · rw [if_pos c]; omega
    · rw [if_neg c]; omega
  have m := spm (m := w) (s := g) (by omega) (by omega)
  have e2 : w * g = spD S L a k := by unfold spD; rw [← e, hg]
  refine ⟨?_, ?_, by omega, by omega⟩
  · rw [← e2]; exact wl_id (by unfold lR; omega)
  · rw [Int.mul_comm, ← e2]; exact wl_id (by unfold lR; omega)
theorem spnF_n {S L : Nat → Int} {k : Nat} (h : ¬ 0 ≤ L k) : spnF S L (k + 1) = spnF S L k := if_neg h
theorem spnF_y {S L : Nat → Int} {k : Nat} (h : 0 ≤ L k) : spnF S L (k + 1) = ((spnF S L k).1 + (if (spnF S L k).2 < 0 then 0 else spD S L (Int.toNat (spnF S L k).2) k), (k : Int)) := if_pos h
theorem spnF_go {S L : Nat → Int} {k : Nat} {s a : Int} (h : s = (spnF S L k).1 ∧ a = (spnF S L k).2) : (¬ 0 ≤ L k → s = (spnF S L (k + 1)).1 ∧ a = (spnF S L (k + 1)).2) ∧ (0 ≤ L k → a < 0 → s = (spnF S L (k + 1)).1 ∧ (k : Int) = (spnF S L (k + 1)).2) ∧ (0 ≤ L k → ¬ a < 0 → s + spD S L (Int.toNat a) k = (spnF S L (k + 1)).1 ∧ (k : Int) = (spnF S L (k + 1)).2) := by
  obtain ⟨h1, h2⟩ := h
  subst h1 h2
  refine ⟨fun c => by rw [spnF_n c]; exact ⟨rfl, rfl⟩, fun c e => ?_, fun c e => ?_⟩
  · rw [spnF_y c]
    refine ⟨?_, rfl⟩
    show _ = _ + _
    rw [if_pos e, Int.add_zero]
  · rw [spnF_y c]
    refine ⟨?_, rfl⟩
    show _ = _ + _
    rw [if_neg e]
theorem spnF_b {S L : Nat → Int} (hS : ∀ k, 0 ≤ S k ∧ S k ≤ 5100000) (hL : ∀ k, -200000 ≤ L k ∧ L k ≤ 200000) : ∀ k : Nat, 0 ≤ (spnF S L k).1 ∧ (spnF S L k).1 ≤ 2040000000000 * (k : Int) ∧ -1 ≤ (spnF S L k).2 ∧ (spnF S L k).2 < (k : Int) ∧ (0 ≤ (spnF S L k).2 → 0 ≤ L (Int.toNat (spnF S L k).2)) := by
  intro k
  induction k with
  | zero => exact ⟨by show (0 : Int) ≤ 0; omega, by show (0 : Int) ≤ 2040000000000 * ((0 : Nat) : Int); omega, by show (-1 : Int) ≤ -1; omega, by show (-1 : Int) < ((0 : Nat) : Int); omega, fun h => absurd h (by show ¬ (0 : Int) ≤ -1; omega)⟩
  | succ k ih =>
    obtain ⟨i1, i2, i3, i4, i5⟩ := ih
    have g := spnF_go (S := S) (L := L) (k := k) ⟨rfl, rfl⟩
    by_cases c : 0 ≤ L k
    · by_cases e : (spnF S L k).2 < 0
      · have y := g.2.1 c e
        rw [← y.1, ← y.2]
        exact ⟨i1, by omega, by omega, by omega, fun _ => by rw [Int.toNat_natCast]; exact c⟩
      · have y := g.2.2 c e
        have z := spl (a := Int.toNat (spnF S L k).2) (k := k) (w := if S k - S (Int.toNat (spnF S L k).2) < 0 then 0 else S k - S (Int.toNat (spnF S L k).2)) hS hL (i5 (by omega)) c (by
          by_cases q : S k - S (Int.toNat (spnF S L k).2) < 0
          · rw [if_pos q]; omega
          · rw [if_neg q]; omega) rfl
        rw [← y.1, ← y.2]
        exact ⟨by omega, by omega, by omega, by omega, fun _ => by rw [Int.toNat_natCast]; exact c⟩
    · have y := g.1 c
      rw [← y.1, ← y.2]
      exact ⟨i1, by omega, i3, by omega, i5⟩
theorem c_btw11 (hF : FS F) (hR : Rg I) {v0 v1 : Int} {rd : Nat} (hr : RP F rd) {S L : Nat → Int} {N : Int} (hq : RDS I rd S L N) (h0 : 0 ≤ v0 ∧ v0 < N) (h1 : 0 ≤ v1 ∧ v1 < N) (hz : 0 ≤ L (Int.toNat v0) ∧ 0 ≤ L (Int.toNat v1)) (hQ : ∀ r : Int, lR r → (r = spD S L (Int.toNat v0) (Int.toNat v1) ∧ 0 ≤ r ∧ r ≤ 2040000000000) → Q (some (vl r)) F I) : CallN G (d + 1) kX6_spentBetween [vr rd, vi v0, vi v1] NP F I Q := by
  refine CallN_in (fun hok hA => CallN_out ?_)
  have iv0 : -2147483648 ≤ v0 ∧ v0 < 2147483648 := hok (vi v0) (by simp)
  have iv1 : -2147483648 ≤ v1 ∧ v1 < 2147483648 := hok (vi v1) (by simp)
  have hN := hq.2.2.1
  refine Call_wp (lv := [some (vr rd), some (vi v0), some (vi v1), none, none]) (by decide) ckX6_spentBetween [] rfl rfl ?_
  refine ⟨⟨_, hr.1.1, (by have := hr.2; show _ < 254; omega)⟩, ?_⟩
  refine c_st11 (v0 := v1) hF hR hr hq (by omega) (fun vr1 hr2 qr3 => ?_)
  have hr2 : -2147483648 ≤ vr1 ∧ vr1 < 2147483648 := hr2
  have b4 : (0 : Int) ≤ vr1 ∧ vr1 ≤ 5100000 := by rw [qr3]; exact hq.2.2.2.1 _
  refine ⟨⟨_, hr.1.1, (by have := hr.2; show _ < 254; omega)⟩, ?_⟩
  refine c_st11 (v0 := v0) hF hR hr hq (by omega) (fun vr5 hr6 qr7 => ?_)
  have hr6 : -2147483648 ≤ vr5 ∧ vr5 < 2147483648 := hr6
  have b8 : (0 : Int) ≤ vr5 ∧ vr5 ≤ 5100000 := by rw [qr7]; exact hq.2.2.2.1 _
  have n9 : (wr (vr1 - vr5)) = vr1 - vr5 := wr_id (show -2147483648 ≤ (vr1 - vr5 : Int) ∧ (vr1 - vr5 : Int) < 2147483648 from by omega)
  refine j_max (fun w10 h11 h12 h13 => ?_)
  refine ⟨⟨_, hr.1.1, (by have := hr.2; show _ < 254; omega)⟩, ?_⟩
  refine c_ld11 (v0 := v0) hF hR hr hq (by omega) (fun vr14 hr15 qr16 => ?_)
  have hr15 : -2147483648 ≤ vr14 ∧ vr14 < 2147483648 := hr15
  have b17 : (-200000 : Int) ≤ vr14 ∧ vr14 ≤ 200000 := by rw [qr16]; exact hq.2.2.2.2 _
  refine ⟨⟨_, hr.1.1, (by have := hr.2; show _ < 254; omega)⟩, ?_⟩
  refine c_ld11 (v0 := v1) hF hR hr hq (by omega) (fun vr18 hr19 qr20 => ?_)
  have hr19 : -2147483648 ≤ vr18 ∧ vr18 < 2147483648 := hr19
  have b21 : (-200000 : Int) ≤ vr18 ∧ vr18 ≤ 200000 := by rw [qr20]; exact hq.2.2.2.2 _
  have n22 : (wr (vr14 + vr18)) = vr14 + vr18 := wr_id (show -2147483648 ≤ (vr14 + vr18 : Int) ∧ (vr14 + vr18 : Int) < 2147483648 from by omega)
  have p23 := spl (S := S) (L := L) (a := Int.toNat v0) (k := Int.toNat v1) (w := w10) (g := (wr (vr14 + vr18))) hq.2.2.2.1 hq.2.2.2.2 (by omega) (by omega) (by omega) (by omega)
  exact ⟨rfl, fun hv hA' => hQ _ (hv _ rfl) (by omega)⟩
theorem c_spt11_l (hF : FS F) (hR : Rg I) {v0 : Int} {rd : Nat} (hr : RP F rd) {S L : Nat → Int} {N : Int} (hq : RDS I rd S L N) (hv : -1 ≤ v0 ∧ v0 < N) (hQ : ∀ (r : Int) , (r = (spnF S L (Int.toNat (v0 + 1))).1 ∧ 0 ≤ r ∧ r ≤ 48960000000000) → Q (some (vl r)) F I) : ∀ (mz : Nat) (s a i : Int) , (((-1) : Int) ≤ a) → ((a : Int) ≤ 23) → ((0 : Int) ≤ i) → ((i : Int) ≤ 24) → ((I rd 2) = N) → (i ≤ N) → (i ≤ v0 + 1) → (a < i) → (s = (spnF S L (Int.toNat i)).1 ∧ a = (spnF S L (Int.toNat i)).2) → (N - i).toNat < mz → GoN G (d + 2) kX6_spentUpTo NP NP 8 [some (vr rd), some (vi v0), some (vl s), none, some (vi a), some (vi i)] [] F I Q := by
  intro mz
  induction mz with
  | zero => intro s a i _ _ _ _ _ _ _ _ _ h; exact absurd h (Nat.not_lt_zero _)
  | succ mz ih =>
    intro s a i cc100 cc101 cc102 cc103 cc104 cc105 cc106 cc107 cc108 hm
    refine GoN_in (fun hok hA => ?_)
    have iiv0 : -2147483648 ≤ v0 ∧ v0 < 2147483648 := hok 1 _ rfl
    have iis : -9223372036854775808 ≤ s ∧ s < 9223372036854775808 := hok 2 _ rfl
    have iia : -2147483648 ≤ a ∧ a < 2147483648 := hok 4 _ rfl
    have iii : -2147483648 ≤ i ∧ i < 2147483648 := hok 5 _ rfl
    have hN := hq.2.2.1
    have sb := spnF_b (S := S) (L := L) hq.2.2.2.1 hq.2.2.2.2 (Int.toNat i)
    rw [← (cc108).1, ← (cc108).2] at sb
    have z1 : (I rd 2) = N := hq.1
    have a2 : -2147483648 ≤ (I rd 2) ∧ (I rd 2) < 2147483648 := hA.1 _ _
    refine Go_wp (by decide) ckX6_spentUpTo [8] ?_
    refine ⟨fun (c3 : ((v0 : Int) < i)) => ?_, fun (c3 : (¬ ((v0 : Int) < i))) => ?_⟩
    ·
      exact ⟨rfl, hQ _ ((by
                              rw [show Int.toNat (v0 + 1) = Int.toNat i from by omega]
                              exact ⟨(cc108).1, by omega, by omega⟩))⟩
    ·
      refine ⟨_, hr.1.1, (by have := hr.2; show _ < 254; omega), ?_⟩
      refine ⟨fun (c4 : (((I rd 2) : Int) ≤ i)) => ?_, fun (c4 : (¬ (((I rd 2) : Int) ≤ i))) => ?_⟩
      ·
        exact ⟨rfl, hQ _ ((by
                              rw [show Int.toNat (v0 + 1) = Int.toNat i from by omega]
                              exact ⟨(cc108).1, by omega, by omega⟩))⟩
      ·
        refine ⟨⟨_, hr.1.1, (by have := hr.2; show _ < 254; omega)⟩, ?_⟩
        refine c_gd11 (v0 := i) hF hR hr hq (by omega) (fun vr5 hr6 qr7 => ?_)
        have hr6 : -2147483648 ≤ vr5 ∧ vr5 < 2147483648 := hr6
        refine ⟨fun (c8 : ((vr5 : Int) = 0)) => ?_, fun (c8 : (¬ ((vr5 : Int) = 0))) => ?_⟩
        ·
          have n9 : (wr (i + 1)) = i + 1 := wr_id (show -2147483648 ≤ (i + 1 : Int) ∧ (i + 1 : Int) < 2147483648 from by omega)
          exact ih s a (wr (i + 1))  (show ((-1) : Int) ≤ a from by first | with_reducible assumption | omega | (simp only [wr, wl] at *; omega)) (show (a : Int) ≤ 23 from by first | with_reducible assumption | omega | (simp only [wr, wl] at *; omega)) (show (0 : Int) ≤ (wr (i + 1)) from by first | with_reducible assumption | omega | (simp only [wr, wl] at *; omega)) (show ((wr (i + 1)) : Int) ≤ 24 from by first | with_reducible assumption | omega | (simp only [wr, wl] at *; omega)) (show (I rd 2) = N from by first | omega | (simp only [wr, wl] at *; omega)) (show (wr (i + 1)) ≤ N from by first | with_reducible assumption | omega | (simp only [wr, wl] at *; omega)) (show (wr (i + 1)) ≤ v0 + 1 from by first | with_reducible assumption | omega | (simp only [wr, wl] at *; omega)) (show a < (wr (i + 1)) from by first | with_reducible assumption | omega | (simp only [wr, wl] at *; omega)) (show s = (spnF S L (Int.toNat (wr (i + 1)))).1 ∧ a = (spnF S L (Int.toNat (wr (i + 1)))).2 from (by
                              have ks := spnF_go (S := S) (L := L) (k := Int.toNat i) cc108
                              rw [show Int.toNat (wr (i + 1)) = Int.toNat i + 1 from by omega]
                              first
                                | exact ks.1 (by omega)
                                | (have y := ks.2.1 (by omega) (by omega); exact ⟨by omega, by omega⟩)
                                | (have y := ks.2.2 (by omega) (by omega); exact ⟨by omega, by omega⟩))) (show (N - (wr (i + 1))).toNat < mz from by omega)
        ·
          refine ⟨fun (c10 : ((0 : Int) ≤ a)) => ?_, fun (c10 : (¬ ((0 : Int) ≤ a))) => ?_⟩
          ·
            refine ⟨⟨_, hr.1.1, (by have := hr.2; show _ < 254; omega)⟩, ?_⟩
            refine c_btw11 (v0 := a) (v1 := i) hF hR hr hq (by omega) (by omega) (by omega) (fun vr11 hr12 qr13 => ?_)
            have hr12 : -9223372036854775808 ≤ vr11 ∧ vr11 < 9223372036854775808 := hr12
            have n14 : (wl (s + vr11)) = s + vr11 := wl_id (show -9223372036854775808 ≤ (s + vr11 : Int) ∧ (s + vr11 : Int) < 9223372036854775808 from by omega)
            have n15 : (wr (i + 1)) = i + 1 := wr_id (show -2147483648 ≤ (i + 1 : Int) ∧ (i + 1 : Int) < 2147483648 from by omega)
            exact ih (wl (s + vr11)) i (wr (i + 1))  (show ((-1) : Int) ≤ i from by first | with_reducible assumption | omega | (simp only [wr, wl] at *; omega)) (show (i : Int) ≤ 23 from by first | with_reducible assumption | omega | (simp only [wr, wl] at *; omega)) (show (0 : Int) ≤ (wr (i + 1)) from by first | with_reducible assumption | omega | (simp only [wr, wl] at *; omega)) (show ((wr (i + 1)) : Int) ≤ 24 from by first | with_reducible assumption | omega | (simp only [wr, wl] at *; omega)) (show (I rd 2) = N from by first | omega | (simp only [wr, wl] at *; omega)) (show (wr (i + 1)) ≤ N from by first | with_reducible assumption | omega | (simp only [wr, wl] at *; omega)) (show (wr (i + 1)) ≤ v0 + 1 from by first | with_reducible assumption | omega | (simp only [wr, wl] at *; omega)) (show i < (wr (i + 1)) from by first | with_reducible assumption | omega | (simp only [wr, wl] at *; omega)) (show (wl (s + vr11)) = (spnF S L (Int.toNat (wr (i + 1)))).1 ∧ i = (spnF S L (Int.toNat (wr (i + 1)))).2 from (by
                              have ks := spnF_go (S := S) (L := L) (k := Int.toNat i) cc108
                              rw [show Int.toNat (wr (i + 1)) = Int.toNat i + 1 from by omega]
                              first
                                | exact ks.1 (by omega)
                                | (have y := ks.2.1 (by omega) (by omega); exact ⟨by omega, by omega⟩)
                                | (have y := ks.2.2 (by omega) (by omega); exact ⟨by omega, by omega⟩))) (show (N - (wr (i + 1))).toNat < mz from by omega)
          ·
            have n16 : (wl (s + 0)) = s + 0 := wl_id (show -9223372036854775808 ≤ (s + 0 : Int) ∧ (s + 0 : Int) < 9223372036854775808 from by omega)
            have n17 : (wr (i + 1)) = i + 1 := wr_id (show -2147483648 ≤ (i + 1 : Int) ∧ (i + 1 : Int) < 2147483648 from by omega)
            exact ih (wl (s + 0)) i (wr (i + 1))  (show ((-1) : Int) ≤ i from by first | with_reducible assumption | omega | (simp only [wr, wl] at *; omega)) (show (i : Int) ≤ 23 from by first | with_reducible assumption | omega | (simp only [wr, wl] at *; omega)) (show (0 : Int) ≤ (wr (i + 1)) from by first | with_reducible assumption | omega | (simp only [wr, wl] at *; omega)) (show ((wr (i + 1)) : Int) ≤ 24 from by first | with_reducible assumption | omega | (simp only [wr, wl] at *; omega)) (show (I rd 2) = N from by first | omega | (simp only [wr, wl] at *; omega)) (show (wr (i + 1)) ≤ N from by first | with_reducible assumption | omega | (simp only [wr, wl] at *; omega)) (show (wr (i + 1)) ≤ v0 + 1 from by first | with_reducible assumption | omega | (simp only [wr, wl] at *; omega)) (show i < (wr (i + 1)) from by first | with_reducible assumption | omega | (simp only [wr, wl] at *; omega)) (show (wl (s + 0)) = (spnF S L (Int.toNat (wr (i + 1)))).1 ∧ i = (spnF S L (Int.toNat (wr (i + 1)))).2 from (by
                              have ks := spnF_go (S := S) (L := L) (k := Int.toNat i) cc108
                              rw [show Int.toNat (wr (i + 1)) = Int.toNat i + 1 from by omega]
                              first
                                | exact ks.1 (by omega)
                                | (have y := ks.2.1 (by omega) (by omega); exact ⟨by omega, by omega⟩)
                                | (have y := ks.2.2 (by omega) (by omega); exact ⟨by omega, by omega⟩))) (show (N - (wr (i + 1))).toNat < mz from by omega)
theorem c_spt11 (hF : FS F) (hR : Rg I) {v0 : Int} {rd : Nat} (hr : RP F rd) {S L : Nat → Int} {N : Int} (hq : RDS I rd S L N) (hv : -1 ≤ v0 ∧ v0 < N) (hQ : ∀ r : Int, lR r → (r = (spnF S L (Int.toNat (v0 + 1))).1 ∧ 0 ≤ r ∧ r ≤ 48960000000000) → Q (some (vl r)) F I) : CallN G (d + 2) kX6_spentUpTo [vr rd, vi v0] NP F I Q := by
  refine CallN_in (fun hok hA => CallN_out ?_)
  have iv0 : -2147483648 ≤ v0 ∧ v0 < 2147483648 := hok (vi v0) (by simp)
  have hN := hq.2.2.1
  refine Call_wp (lv := [some (vr rd), some (vi v0), none, none, none, none]) (by decide) ckX6_spentUpTo [8] rfl rfl ?_
  have z1 : (I rd 2) = N := hq.1
  have a2 : -2147483648 ≤ (I rd 2) ∧ (I rd 2) < 2147483648 := hA.1 _ _
  refine c_spt11_l hF hR hr hq hv (fun r g3 hv hA' => hQ _ (hv _ rfl) g3) _ 0 (-1) 0  (show ((-1) : Int) ≤ ((-1) : Int) from Int.le_refl _) (show (((-1) : Int) : Int) ≤ 23 from by first | with_reducible assumption | omega | (simp only [wr, wl] at *; omega)) (show (0 : Int) ≤ (0 : Int) from Int.le_refl _) (show ((0 : Int) : Int) ≤ 24 from by first | with_reducible assumption | omega | (simp only [wr, wl] at *; omega)) (show (I rd 2) = N from by first | omega | (simp only [wr, wl] at *; omega)) (show (0 : Int) ≤ N from by first | with_reducible assumption | omega | (simp only [wr, wl] at *; omega)) (show (0 : Int) ≤ v0 + 1 from by first | with_reducible assumption | omega | (simp only [wr, wl] at *; omega)) (show ((-1) : Int) < (0 : Int) from by first | with_reducible assumption | omega | (simp only [wr, wl] at *; omega)) (show (0 : Int) = (spnF S L (Int.toNat (0 : Int))).1 ∧ ((-1) : Int) = (spnF S L (Int.toNat (0 : Int))).2 from ⟨rfl, rfl⟩) (Nat.lt_succ_self _)
theorem r_spt11_l (hF : FS F) (hR : Rg I) {v0 v1 : Int} (hp : 0 ≤ v0 ∧ v0 ≤ 13) {S L : Nat → Int} {N : Int} (hq : RDM I (Int.toNat v0) S L N) (hv : -1 ≤ v1 ∧ v1 < N) (hQ : ∀ (r : Int) , (r = (spnF S L (Int.toNat (v1 + 1))).1 ∧ 0 ≤ r ∧ r ≤ 48960000000000) → Q (some (vl r)) F I) : ∀ (mz : Nat) (s a i : Int) , (((-1) : Int) ≤ a) → ((a : Int) ≤ 23) → ((0 : Int) ≤ i) → ((i : Int) ≤ 24) → (i ≤ N) → (i ≤ v1 + 1) → (a < i) → (s = (spnF S L (Int.toNat i)).1 ∧ a = (spnF S L (Int.toNat i)).2) → (N - i).toNat < mz → GoN G (d + 3) kX12_spentOf NP NP 8 [some (vr 235), some (vi v0), some (vi v1), some (vl s), none, some (vi a), some (vi i)] [] F I Q := by
  intro mz
  induction mz with
  | zero => intro s a i _ _ _ _ _ _ _ _ h; exact absurd h (Nat.not_lt_zero _)
  | succ mz ih =>
    intro s a i cc100 cc101 cc102 cc103 cc104 cc105 cc106 cc107 hm
    refine GoN_in (fun hok hA => ?_)
    have iiv0 : -2147483648 ≤ v0 ∧ v0 < 2147483648 := hok 1 _ rfl
    have iiv1 : -2147483648 ≤ v1 ∧ v1 < 2147483648 := hok 2 _ rfl
    have iis : -9223372036854775808 ≤ s ∧ s < 9223372036854775808 := hok 3 _ rfl
    have iia : -2147483648 ≤ a ∧ a < 2147483648 := hok 5 _ rfl
    have iii : -2147483648 ≤ i ∧ i < 2147483648 := hok 6 _ rfl
    have hN := hq.2.2.1
    have sb := spnF_b (S := S) (L := L) hq.2.2.2.1 hq.2.2.2.2 (Int.toNat i)
    rw [← (cc107).1, ← (cc107).2] at sb
    refine Go_wp (by decide) ckX12_spentOf [8] ?_
    refine ⟨fun (c1 : ((v1 : Int) < i)) => ?_, fun (c1 : (¬ ((v1 : Int) < i))) => ?_⟩
    ·
      exact ⟨rfl, hQ _ ((by
                              rw [show Int.toNat (v1 + 1) = Int.toNat i from by omega]
                              exact ⟨(cc107).1, by omega, by omega⟩))⟩
    ·
      refine ⟨⟨_, rfl, (by decide)⟩, ?_⟩
      refine r_gd11 (v0 := v0) (v1 := i) hF hR (by omega) hq (by omega) (fun vr2 hr3 qr4 => ?_)
      have hr3 : -2147483648 ≤ vr2 ∧ vr2 < 2147483648 := hr3
      refine ⟨fun (c5 : ((vr2 : Int) = 0)) => ?_, fun (c5 : (¬ ((vr2 : Int) = 0))) => ?_⟩
      ·
        have n6 : (wr (i + 1)) = i + 1 := wr_id (show -2147483648 ≤ (i + 1 : Int) ∧ (i + 1 : Int) < 2147483648 from by omega)
        exact ih s a (wr (i + 1))  (show ((-1) : Int) ≤ a from by first | with_reducible assumption | omega | (simp only [wr, wl] at *; omega)) (show (a : Int) ≤ 23 from by first | with_reducible assumption | omega | (simp only [wr, wl] at *; omega)) (show (0 : Int) ≤ (wr (i + 1)) from by first | with_reducible assumption | omega | (simp only [wr, wl] at *; omega)) (show ((wr (i + 1)) : Int) ≤ 24 from by first | with_reducible assumption | omega | (simp only [wr, wl] at *; omega)) (show (wr (i + 1)) ≤ N from by first | with_reducible assumption | omega | (simp only [wr, wl] at *; omega)) (show (wr (i + 1)) ≤ v1 + 1 from by first | with_reducible assumption | omega | (simp only [wr, wl] at *; omega)) (show a < (wr (i + 1)) from by first | with_reducible assumption | omega | (simp only [wr, wl] at *; omega)) (show s = (spnF S L (Int.toNat (wr (i + 1)))).1 ∧ a = (spnF S L (Int.toNat (wr (i + 1)))).2 from (by
                              have ks := spnF_go (S := S) (L := L) (k := Int.toNat i) cc107
                              rw [show Int.toNat (wr (i + 1)) = Int.toNat i + 1 from by omega]
                              first
                                | exact ks.1 (by omega)
                                | (have y := ks.2.1 (by omega) (by omega); exact ⟨by omega, by omega⟩)
                                | (have y := ks.2.2 (by omega) (by omega); exact ⟨by omega, by omega⟩))) (show (N - (wr (i + 1))).toNat < mz from by omega)
      ·
        refine ⟨fun (c7 : ((0 : Int) ≤ a)) => ?_, fun (c7 : (¬ ((0 : Int) ≤ a))) => ?_⟩
        ·
          refine ⟨⟨_, rfl, (by decide)⟩, ?_⟩
          refine r_ld11 (v0 := v0) (v1 := a) hF hR (by omega) hq (by omega) (fun vr8 hr9 qr10 => ?_)
          have hr9 : -2147483648 ≤ vr8 ∧ vr8 < 2147483648 := hr9
          have b11 : (-200000 : Int) ≤ vr8 ∧ vr8 ≤ 200000 := by rw [qr10]; exact hq.2.2.2.2 _
          refine ⟨⟨_, rfl, (by decide)⟩, ?_⟩
          refine r_ld11 (v0 := v0) (v1 := i) hF hR (by omega) hq (by omega) (fun vr12 hr13 qr14 => ?_)
          have hr13 : -2147483648 ≤ vr12 ∧ vr12 < 2147483648 := hr13
          have b15 : (-200000 : Int) ≤ vr12 ∧ vr12 ≤ 200000 := by rw [qr14]; exact hq.2.2.2.2 _
          refine ⟨⟨_, rfl, (by decide)⟩, ?_⟩
          refine r_st11 (v0 := v0) (v1 := i) hF hR (by omega) hq (by omega) (fun vr16 hr17 qr18 => ?_)
          have hr17 : -2147483648 ≤ vr16 ∧ vr16 < 2147483648 := hr17
          have b19 : (0 : Int) ≤ vr16 ∧ vr16 ≤ 5100000 := by rw [qr18]; exact hq.2.2.2.1 _
          refine ⟨⟨_, rfl, (by decide)⟩, ?_⟩
          refine r_st11 (v0 := v0) (v1 := a) hF hR (by omega) hq (by omega) (fun vr20 hr21 qr22 => ?_)
          have hr21 : -2147483648 ≤ vr20 ∧ vr20 < 2147483648 := hr21
          have b23 : (0 : Int) ≤ vr20 ∧ vr20 ≤ 5100000 := by rw [qr22]; exact hq.2.2.2.1 _
          have n24 : (wr (vr16 - vr20)) = vr16 - vr20 := wr_id (show -2147483648 ≤ (vr16 - vr20 : Int) ∧ (vr16 - vr20 : Int) < 2147483648 from by omega)
          refine j_max (fun w25 h26 h27 h28 => ?_)
          have n29 : (wl (vr8 + vr12)) = vr8 + vr12 := wl_id (show -9223372036854775808 ≤ (vr8 + vr12 : Int) ∧ (vr8 + vr12 : Int) < 9223372036854775808 from by omega)
          have p30 := spl (S := S) (L := L) (a := Int.toNat a) (k := Int.toNat i) (w := w25) (g := (wl (vr8 + vr12))) hq.2.2.2.1 hq.2.2.2.2 (by omega) (by omega) (by omega) (by omega)
          have n31 : (wl (s + (wl ((wl (vr8 + vr12)) * w25)))) = s + (wl ((wl (vr8 + vr12)) * w25)) := wl_id (show -9223372036854775808 ≤ (s + (wl ((wl (vr8 + vr12)) * w25)) : Int) ∧ (s + (wl ((wl (vr8 + vr12)) * w25)) : Int) < 9223372036854775808 from by omega)
          have n32 : (wr (i + 1)) = i + 1 := wr_id (show -2147483648 ≤ (i + 1 : Int) ∧ (i + 1 : Int) < 2147483648 from by omega)
          exact ih (wl (s + (wl ((wl (vr8 + vr12)) * w25)))) i (wr (i + 1))  (show ((-1) : Int) ≤ i from by first | with_reducible assumption | omega | (simp only [wr, wl] at *; omega)) (show (i : Int) ≤ 23 from by first | with_reducible assumption | omega | (simp only [wr, wl] at *; omega)) (show (0 : Int) ≤ (wr (i + 1)) from by first | with_reducible assumption | omega | (simp only [wr, wl] at *; omega)) (show ((wr (i + 1)) : Int) ≤ 24 from by first | with_reducible assumption | omega | (simp only [wr, wl] at *; omega)) (show (wr (i + 1)) ≤ N from by first | with_reducible assumption | omega | (simp only [wr, wl] at *; omega)) (show (wr (i + 1)) ≤ v1 + 1 from by first | with_reducible assumption | omega | (simp only [wr, wl] at *; omega)) (show i < (wr (i + 1)) from by first | with_reducible assumption | omega | (simp only [wr, wl] at *; omega)) (show (wl (s + (wl ((wl (vr8 + vr12)) * w25)))) = (spnF S L (Int.toNat (wr (i + 1)))).1 ∧ i = (spnF S L (Int.toNat (wr (i + 1)))).2 from (by
                              have ks := spnF_go (S := S) (L := L) (k := Int.toNat i) cc107
                              rw [show Int.toNat (wr (i + 1)) = Int.toNat i + 1 from by omega]
                              first
                                | exact ks.1 (by omega)
                                | (have y := ks.2.1 (by omega) (by omega); exact ⟨by omega, by omega⟩)
                                | (have y := ks.2.2 (by omega) (by omega); exact ⟨by omega, by omega⟩))) (show (N - (wr (i + 1))).toNat < mz from by omega)
        ·
          have n33 : (wl (s + 0)) = s + 0 := wl_id (show -9223372036854775808 ≤ (s + 0 : Int) ∧ (s + 0 : Int) < 9223372036854775808 from by omega)
          have n34 : (wr (i + 1)) = i + 1 := wr_id (show -2147483648 ≤ (i + 1 : Int) ∧ (i + 1 : Int) < 2147483648 from by omega)
          exact ih (wl (s + 0)) i (wr (i + 1))  (show ((-1) : Int) ≤ i from by first | with_reducible assumption | omega | (simp only [wr, wl] at *; omega)) (show (i : Int) ≤ 23 from by first | with_reducible assumption | omega | (simp only [wr, wl] at *; omega)) (show (0 : Int) ≤ (wr (i + 1)) from by first | with_reducible assumption | omega | (simp only [wr, wl] at *; omega)) (show ((wr (i + 1)) : Int) ≤ 24 from by first | with_reducible assumption | omega | (simp only [wr, wl] at *; omega)) (show (wr (i + 1)) ≤ N from by first | with_reducible assumption | omega | (simp only [wr, wl] at *; omega)) (show (wr (i + 1)) ≤ v1 + 1 from by first | with_reducible assumption | omega | (simp only [wr, wl] at *; omega)) (show i < (wr (i + 1)) from by first | with_reducible assumption | omega | (simp only [wr, wl] at *; omega)) (show (wl (s + 0)) = (spnF S L (Int.toNat (wr (i + 1)))).1 ∧ i = (spnF S L (Int.toNat (wr (i + 1)))).2 from (by
                              have ks := spnF_go (S := S) (L := L) (k := Int.toNat i) cc107
                              rw [show Int.toNat (wr (i + 1)) = Int.toNat i + 1 from by omega]
                              first
                                | exact ks.1 (by omega)
                                | (have y := ks.2.1 (by omega) (by omega); exact ⟨by omega, by omega⟩)
                                | (have y := ks.2.2 (by omega) (by omega); exact ⟨by omega, by omega⟩))) (show (N - (wr (i + 1))).toNat < mz from by omega)
theorem r_spt11 (hF : FS F) (hR : Rg I) {v0 v1 : Int} (hp : 0 ≤ v0 ∧ v0 ≤ 13) {S L : Nat → Int} {N : Int} (hq : RDM I (Int.toNat v0) S L N) (hv : -1 ≤ v1 ∧ v1 < N) (hQ : ∀ r : Int, lR r → (r = (spnF S L (Int.toNat (v1 + 1))).1 ∧ 0 ≤ r ∧ r ≤ 48960000000000) → Q (some (vl r)) F I) : CallN G (d + 3) kX12_spentOf [vr 235, vi v0, vi v1] NP F I Q := by
  refine CallN_in (fun hok hA => CallN_out ?_)
  have iv0 : -2147483648 ≤ v0 ∧ v0 < 2147483648 := hok (vi v0) (by simp)
  have iv1 : -2147483648 ≤ v1 ∧ v1 < 2147483648 := hok (vi v1) (by simp)
  have hN := hq.2.2.1
  refine Call_wp (lv := [some (vr 235), some (vi v0), some (vi v1), none, none, none, none]) (by decide) ckX12_spentOf [8] rfl rfl ?_
  refine r_spt11_l hF hR hp hq hv (fun r g3 hv hA' => hQ _ (hv _ rfl) g3) _ 0 (-1) 0  (show ((-1) : Int) ≤ ((-1) : Int) from Int.le_refl _) (show (((-1) : Int) : Int) ≤ 23 from by first | with_reducible assumption | omega | (simp only [wr, wl] at *; omega)) (show (0 : Int) ≤ (0 : Int) from Int.le_refl _) (show ((0 : Int) : Int) ≤ 24 from by first | with_reducible assumption | omega | (simp only [wr, wl] at *; omega)) (show (0 : Int) ≤ N from by first | with_reducible assumption | omega | (simp only [wr, wl] at *; omega)) (show (0 : Int) ≤ v1 + 1 from by first | with_reducible assumption | omega | (simp only [wr, wl] at *; omega)) (show ((-1) : Int) < (0 : Int) from by first | with_reducible assumption | omega | (simp only [wr, wl] at *; omega)) (show (0 : Int) = (spnF S L (Int.toNat (0 : Int))).1 ∧ ((-1) : Int) = (spnF S L (Int.toNat (0 : Int))).2 from ⟨rfl, rfl⟩) (Nat.lt_succ_self _)
end SP11
