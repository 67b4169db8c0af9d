/-! what breaks answers. Own work (scripts laid by wip/pm/gen34.py). -/
section BK11
variable {G : pG} {d : Nat} {F : pF} {I : pI} {Q : Option pV → pF → pI → Prop}
theorem prod_r {a b : Int} (ha : -200000 ≤ a ∧ a ≤ 200000) (hb : 0 ≤ b ∧ b ≤ 100) : -20000000 ≤ a * b ∧ a * b ≤ 20000000 := by
  have h1 := Int.mul_le_mul_of_nonneg_right ha.2 hb.1
  have h2 := Int.mul_le_mul_of_nonneg_right ha.1 hb.1
  omega
theorem wlp {x a g f : Int} (hx : x = a) (hg : g = 100 - f) (ha : -200000 ≤ a ∧ a ≤ 200000) (hf : 0 ≤ f ∧ f ≤ 100) : wl (x * g) = a * (100 - f) := by
  rw [hx, hg]
  have p := prod_r (a := a) (b := 100 - f) ha (by omega)
  exact wl_id (by unfold lR; omega)
/-- where it breaks -/
def bkF (L : Nat → Int) (n : Nat) (f : Int) : Int := if tpF L n < 0 then -1 else brF L (L (Int.toNat (tpF L n))) f (n - (Int.toNat (tpF L n) + 1)) (Int.toNat (tpF L n) + 1)
theorem bkF_n {L : Nat → Int} {n : Nat} {f : Int} (h : tpF L n < 0) : bkF L n f = -1 := if_pos h
theorem bkF_y {L : Nat → Int} {n : Nat} {f b : Int} (e : b = tpF L n) (h : ¬ b < 0) : brF L (L (Int.toNat b)) f (n - (Int.toNat b + 1)) (Int.toNat b + 1) = bkF L n f := by
  subst e; exact (if_neg h).symm
theorem brF_b {L : Nat → Int} {t f : Int} : ∀ m k : Nat, -1 ≤ brF L t f m k ∧ brF L t f m k < k + m := by
  intro m
  induction m with
  | zero => intro k; exact ⟨by show (-1 : Int) ≤ -1; omega, by show (-1 : Int) < (k : Int) + ((0 : Nat) : Int); omega⟩
  | succ m ih =>
    intro k
    unfold brF
    by_cases c : 0 ≤ L k ∧ L k * 100 < t * (100 - f)
    · rw [if_pos c]; omega
    · rw [if_neg c]; have := ih (k + 1); omega
theorem bkF_b {L : Nat → Int} {n : Nat} {f : Int} : -1 ≤ bkF L n f ∧ bkF L n f < n := by
  have tb := tpF_b (L := L) n
  unfold bkF
  by_cases c : tpF L n < 0
  · rw [if_pos c]; omega
  · rw [if_neg c]
    have := brF_b (L := L) (t := L (Int.toNat (tpF L n))) (f := f) (n - (Int.toNat (tpF L n) + 1)) (Int.toNat (tpF L n) + 1)
    omega
theorem c_brk11_l (hF : FS F) (hR : Rg I) {v0 : Int} {rd : Nat} (hr : RP F rd) {S L : Nat → Int} {N : Int} (hq : RDS I rd S L N) (hv : 0 ≤ v0 ∧ v0 ≤ 100) (hQ : ∀ (r : Int) , (r = bkF L (Int.toNat N) v0) → Q (some (vi r)) F I) : ∀ (mz : Nat) (b i : Int) , ((0 : Int) ≤ b) → ((b : Int) ≤ 23) → ((1 : Int) ≤ i) → ((i : Int) ≤ 24) → ((I rd 2) = N) → (i ≤ N) → (b < i) → (b = tpF L (Int.toNat N)) → (brF L (L (Int.toNat b)) v0 (Int.toNat (N - i)) (Int.toNat i) = bkF L (Int.toNat N) v0) → (N - i).toNat < mz → GoN G (d + 2) kX6_breakAt NP NP 15 [some (vr rd), some (vi v0), some (vi b), some (vi i)] [] F I Q := by
  intro mz
  induction mz with
  | zero => intro b i _ _ _ _ _ _ _ _ _ h; exact absurd h (Nat.not_lt_zero _)
  | succ mz ih =>
    intro b i cc100 cc101 cc102 cc103 cc104 cc105 cc106 cc107 cc108 hm
    refine GoN_in (fun hok hA => ?_)
    have iiv0 : -2147483648 ≤ v0 ∧ v0 < 2147483648 := hok 1 _ rfl
    have iib : -2147483648 ≤ b ∧ b < 2147483648 := hok 2 _ rfl
    have iii : -2147483648 ≤ i ∧ i < 2147483648 := hok 3 _ rfl
    have hN := hq.2.2.1
    have z1 : (I rd 2) = N := hq.1
    have a2 : -2147483648 ≤ (I rd 2) ∧ (I rd 2) < 2147483648 := hA.1 _ _
    refine Go_wp (by decide) ckX6_breakAt [15] ?_
    refine ⟨_, hr.1.1, (by have := hr.2; show _ < 254; omega), ?_⟩
    refine ⟨fun (c3 : (((I rd 2) : Int) ≤ i)) => ?_, fun (c3 : (¬ (((I rd 2) : Int) ≤ i))) => ?_⟩
    ·
      exact ⟨rfl, hQ _ ((by
                              have h := cc108
                              rw [show Int.toNat (N - i) = 0 from by omega] at h
                              exact h))⟩
    ·
      refine ⟨⟨_, hr.1.1, (by have := hr.2; show _ < 254; omega)⟩, ?_⟩
      refine c_gd11 (v0 := i) hF hR hr hq (by omega) (fun vr4 hr5 qr6 => ?_)
      have hr5 : -2147483648 ≤ vr4 ∧ vr4 < 2147483648 := hr5
      refine ⟨fun (c7 : ((vr4 : Int) = 0)) => ?_, fun (c7 : (¬ ((vr4 : Int) = 0))) => ?_⟩
      ·
        have n8 : (wr (i + 1)) = i + 1 := wr_id (show -2147483648 ≤ (i + 1 : Int) ∧ (i + 1 : Int) < 2147483648 from by omega)
        exact ih b (wr (i + 1))  (show (0 : Int) ≤ b from by first | with_reducible assumption | omega | (simp only [wr, wl] at *; omega)) (show (b : Int) ≤ 23 from by first | with_reducible assumption | omega | (simp only [wr, wl] at *; omega)) (show (1 : Int) ≤ (wr (i + 1)) from by first | with_reducible assumption | omega | (simp only [wr, wl] at *; omega)) (show ((wr (i + 1)) : Int) ≤ 24 from by first | with_reducible assumption | omega | (simp only [wr, wl] at *; omega)) (show (I rd 2) = N from by first | omega | (simp only [wr, wl] at *; omega)) (show (wr (i + 1)) ≤ N from by first | with_reducible assumption | omega | (simp only [wr, wl] at *; omega)) (show b < (wr (i + 1)) from by first | with_reducible assumption | omega | (simp only [wr, wl] at *; omega)) (show b = tpF L (Int.toNat N) from cc107) (show brF L (L (Int.toNat b)) v0 (Int.toNat (N - (wr (i + 1)))) (Int.toNat (wr (i + 1))) = bkF L (Int.toNat N) v0 from (by
                              have h := cc108
                              have ks := brF_s (L := L) (t := L (Int.toNat b)) (f := v0) (m := Int.toNat (N - (i + 1))) (k := Int.toNat i)
                              rw [show Int.toNat (N - i) = Int.toNat (N - (i + 1)) + 1 from by omega, ks.2 (fun q => by omega), show i + 1 = (wr (i + 1)) from by omega, show Int.toNat i + 1 = Int.toNat (wr (i + 1)) from by omega] at h
                              exact h)) (show (N - (wr (i + 1))).toNat < mz from by omega)
      ·
        refine ⟨⟨_, hr.1.1, (by have := hr.2; show _ < 254; omega)⟩, ?_⟩
        refine c_ld11 (v0 := i) hF hR hr hq (by omega) (fun vr9 hr10 qr11 => ?_)
        have hr10 : -2147483648 ≤ vr9 ∧ vr9 < 2147483648 := hr10
        have b12 : (-200000 : Int) ≤ vr9 ∧ vr9 ≤ 200000 := by rw [qr11]; exact hq.2.2.2.2 _
        refine ⟨⟨_, hr.1.1, (by have := hr.2; show _ < 254; omega)⟩, ?_⟩
        refine c_ld11 (v0 := b) hF hR hr hq (by omega) (fun vr13 hr14 qr15 => ?_)
        have hr14 : -2147483648 ≤ vr13 ∧ vr13 < 2147483648 := hr14
        have b16 : (-200000 : Int) ≤ vr13 ∧ vr13 ≤ 200000 := by rw [qr15]; exact hq.2.2.2.2 _
        have n17 : (wl (vr9 * 100)) = vr9 * 100 := wl_id (show -9223372036854775808 ≤ (vr9 * 100 : Int) ∧ (vr9 * 100 : Int) < 9223372036854775808 from by omega)
        have n18 : (wl (100 - v0)) = 100 - v0 := wl_id (show -9223372036854775808 ≤ (100 - v0 : Int) ∧ (100 - v0 : Int) < 9223372036854775808 from by omega)
        have p19 : (wl (vr13 * (wl (100 - v0)))) = L (Int.toNat b) * (100 - v0) := wlp (by omega) (by omega) (hq.2.2.2.2 _) (by omega)
        refine ⟨fun c20 => ?_, fun c20 => ?_⟩
        ·
          have c20 : (((wl (vr13 * (wl (100 - v0)))) : Int) ≤ (wl (vr9 * 100))) := lcm_ge.1 c20
          have n21 : (wr (i + 1)) = i + 1 := wr_id (show -2147483648 ≤ (i + 1 : Int) ∧ (i + 1 : Int) < 2147483648 from by omega)
          exact ih b (wr (i + 1))  (show (0 : Int) ≤ b from by first | with_reducible assumption | omega | (simp only [wr, wl] at *; omega)) (show (b : Int) ≤ 23 from by first | with_reducible assumption | omega | (simp only [wr, wl] at *; omega)) (show (1 : Int) ≤ (wr (i + 1)) from by first | with_reducible assumption | omega | (simp only [wr, wl] at *; omega)) (show ((wr (i + 1)) : Int) ≤ 24 from by first | with_reducible assumption | omega | (simp only [wr, wl] at *; omega)) (show (I rd 2) = N from by first | omega | (simp only [wr, wl] at *; omega)) (show (wr (i + 1)) ≤ N from by first | with_reducible assumption | omega | (simp only [wr, wl] at *; omega)) (show b < (wr (i + 1)) from by first | with_reducible assumption | omega | (simp only [wr, wl] at *; omega)) (show b = tpF L (Int.toNat N) from cc107) (show brF L (L (Int.toNat b)) v0 (Int.toNat (N - (wr (i + 1)))) (Int.toNat (wr (i + 1))) = bkF L (Int.toNat N) v0 from (by
                              have h := cc108
                              have ks := brF_s (L := L) (t := L (Int.toNat b)) (f := v0) (m := Int.toNat (N - (i + 1))) (k := Int.toNat i)
                              rw [show Int.toNat (N - i) = Int.toNat (N - (i + 1)) + 1 from by omega, ks.2 (fun q => by omega), show i + 1 = (wr (i + 1)) from by omega, show Int.toNat i + 1 = Int.toNat (wr (i + 1)) from by omega] at h
                              exact h)) (show (N - (wr (i + 1))).toNat < mz from by omega)
        ·
          have c20 : (¬ (((wl (vr13 * (wl (100 - v0)))) : Int) ≤ (wl (vr9 * 100)))) := fun e => c20 (lcm_ge.2 e)
          exact ⟨rfl, hQ _ ((by
                              have h := cc108
                              have ks := brF_s (L := L) (t := L (Int.toNat b)) (f := v0) (m := Int.toNat (N - (i + 1))) (k := Int.toNat i)
                              rw [show Int.toNat (N - i) = Int.toNat (N - (i + 1)) + 1 from by omega, ks.1 ⟨by omega, by omega⟩] at h
                              omega))⟩
theorem c_brk11 (hF : FS F) (hR : Rg I) {v0 : Int} {rd : Nat} (hr : RP F rd) {S L : Nat → Int} {N : Int} (hq : RDS I rd S L N) (hv : 0 ≤ v0 ∧ v0 ≤ 100) (hQ : ∀ r : Int, iR r → (r = bkF L (Int.toNat N) v0) → Q (some (vi r)) F I) : CallN G (d + 3) kX6_breakAt [vr rd, vi v0] NP F I Q := by
  refine CallN_in (fun hok hA => CallN_out ?_)
  have iv0 : -2147483648 ≤ v0 ∧ v0 < 2147483648 := hok (vi v0) (by simp)
  have hN := hq.2.2.1
  refine Call_wp (lv := [some (vr rd), some (vi v0), none, none]) (by decide) ckX6_breakAt [15] rfl rfl ?_
  refine ⟨⟨_, hr.1.1, (by have := hr.2; show _ < 254; omega)⟩, ?_⟩
  refine c_tops11  hF hR hr hq (fun vr1 hr2 qr3 => ?_)
  have hr2 : -2147483648 ≤ vr1 ∧ vr1 < 2147483648 := hr2
  have tb := tpF_b (L := L) (Int.toNat N)
  rw [← qr3] at tb
  refine ⟨fun (c4 : ((0 : Int) ≤ vr1)) => ?_, fun (c4 : (¬ ((0 : Int) ≤ vr1))) => ?_⟩
  ·
    have n5 : (wr (vr1 + 1)) = vr1 + 1 := wr_id (show -2147483648 ≤ (vr1 + 1 : Int) ∧ (vr1 + 1 : Int) < 2147483648 from by omega)
    have z6 : (I rd 2) = N := hq.1
    have a7 : -2147483648 ≤ (I rd 2) ∧ (I rd 2) < 2147483648 := hA.1 _ _
    refine c_brk11_l hF hR hr hq hv (fun r g3 hv hA' => hQ _ (hv _ rfl) g3) _ vr1 (wr (vr1 + 1))  (show (0 : Int) ≤ vr1 from by first | with_reducible assumption | omega | (simp only [wr, wl] at *; omega)) (show (vr1 : Int) ≤ 23 from by first | with_reducible assumption | omega | (simp only [wr, wl] at *; omega)) (show (1 : Int) ≤ (wr (vr1 + 1)) from by first | with_reducible assumption | omega | (simp only [wr, wl] at *; omega)) (show ((wr (vr1 + 1)) : Int) ≤ 24 from by first | with_reducible assumption | omega | (simp only [wr, wl] at *; omega)) (show (I rd 2) = N from by first | omega | (simp only [wr, wl] at *; omega)) (show (wr (vr1 + 1)) ≤ N from by first | with_reducible assumption | omega | (simp only [wr, wl] at *; omega)) (show vr1 < (wr (vr1 + 1)) from by first | with_reducible assumption | omega | (simp only [wr, wl] at *; omega)) (show vr1 = tpF L (Int.toNat N) from qr3) (show brF L (L (Int.toNat vr1)) v0 (Int.toNat (N - (wr (vr1 + 1)))) (Int.toNat (wr (vr1 + 1))) = bkF L (Int.toNat N) v0 from (by
                              have y := bkF_y (L := L) (n := Int.toNat N) (f := v0) qr3 (by omega)
                              rw [show Int.toNat N - (Int.toNat vr1 + 1) = Int.toNat (N - (wr (vr1 + 1))) from by omega, show Int.toNat vr1 + 1 = Int.toNat (wr (vr1 + 1)) from by omega] at y
                              exact y)) (Nat.lt_succ_self _)
  ·
    exact ⟨rfl, fun hv hA' => hQ _ (hv _ rfl) ((by
                              have q := bkF_n (L := L) (n := Int.toNat N) (f := v0) (by rw [← qr3]; omega)
                              exact q.symm))⟩
theorem r_brk11_l (hF : FS F) (hR : Rg I) {v0 v1 : Int} (hp : 0 ≤ v0 ∧ v0 ≤ 13) {S L : Nat → Int} {N : Int} (hq : RDM I (Int.toNat v0) S L N) (hv : 0 ≤ v1 ∧ v1 ≤ 100) (hQ : ∀ (r : Int) , (r = bkF L (Int.toNat N) v1) → Q (some (vi r)) F I) : ∀ (mz : Nat) (t i : Int) , (((-1) : Int) ≤ t) → ((t : Int) ≤ 23) → ((0 : Int) ≤ i) → ((i : Int) ≤ 24) → (i ≤ N) → (t < i) → (t = tpF L (Int.toNat N)) → (0 ≤ t → brF L (L (Int.toNat t)) v1 (Int.toNat (N - i)) (Int.toNat i) = bkF L (Int.toNat N) v1) → (N - i).toNat < mz → GoN G (d + 3) kX12_breakOf NP NP 11 [some (vr 235), some (vi v0), some (vi v1), some (vi t), some (vi i)] [] F I Q := by
  intro mz
  induction mz with
  | zero => intro t i _ _ _ _ _ _ _ _ h; exact absurd h (Nat.not_lt_zero _)
  | succ mz ih =>
    intro t i cc100 cc101 cc102 cc103 cc104 cc105 cc106 cc107 hm
    refine GoN_in (fun hok hA => ?_)
    have iiv0 : -2147483648 ≤ v0 ∧ v0 < 2147483648 := hok 1 _ rfl
    have iiv1 : -2147483648 ≤ v1 ∧ v1 < 2147483648 := hok 2 _ rfl
    have iit : -2147483648 ≤ t ∧ t < 2147483648 := hok 3 _ rfl
    have iii : -2147483648 ≤ i ∧ i < 2147483648 := hok 4 _ rfl
    have hN := hq.2.2.1
    refine Go_wp (by decide) ckX12_breakOf [11] ?_
    refine ⟨⟨_, rfl, (by decide)⟩, ?_⟩
    refine r_many11 (v0 := v0) hF hR (by omega) hq (fun vr1 hr2 qr3 => ?_)
    have hr2 : -2147483648 ≤ vr1 ∧ vr1 < 2147483648 := hr2
    refine ⟨fun (c4 : ((vr1 : Int) ≤ i)) => ?_, fun (c4 : (¬ ((vr1 : Int) ≤ i))) => ?_⟩
    ·
      exact ⟨rfl, hQ _ ((by
                              by_cases q : t < 0
                              · exact (bkF_n (by rw [← cc106]; exact q)).symm
                              · first
                                | exact absurd (by omega) q
                                | (have h := cc107 (by omega); rw [show Int.toNat (N - i) = 0 from by omega] at h; exact h)))⟩
    ·
      refine ⟨fun (c5 : ((t : Int) < 0)) => ?_, fun (c5 : (¬ ((t : Int) < 0))) => ?_⟩
      ·
        exact ⟨rfl, hQ _ ((by
                              by_cases q : t < 0
                              · exact (bkF_n (by rw [← cc106]; exact q)).symm
                              · first
                                | exact absurd (by omega) q
                                | (have h := cc107 (by omega); rw [show Int.toNat (N - i) = 0 from by omega] at h; exact h)))⟩
      ·
        refine ⟨⟨_, rfl, (by decide)⟩, ?_⟩
        refine r_gd11 (v0 := v0) (v1 := i) hF hR (by omega) hq (by omega) (fun vr6 hr7 qr8 => ?_)
        have hr7 : -2147483648 ≤ vr6 ∧ vr6 < 2147483648 := hr7
        refine ⟨fun (c9 : ((vr6 : Int) = 0)) => ?_, fun (c9 : (¬ ((vr6 : Int) = 0))) => ?_⟩
        ·
          have n10 : (wr (i + 1)) = i + 1 := wr_id (show -2147483648 ≤ (i + 1 : Int) ∧ (i + 1 : Int) < 2147483648 from by omega)
          exact ih t (wr (i + 1))  (show ((-1) : Int) ≤ t from by first | with_reducible assumption | omega | (simp only [wr, wl] at *; omega)) (show (t : Int) ≤ 23 from by first | with_reducible assumption | omega | (simp only [wr, wl] at *; omega)) (show (0 : Int) ≤ (wr (i + 1)) from by first | with_reducible assumption | omega | (simp only [wr, wl] at *; omega)) (show ((wr (i + 1)) : Int) ≤ 24 from by first | with_reducible assumption | omega | (simp only [wr, wl] at *; omega)) (show (wr (i + 1)) ≤ N from by first | with_reducible assumption | omega | (simp only [wr, wl] at *; omega)) (show t < (wr (i + 1)) from by first | with_reducible assumption | omega | (simp only [wr, wl] at *; omega)) (show t = tpF L (Int.toNat N) from cc106) (show 0 ≤ t → brF L (L (Int.toNat t)) v1 (Int.toNat (N - (wr (i + 1)))) (Int.toNat (wr (i + 1))) = bkF L (Int.toNat N) v1 from (by
                              intro p0
                              have h := cc107 (by omega)
                              have ks := brF_s (L := L) (t := L (Int.toNat t)) (f := v1) (m := Int.toNat (N - (i + 1))) (k := Int.toNat i)
                              rw [show Int.toNat (N - i) = Int.toNat (N - (i + 1)) + 1 from by omega, ks.2 (fun q => by omega), show i + 1 = (wr (i + 1)) from by omega, show Int.toNat i + 1 = Int.toNat (wr (i + 1)) from by omega] at h
                              exact h)) (show (N - (wr (i + 1))).toNat < mz from by omega)
        ·
          refine ⟨⟨_, rfl, (by decide)⟩, ?_⟩
          refine r_ld11 (v0 := v0) (v1 := i) hF hR (by omega) hq (by omega) (fun vr11 hr12 qr13 => ?_)
          have hr12 : -2147483648 ≤ vr11 ∧ vr11 < 2147483648 := hr12
          have b14 : (-200000 : Int) ≤ vr11 ∧ vr11 ≤ 200000 := by rw [qr13]; exact hq.2.2.2.2 _
          refine ⟨⟨_, rfl, (by decide)⟩, ?_⟩
          refine r_ld11 (v0 := v0) (v1 := t) hF hR (by omega) hq (by omega) (fun vr15 hr16 qr17 => ?_)
          have hr16 : -2147483648 ≤ vr15 ∧ vr15 < 2147483648 := hr16
          have b18 : (-200000 : Int) ≤ vr15 ∧ vr15 ≤ 200000 := by rw [qr17]; exact hq.2.2.2.2 _
          have n19 : (wl (100 * vr11)) = 100 * vr11 := wl_id (show -9223372036854775808 ≤ (100 * vr11 : Int) ∧ (100 * vr11 : Int) < 9223372036854775808 from by omega)
          have n20 : (wr (100 - v1)) = 100 - v1 := wr_id (show -2147483648 ≤ (100 - v1 : Int) ∧ (100 - v1 : Int) < 2147483648 from by omega)
          have p21 : (wl (vr15 * (wr (100 - v1)))) = L (Int.toNat t) * (100 - v1) := wlp (by omega) (by omega) (hq.2.2.2.2 _) (by omega)
          refine ⟨fun c22 => ?_, fun c22 => ?_⟩
          ·
            have c22 : (((wl (vr15 * (wr (100 - v1)))) : Int) ≤ (wl (100 * vr11))) := lcm_ge.1 c22
            have n23 : (wr (i + 1)) = i + 1 := wr_id (show -2147483648 ≤ (i + 1 : Int) ∧ (i + 1 : Int) < 2147483648 from by omega)
            exact ih t (wr (i + 1))  (show ((-1) : Int) ≤ t from by first | with_reducible assumption | omega | (simp only [wr, wl] at *; omega)) (show (t : Int) ≤ 23 from by first | with_reducible assumption | omega | (simp only [wr, wl] at *; omega)) (show (0 : Int) ≤ (wr (i + 1)) from by first | with_reducible assumption | omega | (simp only [wr, wl] at *; omega)) (show ((wr (i + 1)) : Int) ≤ 24 from by first | with_reducible assumption | omega | (simp only [wr, wl] at *; omega)) (show (wr (i + 1)) ≤ N from by first | with_reducible assumption | omega | (simp only [wr, wl] at *; omega)) (show t < (wr (i + 1)) from by first | with_reducible assumption | omega | (simp only [wr, wl] at *; omega)) (show t = tpF L (Int.toNat N) from cc106) (show 0 ≤ t → brF L (L (Int.toNat t)) v1 (Int.toNat (N - (wr (i + 1)))) (Int.toNat (wr (i + 1))) = bkF L (Int.toNat N) v1 from (by
                              intro p0
                              have h := cc107 (by omega)
                              have ks := brF_s (L := L) (t := L (Int.toNat t)) (f := v1) (m := Int.toNat (N - (i + 1))) (k := Int.toNat i)
                              rw [show Int.toNat (N - i) = Int.toNat (N - (i + 1)) + 1 from by omega, ks.2 (fun q => by omega), show i + 1 = (wr (i + 1)) from by omega, show Int.toNat i + 1 = Int.toNat (wr (i + 1)) from by omega] at h
                              exact h)) (show (N - (wr (i + 1))).toNat < mz from by omega)
          ·
            have c22 : (¬ (((wl (vr15 * (wr (100 - v1)))) : Int) ≤ (wl (100 * vr11)))) := fun e => c22 (lcm_ge.2 e)
            exact ⟨rfl, hQ _ ((by
                              have h := cc107 (by omega)
                              have ks := brF_s (L := L) (t := L (Int.toNat t)) (f := v1) (m := Int.toNat (N - (i + 1))) (k := Int.toNat i)
                              rw [show Int.toNat (N - i) = Int.toNat (N - (i + 1)) + 1 from by omega, ks.1 ⟨by omega, by omega⟩] at h
                              omega))⟩
theorem r_brk11 (hF : FS F) (hR : Rg I) {v0 v1 : Int} (hp : 0 ≤ v0 ∧ v0 ≤ 13) {S L : Nat → Int} {N : Int} (hq : RDM I (Int.toNat v0) S L N) (hv : 0 ≤ v1 ∧ v1 ≤ 100) (hQ : ∀ r : Int, iR r → (r = bkF L (Int.toNat N) v1) → Q (some (vi r)) F I) : CallN G (d + 4) kX12_breakOf [vr 235, vi v0, vi v1] NP F I Q := by
  refine CallN_in (fun hok hA => CallN_out ?_)
  have iv0 : -2147483648 ≤ v0 ∧ v0 < 2147483648 := hok (vi v0) (by simp)
  have iv1 : -2147483648 ≤ v1 ∧ v1 < 2147483648 := hok (vi v1) (by simp)
  have hN := hq.2.2.1
  refine Call_wp (lv := [some (vr 235), some (vi v0), some (vi v1), none, none]) (by decide) ckX12_breakOf [11] rfl rfl ?_
  refine ⟨⟨_, rfl, (by decide)⟩, ?_⟩
  refine r_tops11 (v0 := v0) hF hR (by omega) hq (fun vr1 hr2 qr3 => ?_)
  have hr2 : -2147483648 ≤ vr1 ∧ vr1 < 2147483648 := hr2
  have tb := tpF_b (L := L) (Int.toNat N)
  rw [← qr3] at tb
  have n4 : (wr (vr1 + 1)) = vr1 + 1 := wr_id (show -2147483648 ≤ (vr1 + 1 : Int) ∧ (vr1 + 1 : Int) < 2147483648 from by omega)
  refine r_brk11_l hF hR hp hq hv (fun r g3 hv hA' => hQ _ (hv _ rfl) g3) _ vr1 (wr (vr1 + 1))  (show ((-1) : Int) ≤ vr1 from by first | with_reducible assumption | omega | (simp only [wr, wl] at *; omega)) (show (vr1 : Int) ≤ 23 from by first | with_reducible assumption | omega | (simp only [wr, wl] at *; omega)) (show (0 : Int) ≤ (wr (vr1 + 1)) from by first | with_reducible assumption | omega | (simp only [wr, wl] at *; omega)) (show ((wr (vr1 + 1)) : Int) ≤ 24 from by first | with_reducible assumption | omega | (simp only [wr, wl] at *; omega)) (show (wr (vr1 + 1)) ≤ N from by first | with_reducible assumption | omega | (simp only [wr, wl] at *; omega)) (show vr1 < (wr (vr1 + 1)) from by first | with_reducible assumption | omega | (simp only [wr, wl] at *; omega)) (show vr1 = tpF L (Int.toNat N) from qr3) (show 0 ≤ vr1 → brF L (L (Int.toNat vr1)) v1 (Int.toNat (N - (wr (vr1 + 1)))) (Int.toNat (wr (vr1 + 1))) = bkF L (Int.toNat N) v1 from (by
                              intro p0
                              have y := bkF_y (L := L) (n := Int.toNat N) (f := v1) qr3 (by omega)
                              rw [show Int.toNat N - (Int.toNat vr1 + 1) = Int.toNat (N - (wr (vr1 + 1))) from by omega, show Int.toNat vr1 + 1 = Int.toNat (wr (vr1 + 1)) from by omega] at y
                              exact y)) (Nat.lt_succ_self _)
end BK11
