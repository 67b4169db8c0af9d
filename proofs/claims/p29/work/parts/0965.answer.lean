/-! what a piece answers at a stretch. Own work (scripts laid by wip/pm/gen34.py). -/
section AW
variable {G : pG} {d : Nat} {F : pF} {I : pI} {Q : Option pV → pF → pI → Prop}
theorem prod_9 {a b : Int} (ha : -9999 ≤ a ∧ a ≤ 9999) (hb : 0 ≤ b ∧ b ≤ 9) : -89991 ≤ a * b ∧ a * b ≤ 89991 := by
  have h1 := Int.mul_le_mul_of_nonneg_right ha.2 hb.1
  have h2 := Int.mul_le_mul_of_nonneg_right ha.1 hb.1
  omega
theorem prod_b {a b : Int} (ha : -20000 ≤ a ∧ a ≤ 20000) (hb : 0 ≤ b ∧ b ≤ 100) : -2000000 ≤ a * b ∧ a * b ≤ 2000000 := by
  have h1 := Int.mul_le_mul_of_nonneg_right ha.2 hb.1
  have h2 := Int.mul_le_mul_of_nonneg_right ha.1 hb.1
  omega
/-- between two answers -/
def stF (a b p : Int) : Int := a + Int.tdiv ((b - a) * p) 10
theorem stF_b {a b p : Int} (ha : 0 ≤ a ∧ a ≤ 9999) (hb : 0 ≤ b ∧ b ≤ 9999) (hp : 0 ≤ p ∧ p ≤ 9) : (-89991 ≤ (b - a) * p ∧ (b - a) * p ≤ 89991) ∧ (-8999 ≤ Int.tdiv ((b - a) * p) 10 ∧ Int.tdiv ((b - a) * p) 10 ≤ 8999) ∧ -20000 ≤ stF a b p ∧ stF a b p ≤ 20000 := by
  have h := prod_9 (a := b - a) (b := p) (by omega) hp
  have t := td_b (x := (b - a) * p) (c := 10) (M := 8999) (by decide) (by decide) (by omega) (by omega)
  refine ⟨h, t, ?_⟩
  unfold stF
  omega
theorem stF_l {a b p : Int} (ha : 0 ≤ a ∧ a ≤ 9999) (hb : 0 ≤ b ∧ b ≤ 9999) (hp : 0 ≤ p ∧ p ≤ 9) : wr (a + (wr (wl (Int.tdiv (wl ((wr (b - a)) * p)) 10)))) = stF a b p := by
  obtain ⟨h, t, s⟩ := stF_b ha hb hp
  unfold stF at s ⊢
  rw [wr_id (z := b - a) (by unfold iR; omega), wl_id (z := (b - a) * p) (by unfold lR; omega), wl_id (z := Int.tdiv ((b - a) * p) 10) (by unfold lR; omega), wr_id (z := Int.tdiv ((b - a) * p) 10) (by unfold iR; omega), wr_id (z := a + Int.tdiv ((b - a) * p) 10) (by unfold iR; omega)]
theorem stF_i {a b p : Int} (ha : 0 ≤ a ∧ a ≤ 9999) (hb : 0 ≤ b ∧ b ≤ 9999) (hp : 0 ≤ p ∧ p ≤ 9) : wr (a + (wr (Int.tdiv (wr ((wr (b - a)) * p)) 10))) = stF a b p := by
  obtain ⟨h, t, s⟩ := stF_b ha hb hp
  unfold stF at s ⊢
  rw [wr_id (z := b - a) (by unfold iR; omega), wr_id (z := (b - a) * p) (by unfold iR; omega), wr_id (z := Int.tdiv ((b - a) * p) 10) (by unfold iR; omega), wr_id (z := a + Int.tdiv ((b - a) * p) 10) (by unfold iR; omega)]
/-- the answer ahead of size and kind, on the piece's stretch -/
def fA (cnt : Int) (a : Nat → Int) (x : Int) : Int := if x = 10 * (cnt - 1) then a (Int.toNat (x / 10)) else stF (a (Int.toNat (x / 10))) (a (Int.toNat (x / 10 + 1))) (x % 10)
def fV2 (k w : Int) : Int := if k = 2 then Int.tdiv w 2 else if k = 5 then (if Int.tdiv w 2 - 5 < 0 then 0 else Int.tdiv w 2 - 5) else w
def fAns (k sz cnt : Int) (a : Nat → Int) (x : Int) : Int := if x < 0 ∨ 10 * (cnt - 1) < x then 0 else fV2 k (Int.tdiv (fA cnt a x * sz) 10)
theorem ans_v {v s : Int} (hv : -20000 ≤ v ∧ v ≤ 20000) (hs : 1 ≤ s ∧ s ≤ 99) : wr (Int.tdiv (wr (v * s)) 10) = Int.tdiv (v * s) 10 ∧ wr (Int.tdiv (wr (Int.tdiv (wr (v * s)) 10)) 2) = Int.tdiv (Int.tdiv (v * s) 10) 2 ∧ -200000 ≤ Int.tdiv (Int.tdiv (v * s) 10) 2 ∧ Int.tdiv (Int.tdiv (v * s) 10) 2 ≤ 200000 := by
  have h := prod_b hv (b := s) (by omega)
  have t := td_b (x := v * s) (c := 10) (M := 200000) (by decide) (by decide) (by omega) (by omega)
  have u := td_b (x := Int.tdiv (v * s) 10) (c := 2) (M := 200000) (by decide) (by decide) (by omega) (by omega)
  rw [wr_id (z := v * s) (by unfold iR; omega), wr_id (z := Int.tdiv (v * s) 10) (by unfold iR; omega), wr_id (z := Int.tdiv (Int.tdiv (v * s) 10) 2) (by unfold iR; omega)]
  exact ⟨rfl, rfl, u⟩
theorem fAns_c {k s c x : Int} {a b : Nat → Int} (hc : c ≤ 12) (e : ∀ j : Nat, (j : Int) < c → a j = b j) : fAns k s c a x = fAns k s c b x := by
  unfold fAns
  split
  · rfl
  · next h =>
    congr 2
    unfold fA
    split
    · rw [e _ (by omega)]
    · rw [e _ (by omega), e _ (by omega)]
theorem c_straight6 (hF : FS F) (hR : Rg I) {v0 v1 v2 v3 : Int} (h0 : 0 ≤ v0 ∧ v0 ≤ 9999) (h1 : 0 ≤ v1 ∧ v1 ≤ 9999) (h2 : 0 ≤ v2 ∧ v2 ≤ 9) (h3 : v3 = 10) (hQ : ∀ r : Int, iR r → (r = stF v0 v1 v2) → Q (some (vi r)) F I) : CallN G d kX11_straight [vi v0, vi v1, vi v2, vi v3] NP F I Q := by
  refine CallN_in (fun hok hA => CallN_out ?_)
  have iv0 : -2147483648 ≤ v0 ∧ v0 < 2147483648 := hok (vi v0) (by simp)
  have iv1 : -2147483648 ≤ v1 ∧ v1 < 2147483648 := hok (vi v1) (by simp)
  have iv2 : -2147483648 ≤ v2 ∧ v2 < 2147483648 := hok (vi v2) (by simp)
  have iv3 : -2147483648 ≤ v3 ∧ v3 < 2147483648 := hok (vi v3) (by simp)
  refine Call_wp (lv := [some (vi v0), some (vi v1), some (vi v2), some (vi v3)]) (by decide) ckX11_straight [] rfl rfl ?_
  refine ⟨fun (c1 : (¬ (v3 : Int) = 0)) => ?_, fun (c1 : ((v3 : Int) = 0)) => ?_⟩
  ·
    refine ⟨(show ¬ (v3 : Int) = 0 from by first | omega | (simp only [wr, wl] at *; omega)), ?_⟩
    exact ⟨rfl, fun hv hA' => hQ _ (hv _ rfl) ((by subst h3; exact stF_l h0 h1 h2))⟩
  ·
    exact ⟨rfl, fun hv hA' => hQ _ (hv _ rfl) (by exfalso; omega)⟩
theorem c_answerAt6 (hF : FS F) (hR : Rg I) {v0 : Int} {q : Nat} (hp : PP F q) (hc : 2 ≤ I q 4 ∧ I q 4 ≤ 12) (hx : 0 ≤ v0 ∧ v0 ≤ 10 * (I q 4 - 1)) (ha : ∀ j : Nat, (j : Int) < I q 4 → 0 ≤ I (q + 1) j ∧ I (q + 1) j ≤ 9999) (hQ : ∀ r : Int, iR r → (r = fA (I q 4) (I (q + 1)) v0) → Q (some (vi r)) F I) : CallN G (d + 1) kX4_answerAt [vr q, vi v0] NP F I Q := by
  refine CallN_in (fun hok hA => CallN_out ?_)
  have iv0 : -2147483648 ≤ v0 ∧ v0 < 2147483648 := hok (vi v0) (by simp)
  refine Call_wp (lv := [some (vr q), some (vi v0), none, none]) (by decide) ckX4_answerAt [] rfl rfl ?_
  refine ⟨(by decide), ?_⟩
  have n1 : (Int.tdiv v0 10) = (v0 : Int) / 10 := Int.tdiv_eq_ediv_of_nonneg (by omega)
  have n2 : (wr (Int.tdiv v0 10)) = (Int.tdiv v0 10) := wr_id (show -2147483648 ≤ ((Int.tdiv v0 10) : Int) ∧ ((Int.tdiv v0 10) : Int) < 2147483648 from by omega)
  refine ⟨fun c => absurd c (show (¬ (((wr (Int.tdiv v0 10)) : Int) < 0)) from by first | omega | (simp only [wr, wl] at *; omega)), fun _ => ?_⟩
  refine ⟨_, hp.1.1, (by have := hp.2; show _ < 254; omega), ?_⟩
  have a3 : -2147483648 ≤ (I q 4) ∧ (I q 4) < 2147483648 := hA.1 _ _
  refine ⟨fun (c4 : (((I q 4) : Int) ≤ (wr (Int.tdiv v0 10)))) => ?_, fun (c4 : (¬ (((I q 4) : Int) ≤ (wr (Int.tdiv v0 10))))) => ?_⟩
  ·
    exact ⟨rfl, fun hv hA' => hQ _ (hv _ rfl) (by exfalso; omega)⟩
  ·
    refine ⟨fun (c5 : (((wr (Int.tdiv v0 10)) : Int) < 12)) => ?_, fun (c5 : (¬ (((wr (Int.tdiv v0 10)) : Int) < 12))) => ?_⟩
    ·
      refine ⟨_, hp.1.1, (by have := hp.2; show _ < 254; omega), ?_⟩
      have n6 : (wr ((wr (Int.tdiv v0 10)) + 1)) = (wr (Int.tdiv v0 10)) + 1 := wr_id (show -2147483648 ≤ ((wr (Int.tdiv v0 10)) + 1 : Int) ∧ ((wr (Int.tdiv v0 10)) + 1 : Int) < 2147483648 from by omega)
      refine ⟨fun (c7 : (((I q 4) : Int) ≤ (wr ((wr (Int.tdiv v0 10)) + 1)))) => ?_, fun (c7 : (¬ (((I q 4) : Int) ≤ (wr ((wr (Int.tdiv v0 10)) + 1))))) => ?_⟩
      ·
        refine ⟨fun c => absurd c (show (¬ ((1 : Int) = 0)) from by decide), fun _ => ?_⟩
        refine ⟨_, hp.1.1, (by have := hp.2; show _ < 254; omega), ?_⟩
        refine fun w0 hw0 => ?_; obtain rfl : w0 = some (q + 1) := hw0.symm.trans hp.1.2.2.2.1
        refine ⟨_, hp.1.2.1, (by have := hp.2; show _ < 254; omega), (show (0 : Int) ≤ (wr (Int.tdiv v0 10)) from by first | with_reducible assumption | omega | (simp only [wr, wl] at *; omega)), (show (wr (Int.tdiv v0 10)) < (12 : Int) from by first | with_reducible assumption | omega | (simp only [wr, wl] at *; omega)), ?_⟩
        have r8 : 0 ≤ (I (q + 1) (Int.toNat (wr (Int.tdiv v0 10)))) ∧ (I (q + 1) (Int.toNat (wr (Int.tdiv v0 10)))) ≤ 9999 := ha _ (by omega)
        exact ⟨rfl, fun hv hA' => hQ _ (hv _ rfl) ((by
                              unfold fA; rw [if_pos (by omega)]
                              exact congrArg (I (q + 1)) (show Int.toNat (wr (Int.tdiv v0 10)) = Int.toNat (v0 / 10) from by omega)))⟩
      ·
        refine ⟨fun (c9 : (((wr ((wr (Int.tdiv v0 10)) + 1)) : Int) < 12)) => ?_, fun (c9 : (¬ (((wr ((wr (Int.tdiv v0 10)) + 1)) : Int) < 12))) => ?_⟩
        ·
          refine ⟨fun _ => ?_, fun c => absurd (show ((0 : Int) = 0) from by decide) c⟩
          refine ⟨_, hp.1.1, (by have := hp.2; show _ < 254; omega), ?_⟩
          refine fun w0 hw0 => ?_; obtain rfl : w0 = some (q + 1) := hw0.symm.trans hp.1.2.2.2.1
          refine ⟨_, hp.1.2.1, (by have := hp.2; show _ < 254; omega), (show (0 : Int) ≤ (wr (Int.tdiv v0 10)) from by first | with_reducible assumption | omega | (simp only [wr, wl] at *; omega)), (show (wr (Int.tdiv v0 10)) < (12 : Int) from by first | with_reducible assumption | omega | (simp only [wr, wl] at *; omega)), ?_⟩
          have r10 : 0 ≤ (I (q + 1) (Int.toNat (wr (Int.tdiv v0 10)))) ∧ (I (q + 1) (Int.toNat (wr (Int.tdiv v0 10)))) ≤ 9999 := ha _ (by omega)
          refine ⟨_, hp.1.1, (by have := hp.2; show _ < 254; omega), ?_⟩
          refine fun w0 hw0 => ?_; obtain rfl : w0 = some (q + 1) := hw0.symm.trans hp.1.2.2.2.1
          refine ⟨_, hp.1.2.1, (by have := hp.2; show _ < 254; omega), (show (0 : Int) ≤ (wr ((wr (Int.tdiv v0 10)) + 1)) from by first | with_reducible assumption | omega | (simp only [wr, wl] at *; omega)), (show (wr ((wr (Int.tdiv v0 10)) + 1)) < (12 : Int) from by first | with_reducible assumption | omega | (simp only [wr, wl] at *; omega)), ?_⟩
          have r11 : 0 ≤ (I (q + 1) (Int.toNat (wr ((wr (Int.tdiv v0 10)) + 1)))) ∧ (I (q + 1) (Int.toNat (wr ((wr (Int.tdiv v0 10)) + 1)))) ≤ 9999 := ha _ (by omega)
          refine ⟨(by decide), ?_⟩
          have n14 : (Int.tmod v0 10) = (v0 : Int) % 10 := Int.tmod_eq_emod_of_nonneg (by omega)
          refine c_straight6 (v0 := (I (q + 1) (Int.toNat (wr (Int.tdiv v0 10))))) (v1 := (I (q + 1) (Int.toNat (wr ((wr (Int.tdiv v0 10)) + 1))))) (v2 := (Int.tmod v0 10)) (v3 := 10) hF hR (by omega) (by omega) (by omega) (by omega) (fun vr15 hr16 qr17 => ?_)
          have hr16 : -2147483648 ≤ vr15 ∧ vr15 < 2147483648 := hr16
          exact ⟨rfl, fun hv hA' => hQ _ (hv _ rfl) ((by
                              unfold fA; rw [if_neg (by omega)]
                              have z := qr17
                              rw [show Int.tmod v0 10 = v0 % 10 from Int.tmod_eq_emod_of_nonneg (by omega), show Int.toNat (wr (Int.tdiv v0 10)) = Int.toNat (v0 / 10) from by omega, show Int.toNat (wr ((wr (Int.tdiv v0 10)) + 1)) = Int.toNat (v0 / 10 + 1) from by omega] at z
                              exact z))⟩
        ·
          refine ⟨fun c => absurd c (show (¬ ((1 : Int) = 0)) from by decide), fun _ => ?_⟩
          refine ⟨_, hp.1.1, (by have := hp.2; show _ < 254; omega), ?_⟩
          refine fun w0 hw0 => ?_; obtain rfl : w0 = some (q + 1) := hw0.symm.trans hp.1.2.2.2.1
          refine ⟨_, hp.1.2.1, (by have := hp.2; show _ < 254; omega), (show (0 : Int) ≤ (wr (Int.tdiv v0 10)) from by first | with_reducible assumption | omega | (simp only [wr, wl] at *; omega)), (show (wr (Int.tdiv v0 10)) < (12 : Int) from by first | with_reducible assumption | omega | (simp only [wr, wl] at *; omega)), ?_⟩
          have r18 : 0 ≤ (I (q + 1) (Int.toNat (wr (Int.tdiv v0 10)))) ∧ (I (q + 1) (Int.toNat (wr (Int.tdiv v0 10)))) ≤ 9999 := ha _ (by omega)
          exact ⟨rfl, fun hv hA' => hQ _ (hv _ rfl) ((by
                              unfold fA; rw [if_pos (by omega)]
                              exact congrArg (I (q + 1)) (show Int.toNat (wr (Int.tdiv v0 10)) = Int.toNat (v0 / 10) from by omega)))⟩
    ·
      exact ⟨rfl, fun hv hA' => hQ _ (hv _ rfl) (by exfalso; omega)⟩
theorem fA_b {c x : Int} {a : Nat → Int} (hc : 2 ≤ c ∧ c ≤ 12) (hx : 0 ≤ x ∧ x ≤ 10 * (c - 1)) (ha : ∀ j : Nat, (j : Int) < c → 0 ≤ a j ∧ a j ≤ 9999) : -20000 ≤ fA c a x ∧ fA c a x ≤ 20000 := by
  unfold fA
  split
  · have := ha (Int.toNat (x / 10)) (by omega); omega
  · exact (stF_b (ha _ (by omega)) (ha _ (by omega)) (by omega)).2.2
theorem c_loadAt6 (hF : FS F) (hR : Rg I) {v0 : Int} {q : Nat} (hp : PP F q) (hk : 0 ≤ I q 0 ∧ I q 0 ≤ 5) (hs : 1 ≤ I q 2 ∧ I q 2 ≤ 99) (hc : 2 ≤ I q 4 ∧ I q 4 ≤ 12) (ha : ∀ j : Nat, (j : Int) < I q 4 → 0 ≤ I (q + 1) j ∧ I (q + 1) j ≤ 9999) (hQ : ∀ r : Int, iR r → (r = fAns (I q 0) (I q 2) (I q 4) (I (q + 1)) v0) → Q (some (vi r)) F I) : CallN G (d + 2) kX4_loadAt [vr q, vi v0] NP F I Q := by
  refine CallN_in (fun hok hA => CallN_out ?_)
  have iv0 : -2147483648 ≤ v0 ∧ v0 < 2147483648 := hok (vi v0) (by simp)
  refine Call_wp (lv := [some (vr q), some (vi v0), none]) (by decide) ckX4_loadAt [] rfl rfl ?_
  refine ⟨fun (c1 : ((v0 : Int) < 0)) => ?_, fun (c1 : (¬ ((v0 : Int) < 0))) => ?_⟩
  ·
    exact ⟨rfl, fun hv hA' => hQ _ (hv _ rfl) ((by unfold fAns; rw [if_pos (by omega)]))⟩
  ·
    refine ⟨⟨_, hp.1.1, (by have := hp.2; show _ < 254; omega)⟩, ?_⟩
    refine Call_wp (lv := [some (vr q)]) (by decide) ckX4_lastStretch [] rfl rfl ?_
    refine ⟨_, hp.1.1, (by have := hp.2; show _ < 254; omega), ?_⟩
    have r2 : 2 ≤ (I q 4) ∧ (I q 4) ≤ 12 := hc
    refine ⟨rfl, ?_⟩
    have n4 : (wr ((I q 4) - 1)) = (I q 4) - 1 := wr_id (show -2147483648 ≤ ((I q 4) - 1 : Int) ∧ ((I q 4) - 1 : Int) < 2147483648 from by omega)
    have n5 : (wr (10 * (wr ((I q 4) - 1)))) = 10 * (wr ((I q 4) - 1)) := wr_id (show -2147483648 ≤ (10 * (wr ((I q 4) - 1)) : Int) ∧ (10 * (wr ((I q 4) - 1)) : Int) < 2147483648 from by omega)
    refine ⟨fun (c6 : ((v0 : Int) ≤ (wr (10 * (wr ((I q 4) - 1)))))) => ?_, fun (c6 : (¬ ((v0 : Int) ≤ (wr (10 * (wr ((I q 4) - 1))))))) => ?_⟩
    ·
      refine ⟨⟨_, hp.1.1, (by have := hp.2; show _ < 254; omega)⟩, ?_⟩
      refine c_answerAt6 (v0 := v0) hF hR hp hc (by omega) ha (fun vr7 hr8 qr9 => ?_)
      have hr8 : -2147483648 ≤ vr7 ∧ vr7 < 2147483648 := hr8
      refine ⟨_, hp.1.1, (by have := hp.2; show _ < 254; omega), ?_⟩
      have r10 : 1 ≤ (I q 2) ∧ (I q 2) ≤ 99 := hs
      refine ⟨(by decide), ?_⟩
      refine ⟨⟨_, hp.1.1, (by have := hp.2; show _ < 254; omega)⟩, ?_⟩
      refine c_isOf6 (v0 := 2) hF hR hp (by omega) hk (fun vr11 hr12 q13 q14 q15 => ?_)
      have hr12 : -2147483648 ≤ vr11 ∧ vr11 < 2147483648 := hr12
      have q13 : 0 ≤ vr11 ∧ vr11 ≤ 1 := q13
      have a16 : -2147483648 ≤ (I q 0) ∧ (I q 0) < 2147483648 := hA.1 _ _
      have q14 : vr11 = 1 → ((2 : Int) = (I q 0) ∨ (2 : Int) = 0 ∨ ((I q 0) = 3 ∧ (2 : Int) = 1) ∨ ((I q 0) = 5 ∧ (2 : Int) = 2)) := q14
      have q15 : ((2 : Int) = (I q 0) ∨ (2 : Int) = 0 ∨ ((I q 0) = 3 ∧ (2 : Int) = 1) ∨ ((I q 0) = 5 ∧ (2 : Int) = 2)) → vr11 = 1 := q15
      refine ⟨fun (c17 : ((vr11 : Int) = 0)) => ?_, fun (c17 : (¬ ((vr11 : Int) = 0))) => ?_⟩
      ·
        refine ⟨_, hp.1.1, (by have := hp.2; show _ < 254; omega), ?_⟩
        refine ⟨fun (c18 : (¬ ((I q 0) : Int) = 5)) => ?_, fun (c18 : (((I q 0) : Int) = 5)) => ?_⟩
        ·
          exact ⟨rfl, fun hv hA' => hQ _ (hv _ rfl) ((by
                              have b := fA_b hc (show 0 ≤ v0 ∧ v0 ≤ 10 * (I q 4 - 1) from by omega) ha
                              have e := ans_v (v := fA (I q 4) (I (q + 1)) v0) (s := I q 2) b hs
                              obtain rfl := qr9
                              unfold fAns; rw [if_neg (by omega)]; unfold fV2
                              (repeat' split) <;> omega))⟩
        ·
          have n20 : -2147483648 ≤ (wr (vr7 * (I q 2))) ∧ (wr (vr7 * (I q 2))) < 2147483648 := wr_R _
          have n21 : -214748364 ≤ (Int.tdiv (wr (vr7 * (I q 2))) 10) ∧ (Int.tdiv (wr (vr7 * (I q 2))) 10) ≤ 214748364 := td_b (by decide) (by decide) (by omega) (by omega)
          have n22 : (wr (Int.tdiv (wr (vr7 * (I q 2))) 10)) = (Int.tdiv (wr (vr7 * (I q 2))) 10) := wr_id (show -2147483648 ≤ ((Int.tdiv (wr (vr7 * (I q 2))) 10) : Int) ∧ ((Int.tdiv (wr (vr7 * (I q 2))) 10) : Int) < 2147483648 from by omega)
          have n23 : (wr ((wr (Int.tdiv (wr (vr7 * (I q 2))) 10)) - 5)) = (wr (Int.tdiv (wr (vr7 * (I q 2))) 10)) - 5 := wr_id (show -2147483648 ≤ ((wr (Int.tdiv (wr (vr7 * (I q 2))) 10)) - 5 : Int) ∧ ((wr (Int.tdiv (wr (vr7 * (I q 2))) 10)) - 5 : Int) < 2147483648 from by omega)
          refine j_max (fun w24 h25 h26 h27 => ?_)
          exact ⟨rfl, fun hv hA' => hQ _ (hv _ rfl) ((by
                              have b := fA_b hc (show 0 ≤ v0 ∧ v0 ≤ 10 * (I q 4 - 1) from by omega) ha
                              have e := ans_v (v := fA (I q 4) (I (q + 1)) v0) (s := I q 2) b hs
                              obtain rfl := qr9
                              unfold fAns; rw [if_neg (by omega)]; unfold fV2
                              (repeat' split) <;> omega))⟩
      ·
        refine ⟨(by decide), ?_⟩
        refine ⟨_, hp.1.1, (by have := hp.2; show _ < 254; omega), ?_⟩
        refine ⟨fun (c28 : (¬ ((I q 0) : Int) = 5)) => ?_, fun (c28 : (((I q 0) : Int) = 5)) => ?_⟩
        ·
          exact ⟨rfl, fun hv hA' => hQ _ (hv _ rfl) ((by
                              have b := fA_b hc (show 0 ≤ v0 ∧ v0 ≤ 10 * (I q 4 - 1) from by omega) ha
                              have e := ans_v (v := fA (I q 4) (I (q + 1)) v0) (s := I q 2) b hs
                              obtain rfl := qr9
                              unfold fAns; rw [if_neg (by omega)]; unfold fV2
                              (repeat' split) <;> omega))⟩
        ·
          have n30 : -2147483648 ≤ (wr (vr7 * (I q 2))) ∧ (wr (vr7 * (I q 2))) < 2147483648 := wr_R _
          have n31 : -214748364 ≤ (Int.tdiv (wr (vr7 * (I q 2))) 10) ∧ (Int.tdiv (wr (vr7 * (I q 2))) 10) ≤ 214748364 := td_b (by decide) (by decide) (by omega) (by omega)
          have n32 : (wr (Int.tdiv (wr (vr7 * (I q 2))) 10)) = (Int.tdiv (wr (vr7 * (I q 2))) 10) := wr_id (show -2147483648 ≤ ((Int.tdiv (wr (vr7 * (I q 2))) 10) : Int) ∧ ((Int.tdiv (wr (vr7 * (I q 2))) 10) : Int) < 2147483648 from by omega)
          have n33 : -107374182 ≤ (Int.tdiv (wr (Int.tdiv (wr (vr7 * (I q 2))) 10)) 2) ∧ (Int.tdiv (wr (Int.tdiv (wr (vr7 * (I q 2))) 10)) 2) ≤ 107374182 := td_b (by decide) (by decide) (by omega) (by omega)
          have n34 : (wr (Int.tdiv (wr (Int.tdiv (wr (vr7 * (I q 2))) 10)) 2)) = (Int.tdiv (wr (Int.tdiv (wr (vr7 * (I q 2))) 10)) 2) := wr_id (show -2147483648 ≤ ((Int.tdiv (wr (Int.tdiv (wr (vr7 * (I q 2))) 10)) 2) : Int) ∧ ((Int.tdiv (wr (Int.tdiv (wr (vr7 * (I q 2))) 10)) 2) : Int) < 2147483648 from by omega)
          have n35 : (wr ((wr (Int.tdiv (wr (Int.tdiv (wr (vr7 * (I q 2))) 10)) 2)) - 5)) = (wr (Int.tdiv (wr (Int.tdiv (wr (vr7 * (I q 2))) 10)) 2)) - 5 := wr_id (show -2147483648 ≤ ((wr (Int.tdiv (wr (Int.tdiv (wr (vr7 * (I q 2))) 10)) 2)) - 5 : Int) ∧ ((wr (Int.tdiv (wr (Int.tdiv (wr (vr7 * (I q 2))) 10)) 2)) - 5 : Int) < 2147483648 from by omega)
          refine j_max (fun w36 h37 h38 h39 => ?_)
          exact ⟨rfl, fun hv hA' => hQ _ (hv _ rfl) ((by
                              have b := fA_b hc (show 0 ≤ v0 ∧ v0 ≤ 10 * (I q 4 - 1) from by omega) ha
                              have e := ans_v (v := fA (I q 4) (I (q + 1)) v0) (s := I q 2) b hs
                              obtain rfl := qr9
                              unfold fAns; rw [if_neg (by omega)]; unfold fV2
                              (repeat' split) <;> omega))⟩
    ·
      exact ⟨rfl, fun hv hA' => hQ _ (hv _ rfl) ((by unfold fAns; rw [if_pos (by omega)]))⟩
theorem r_answered6 (hF : FS F) (hR : Rg I) {v0 v1 : Int} (hp : 0 ≤ v0 ∧ v0 ≤ 13) (hx : 0 ≤ v1) (hs : 1 ≤ (I 236 (Int.toNat (306 + 66 * v0))) ∧ (I 236 (Int.toNat (306 + 66 * v0))) ≤ 99) (hc : 2 ≤ (I 236 (Int.toNat (307 + 66 * v0))) ∧ (I 236 (Int.toNat (307 + 66 * v0))) ≤ 12) (ha : ∀ j : Nat, (j : Int) < (I 236 (Int.toNat (307 + 66 * v0))) → 0 ≤ I 236 (309 + 66 * Int.toNat v0 + j) ∧ I 236 (309 + 66 * Int.toNat v0 + j) ≤ 9999) (hQ : ∀ r : Int, iR r → (r = fAns (I 236 (Int.toNat (304 + 66 * v0))) (I 236 (Int.toNat (306 + 66 * v0))) (I 236 (Int.toNat (307 + 66 * v0))) (fun j => I 236 (309 + 66 * Int.toNat v0 + j)) v1) → Q (some (vi r)) F I) : CallN G (d + 2) kX12_answered [vr 235, vi v0, vi v1] NP F I Q := by
  refine CallN_in (fun hok hA => CallN_out ?_)
  have iv0 : -2147483648 ≤ v0 ∧ v0 < 2147483648 := hok (vi v0) (by simp)
  have iv1 : -2147483648 ≤ v1 ∧ v1 < 2147483648 := hok (vi v1) (by simp)
  refine Call_wp (lv := [some (vr 235), some (vi v0), some (vi v1), none, none, none, none]) (by decide) ckX12_answered [] rfl rfl ?_
  refine ⟨⟨_, rfl, (by decide)⟩, ?_⟩
  refine Call_wp (lv := [some (vr 235), some (vi v0)]) (by decide) ckX12_end [] rfl rfl ?_
  refine ⟨⟨_, rfl, (by decide)⟩, ?_⟩
  refine r_of (p := v0) (f := 3) hF (j := (Int.toNat (307 + 66 * v0))) (by omega) (by omega) (by omega) (fun w1 hw2 => ?_)
  have r3 : 0 ≤ (I 236 (Int.toNat (307 + 66 * v0))) ∧ (I 236 (Int.toNat (307 + 66 * v0))) ≤ 12 := Pn_p3 (p := (Int.toNat v0)) (by omega) (by omega) (hR.n (Int.toNat (307 + 66 * v0)) (by omega))
  have hw2 : w1 = (I 236 (Int.toNat (307 + 66 * v0))) := hw2
  refine ⟨rfl, ?_⟩
  have n5 : (wr (w1 - 1)) = w1 - 1 := wr_id (show -2147483648 ≤ (w1 - 1 : Int) ∧ (w1 - 1 : Int) < 2147483648 from by omega)
  have n6 : (wr (10 * (wr (w1 - 1)))) = 10 * (wr (w1 - 1)) := wr_id (show -2147483648 ≤ (10 * (wr (w1 - 1)) : Int) ∧ (10 * (wr (w1 - 1)) : Int) < 2147483648 from by omega)
  refine ⟨fun (c7 : ((v1 : Int) ≤ (wr (10 * (wr (w1 - 1)))))) => ?_, fun (c7 : (¬ ((v1 : Int) ≤ (wr (10 * (wr (w1 - 1))))))) => ?_⟩
  ·
    refine ⟨(by decide), ?_⟩
    refine ⟨⟨_, rfl, (by decide)⟩, ?_⟩
    have n8 : (Int.tdiv v1 10) = (v1 : Int) / 10 := Int.tdiv_eq_ediv_of_nonneg (by omega)
    have n9 : (wr (Int.tdiv v1 10)) = (Int.tdiv v1 10) := wr_id (show -2147483648 ≤ ((Int.tdiv v1 10) : Int) ∧ ((Int.tdiv v1 10) : Int) < 2147483648 from by omega)
    have n10 : (wr (5 + (wr (Int.tdiv v1 10)))) = 5 + (wr (Int.tdiv v1 10)) := wr_id (show -2147483648 ≤ (5 + (wr (Int.tdiv v1 10)) : Int) ∧ (5 + (wr (Int.tdiv v1 10)) : Int) < 2147483648 from by omega)
    refine r_of (p := v0) (f := (wr (5 + (wr (Int.tdiv v1 10))))) hF (j := (Int.toNat (309 + (wr (Int.tdiv v1 10)) + 66 * v0))) (by omega) (by omega) (by omega) (fun w11 hw12 => ?_)
    have hw12 : w11 = (I 236 (Int.toNat (309 + (wr (Int.tdiv v1 10)) + 66 * v0))) := hw12
    refine ⟨⟨_, rfl, (by decide)⟩, ?_⟩
    refine Call_wp (lv := [some (vr 235), some (vi v0)]) (by decide) ckX12_end [] rfl rfl ?_
    refine ⟨⟨_, rfl, (by decide)⟩, ?_⟩
    refine r_of (p := v0) (f := 3) hF (j := (Int.toNat (307 + 66 * v0))) (by omega) (by omega) (by omega) (fun w13 hw14 => ?_)
    have hw14 : w13 = (I 236 (Int.toNat (307 + 66 * v0))) := hw14
    obtain rfl : w1 = w13 := hw2.trans hw14.symm
    refine ⟨rfl, ?_⟩
    refine ⟨fun (c15 : (¬ (v1 : Int) = (wr (10 * (wr (w1 - 1)))))) => ?_, fun (c15 : ((v1 : Int) = (wr (10 * (wr (w1 - 1)))))) => ?_⟩
    ·
      refine ⟨(by decide), ?_⟩
      refine ⟨⟨_, rfl, (by decide)⟩, ?_⟩
      have n16 : (wr ((wr (5 + (wr (Int.tdiv v1 10)))) + 1)) = (wr (5 + (wr (Int.tdiv v1 10)))) + 1 := wr_id (show -2147483648 ≤ ((wr (5 + (wr (Int.tdiv v1 10)))) + 1 : Int) ∧ ((wr (5 + (wr (Int.tdiv v1 10)))) + 1 : Int) < 2147483648 from by omega)
      refine r_of (p := v0) (f := (wr ((wr (5 + (wr (Int.tdiv v1 10)))) + 1))) hF (j := (Int.toNat (310 + (wr (Int.tdiv v1 10)) + 66 * v0))) (by omega) (by omega) (by omega) (fun w17 hw18 => ?_)
      have hw18 : w17 = (I 236 (Int.toNat (310 + (wr (Int.tdiv v1 10)) + 66 * v0))) := hw18
      refine ⟨(by decide), ?_⟩
      refine ⟨(by decide), ?_⟩
      refine ⟨⟨_, rfl, (by decide)⟩, ?_⟩
      refine r_of (p := v0) (f := 2) hF (j := (Int.toNat (306 + 66 * v0))) (by omega) (by omega) (by omega) (fun w19 hw20 => ?_)
      have hw20 : w19 = (I 236 (Int.toNat (306 + 66 * v0))) := hw20
      refine ⟨(by decide), ?_⟩
      refine ⟨⟨_, rfl, (by decide)⟩, ?_⟩
      refine r_of (p := v0) (f := 0) hF (j := (Int.toNat (304 + 66 * v0))) (by omega) (by omega) (by omega) (fun w21 hw22 => ?_)
      have r23 : 0 ≤ (I 236 (Int.toNat (304 + 66 * v0))) ∧ (I 236 (Int.toNat (304 + 66 * v0))) ≤ 5 := Pn_p0 (p := (Int.toNat v0)) (by omega) (by omega) (hR.n (Int.toNat (304 + 66 * v0)) (by omega))
      have hw22 : w21 = (I 236 (Int.toNat (304 + 66 * v0))) := hw22
      refine ⟨fun (c25 : (¬ (w21 : Int) = 2)) => ?_, fun (c25 : ((w21 : Int) = 2)) => ?_⟩
      ·
        refine ⟨fun (c26 : (¬ (w21 : Int) = 5)) => ?_, fun (c26 : ((w21 : Int) = 5)) => ?_⟩
        ·
          exact ⟨rfl, fun hv hA' => hQ _ (hv _ rfl) ((by
                              have y1 : w11 = (fun j => I 236 (309 + 66 * Int.toNat v0 + j)) (Int.toNat (v1 / 10)) := hw12.trans (congrArg (I 236) (by omega))
                              have z1 : 0 ≤ w11 ∧ w11 ≤ 9999 := by rw [y1]; exact ha (Int.toNat (v1 / 10)) (by omega)
                              have y2 : w17 = (fun j => I 236 (309 + 66 * Int.toNat v0 + j)) (Int.toNat (v1 / 10 + 1)) := hw18.trans (congrArg (I 236) (by omega))
                              have z2 : 0 ≤ w17 ∧ w17 ≤ 9999 := by rw [y2]; exact ha (Int.toNat (v1 / 10 + 1)) (by omega)
                              have t := stF_i (a := w11) (b := w17) (p := v1 % 10) z1 z2 (by omega)
                              have f : fA (I 236 (Int.toNat (307 + 66 * v0))) (fun j => I 236 (309 + 66 * Int.toNat v0 + j)) v1 = stF w11 w17 (v1 % 10) := by unfold fA; rw [if_neg (by omega), ← y1, ← y2]
                              have e := ans_v (v := stF w11 w17 (v1 % 10)) (s := w19) (stF_b z1 z2 (by omega)).2.2 (by rw [hw20]; exact hs)
                              rw [← t, ← Int.tmod_eq_emod_of_nonneg (a := v1) (b := 10) (by omega)] at e
                              rw [← Int.tmod_eq_emod_of_nonneg (a := v1) (b := 10) (by omega)] at t f
                              rw [← t] at f
                              unfold fAns; rw [if_neg (by omega), f, ← hw22, ← hw20]; unfold fV2
                              (repeat' split) <;> omega))⟩
        ·
          refine ⟨(by decide), ?_⟩
          have a27 : -2147483648 ≤ (I 236 (Int.toNat (309 + (wr (Int.tdiv v1 10)) + 66 * v0))) ∧ (I 236 (Int.toNat (309 + (wr (Int.tdiv v1 10)) + 66 * v0))) < 2147483648 := hA.1 _ _
          have a28 : -2147483648 ≤ (I 236 (Int.toNat (310 + (wr (Int.tdiv v1 10)) + 66 * v0))) ∧ (I 236 (Int.toNat (310 + (wr (Int.tdiv v1 10)) + 66 * v0))) < 2147483648 := hA.1 _ _
          have a29 : -2147483648 ≤ (I 236 (Int.toNat (306 + 66 * v0))) ∧ (I 236 (Int.toNat (306 + 66 * v0))) < 2147483648 := hA.1 _ _
          have n30 : -2147483648 ≤ (wr (w17 - w11)) ∧ (wr (w17 - w11)) < 2147483648 := wr_R _
          have n31 : (Int.tmod v1 10) = (v1 : Int) % 10 := Int.tmod_eq_emod_of_nonneg (by omega)
          have n32 : -2147483648 ≤ (wr ((wr (w17 - w11)) * (Int.tmod v1 10))) ∧ (wr ((wr (w17 - w11)) * (Int.tmod v1 10))) < 2147483648 := wr_R _
          have n33 : -214748364 ≤ (Int.tdiv (wr ((wr (w17 - w11)) * (Int.tmod v1 10))) 10) ∧ (Int.tdiv (wr ((wr (w17 - w11)) * (Int.tmod v1 10))) 10) ≤ 214748364 := td_b (by decide) (by decide) (by omega) (by omega)
          have n34 : (wr (Int.tdiv (wr ((wr (w17 - w11)) * (Int.tmod v1 10))) 10)) = (Int.tdiv (wr ((wr (w17 - w11)) * (Int.tmod v1 10))) 10) := wr_id (show -2147483648 ≤ ((Int.tdiv (wr ((wr (w17 - w11)) * (Int.tmod v1 10))) 10) : Int) ∧ ((Int.tdiv (wr ((wr (w17 - w11)) * (Int.tmod v1 10))) 10) : Int) < 2147483648 from by omega)
          have n35 : -2147483648 ≤ (wr (w11 + (wr (Int.tdiv (wr ((wr (w17 - w11)) * (Int.tmod v1 10))) 10)))) ∧ (wr (w11 + (wr (Int.tdiv (wr ((wr (w17 - w11)) * (Int.tmod v1 10))) 10)))) < 2147483648 := wr_R _
          have n36 : -2147483648 ≤ (wr ((wr (w11 + (wr (Int.tdiv (wr ((wr (w17 - w11)) * (Int.tmod v1 10))) 10)))) * w19)) ∧ (wr ((wr (w11 + (wr (Int.tdiv (wr ((wr (w17 - w11)) * (Int.tmod v1 10))) 10)))) * w19)) < 2147483648 := wr_R _
          have n37 : -214748364 ≤ (Int.tdiv (wr ((wr (w11 + (wr (Int.tdiv (wr ((wr (w17 - w11)) * (Int.tmod v1 10))) 10)))) * w19)) 10) ∧ (Int.tdiv (wr ((wr (w11 + (wr (Int.tdiv (wr ((wr (w17 - w11)) * (Int.tmod v1 10))) 10)))) * w19)) 10) ≤ 214748364 := td_b (by decide) (by decide) (by omega) (by omega)
          have n38 : (wr (Int.tdiv (wr ((wr (w11 + (wr (Int.tdiv (wr ((wr (w17 - w11)) * (Int.tmod v1 10))) 10)))) * w19)) 10)) = (Int.tdiv (wr ((wr (w11 + (wr (Int.tdiv (wr ((wr (w17 - w11)) * (Int.tmod v1 10))) 10)))) * w19)) 10) := wr_id (show -2147483648 ≤ ((Int.tdiv (wr ((wr (w11 + (wr (Int.tdiv (wr ((wr (w17 - w11)) * (Int.tmod v1 10))) 10)))) * w19)) 10) : Int) ∧ ((Int.tdiv (wr ((wr (w11 + (wr (Int.tdiv (wr ((wr (w17 - w11)) * (Int.tmod v1 10))) 10)))) * w19)) 10) : Int) < 2147483648 from by omega)
          have n39 : -107374182 ≤ (Int.tdiv (wr (Int.tdiv (wr ((wr (w11 + (wr (Int.tdiv (wr ((wr (w17 - w11)) * (Int.tmod v1 10))) 10)))) * w19)) 10)) 2) ∧ (Int.tdiv (wr (Int.tdiv (wr ((wr (w11 + (wr (Int.tdiv (wr ((wr (w17 - w11)) * (Int.tmod v1 10))) 10)))) * w19)) 10)) 2) ≤ 107374182 := td_b (by decide) (by decide) (by omega) (by omega)
          have n40 : (wr (Int.tdiv (wr (Int.tdiv (wr ((wr (w11 + (wr (Int.tdiv (wr ((wr (w17 - w11)) * (Int.tmod v1 10))) 10)))) * w19)) 10)) 2)) = (Int.tdiv (wr (Int.tdiv (wr ((wr (w11 + (wr (Int.tdiv (wr ((wr (w17 - w11)) * (Int.tmod v1 10))) 10)))) * w19)) 10)) 2) := wr_id (show -2147483648 ≤ ((Int.tdiv (wr (Int.tdiv (wr ((wr (w11 + (wr (Int.tdiv (wr ((wr (w17 - w11)) * (Int.tmod v1 10))) 10)))) * w19)) 10)) 2) : Int) ∧ ((Int.tdiv (wr (Int.tdiv (wr ((wr (w11 + (wr (Int.tdiv (wr ((wr (w17 - w11)) * (Int.tmod v1 10))) 10)))) * w19)) 10)) 2) : Int) < 2147483648 from by omega)
          have n41 : (wr ((wr (Int.tdiv (wr (Int.tdiv (wr ((wr (w11 + (wr (Int.tdiv (wr ((wr (w17 - w11)) * (Int.tmod v1 10))) 10)))) * w19)) 10)) 2)) - 5)) = (wr (Int.tdiv (wr (Int.tdiv (wr ((wr (w11 + (wr (Int.tdiv (wr ((wr (w17 - w11)) * (Int.tmod v1 10))) 10)))) * w19)) 10)) 2)) - 5 := wr_id (show -2147483648 ≤ ((wr (Int.tdiv (wr (Int.tdiv (wr ((wr (w11 + (wr (Int.tdiv (wr ((wr (w17 - w11)) * (Int.tmod v1 10))) 10)))) * w19)) 10)) 2)) - 5 : Int) ∧ ((wr (Int.tdiv (wr (Int.tdiv (wr ((wr (w11 + (wr (Int.tdiv (wr ((wr (w17 - w11)) * (Int.tmod v1 10))) 10)))) * w19)) 10)) 2)) - 5 : Int) < 2147483648 from by omega)
          refine j_max (fun w42 h43 h44 h45 => ?_)
          exact ⟨rfl, fun hv hA' => hQ _ (hv _ rfl) ((by
                              have y1 : w11 = (fun j => I 236 (309 + 66 * Int.toNat v0 + j)) (Int.toNat (v1 / 10)) := hw12.trans (congrArg (I 236) (by omega))
                              have z1 : 0 ≤ w11 ∧ w11 ≤ 9999 := by rw [y1]; exact ha (Int.toNat (v1 / 10)) (by omega)
                              have y2 : w17 = (fun j => I 236 (309 + 66 * Int.toNat v0 + j)) (Int.toNat (v1 / 10 + 1)) := hw18.trans (congrArg (I 236) (by omega))
                              have z2 : 0 ≤ w17 ∧ w17 ≤ 9999 := by rw [y2]; exact ha (Int.toNat (v1 / 10 + 1)) (by omega)
                              have t := stF_i (a := w11) (b := w17) (p := v1 % 10) z1 z2 (by omega)
                              have f : fA (I 236 (Int.toNat (307 + 66 * v0))) (fun j => I 236 (309 + 66 * Int.toNat v0 + j)) v1 = stF w11 w17 (v1 % 10) := by unfold fA; rw [if_neg (by omega), ← y1, ← y2]
                              have e := ans_v (v := stF w11 w17 (v1 % 10)) (s := w19) (stF_b z1 z2 (by omega)).2.2 (by rw [hw20]; exact hs)
                              rw [← t, ← Int.tmod_eq_emod_of_nonneg (a := v1) (b := 10) (by omega)] at e
                              rw [← Int.tmod_eq_emod_of_nonneg (a := v1) (b := 10) (by omega)] at t f
                              rw [← t] at f
                              unfold fAns; rw [if_neg (by omega), f, ← hw22, ← hw20]; unfold fV2
                              (repeat' split) <;> omega))⟩
      ·
        refine ⟨(by decide), ?_⟩
        exact ⟨rfl, fun hv hA' => hQ _ (hv _ rfl) ((by
                              have y1 : w11 = (fun j => I 236 (309 + 66 * Int.toNat v0 + j)) (Int.toNat (v1 / 10)) := hw12.trans (congrArg (I 236) (by omega))
                              have z1 : 0 ≤ w11 ∧ w11 ≤ 9999 := by rw [y1]; exact ha (Int.toNat (v1 / 10)) (by omega)
                              have y2 : w17 = (fun j => I 236 (309 + 66 * Int.toNat v0 + j)) (Int.toNat (v1 / 10 + 1)) := hw18.trans (congrArg (I 236) (by omega))
                              have z2 : 0 ≤ w17 ∧ w17 ≤ 9999 := by rw [y2]; exact ha (Int.toNat (v1 / 10 + 1)) (by omega)
                              have t := stF_i (a := w11) (b := w17) (p := v1 % 10) z1 z2 (by omega)
                              have f : fA (I 236 (Int.toNat (307 + 66 * v0))) (fun j => I 236 (309 + 66 * Int.toNat v0 + j)) v1 = stF w11 w17 (v1 % 10) := by unfold fA; rw [if_neg (by omega), ← y1, ← y2]
                              have e := ans_v (v := stF w11 w17 (v1 % 10)) (s := w19) (stF_b z1 z2 (by omega)).2.2 (by rw [hw20]; exact hs)
                              rw [← t, ← Int.tmod_eq_emod_of_nonneg (a := v1) (b := 10) (by omega)] at e
                              rw [← Int.tmod_eq_emod_of_nonneg (a := v1) (b := 10) (by omega)] at t f
                              rw [← t] at f
                              unfold fAns; rw [if_neg (by omega), f, ← hw22, ← hw20]; unfold fV2
                              (repeat' split) <;> omega))⟩
    ·
      refine ⟨⟨_, rfl, (by decide)⟩, ?_⟩
      refine r_of (p := v0) (f := 2) hF (j := (Int.toNat (306 + 66 * v0))) (by omega) (by omega) (by omega) (fun w46 hw47 => ?_)
      have hw47 : w46 = (I 236 (Int.toNat (306 + 66 * v0))) := hw47
      refine ⟨(by decide), ?_⟩
      refine ⟨⟨_, rfl, (by decide)⟩, ?_⟩
      refine r_of (p := v0) (f := 0) hF (j := (Int.toNat (304 + 66 * v0))) (by omega) (by omega) (by omega) (fun w48 hw49 => ?_)
      have r50 : 0 ≤ (I 236 (Int.toNat (304 + 66 * v0))) ∧ (I 236 (Int.toNat (304 + 66 * v0))) ≤ 5 := Pn_p0 (p := (Int.toNat v0)) (by omega) (by omega) (hR.n (Int.toNat (304 + 66 * v0)) (by omega))
      have hw49 : w48 = (I 236 (Int.toNat (304 + 66 * v0))) := hw49
      refine ⟨fun (c52 : (¬ (w48 : Int) = 2)) => ?_, fun (c52 : ((w48 : Int) = 2)) => ?_⟩
      ·
        refine ⟨fun (c53 : (¬ (w48 : Int) = 5)) => ?_, fun (c53 : ((w48 : Int) = 5)) => ?_⟩
        ·
          exact ⟨rfl, fun hv hA' => hQ _ (hv _ rfl) ((by
                              have y1 : w11 = (fun j => I 236 (309 + 66 * Int.toNat v0 + j)) (Int.toNat (v1 / 10)) := hw12.trans (congrArg (I 236) (by omega))
                              have z1 : 0 ≤ w11 ∧ w11 ≤ 9999 := by rw [y1]; exact ha (Int.toNat (v1 / 10)) (by omega)
                              have f : fA (I 236 (Int.toNat (307 + 66 * v0))) (fun j => I 236 (309 + 66 * Int.toNat v0 + j)) v1 = (wr (w11 + 0)) := by unfold fA; rw [if_pos (by omega), ← y1]; unfold wr; omega
                              have e := ans_v (v := (wr (w11 + 0))) (s := w46) (by unfold wr; omega) (by rw [hw47]; exact hs)
                              unfold fAns; rw [if_neg (by omega), f, ← hw49, ← hw47]; unfold fV2
                              (repeat' split) <;> omega))⟩
        ·
          refine ⟨(by decide), ?_⟩
          have a54 : -2147483648 ≤ (I 236 (Int.toNat (309 + (wr (Int.tdiv v1 10)) + 66 * v0))) ∧ (I 236 (Int.toNat (309 + (wr (Int.tdiv v1 10)) + 66 * v0))) < 2147483648 := hA.1 _ _
          have a55 : -2147483648 ≤ (I 236 (Int.toNat (306 + 66 * v0))) ∧ (I 236 (Int.toNat (306 + 66 * v0))) < 2147483648 := hA.1 _ _
          have n56 : (wr (w11 + 0)) = w11 + 0 := wr_id (show -2147483648 ≤ (w11 + 0 : Int) ∧ (w11 + 0 : Int) < 2147483648 from by omega)
          have n57 : -2147483648 ≤ (wr ((wr (w11 + 0)) * w46)) ∧ (wr ((wr (w11 + 0)) * w46)) < 2147483648 := wr_R _
          have n58 : -214748364 ≤ (Int.tdiv (wr ((wr (w11 + 0)) * w46)) 10) ∧ (Int.tdiv (wr ((wr (w11 + 0)) * w46)) 10) ≤ 214748364 := td_b (by decide) (by decide) (by omega) (by omega)
          have n59 : (wr (Int.tdiv (wr ((wr (w11 + 0)) * w46)) 10)) = (Int.tdiv (wr ((wr (w11 + 0)) * w46)) 10) := wr_id (show -2147483648 ≤ ((Int.tdiv (wr ((wr (w11 + 0)) * w46)) 10) : Int) ∧ ((Int.tdiv (wr ((wr (w11 + 0)) * w46)) 10) : Int) < 2147483648 from by omega)
          have n60 : -107374182 ≤ (Int.tdiv (wr (Int.tdiv (wr ((wr (w11 + 0)) * w46)) 10)) 2) ∧ (Int.tdiv (wr (Int.tdiv (wr ((wr (w11 + 0)) * w46)) 10)) 2) ≤ 107374182 := td_b (by decide) (by decide) (by omega) (by omega)
          have n61 : (wr (Int.tdiv (wr (Int.tdiv (wr ((wr (w11 + 0)) * w46)) 10)) 2)) = (Int.tdiv (wr (Int.tdiv (wr ((wr (w11 + 0)) * w46)) 10)) 2) := wr_id (show -2147483648 ≤ ((Int.tdiv (wr (Int.tdiv (wr ((wr (w11 + 0)) * w46)) 10)) 2) : Int) ∧ ((Int.tdiv (wr (Int.tdiv (wr ((wr (w11 + 0)) * w46)) 10)) 2) : Int) < 2147483648 from by omega)
          have n62 : (wr ((wr (Int.tdiv (wr (Int.tdiv (wr ((wr (w11 + 0)) * w46)) 10)) 2)) - 5)) = (wr (Int.tdiv (wr (Int.tdiv (wr ((wr (w11 + 0)) * w46)) 10)) 2)) - 5 := wr_id (show -2147483648 ≤ ((wr (Int.tdiv (wr (Int.tdiv (wr ((wr (w11 + 0)) * w46)) 10)) 2)) - 5 : Int) ∧ ((wr (Int.tdiv (wr (Int.tdiv (wr ((wr (w11 + 0)) * w46)) 10)) 2)) - 5 : Int) < 2147483648 from by omega)
          refine j_max (fun w63 h64 h65 h66 => ?_)
          exact ⟨rfl, fun hv hA' => hQ _ (hv _ rfl) ((by
                              have y1 : w11 = (fun j => I 236 (309 + 66 * Int.toNat v0 + j)) (Int.toNat (v1 / 10)) := hw12.trans (congrArg (I 236) (by omega))
                              have z1 : 0 ≤ w11 ∧ w11 ≤ 9999 := by rw [y1]; exact ha (Int.toNat (v1 / 10)) (by omega)
                              have f : fA (I 236 (Int.toNat (307 + 66 * v0))) (fun j => I 236 (309 + 66 * Int.toNat v0 + j)) v1 = (wr (w11 + 0)) := by unfold fA; rw [if_pos (by omega), ← y1]; unfold wr; omega
                              have e := ans_v (v := (wr (w11 + 0))) (s := w46) (by unfold wr; omega) (by rw [hw47]; exact hs)
                              unfold fAns; rw [if_neg (by omega), f, ← hw49, ← hw47]; unfold fV2
                              (repeat' split) <;> omega))⟩
      ·
        refine ⟨(by decide), ?_⟩
        exact ⟨rfl, fun hv hA' => hQ _ (hv _ rfl) ((by
                              have y1 : w11 = (fun j => I 236 (309 + 66 * Int.toNat v0 + j)) (Int.toNat (v1 / 10)) := hw12.trans (congrArg (I 236) (by omega))
                              have z1 : 0 ≤ w11 ∧ w11 ≤ 9999 := by rw [y1]; exact ha (Int.toNat (v1 / 10)) (by omega)
                              have f : fA (I 236 (Int.toNat (307 + 66 * v0))) (fun j => I 236 (309 + 66 * Int.toNat v0 + j)) v1 = (wr (w11 + 0)) := by unfold fA; rw [if_pos (by omega), ← y1]; unfold wr; omega
                              have e := ans_v (v := (wr (w11 + 0))) (s := w46) (by unfold wr; omega) (by rw [hw47]; exact hs)
                              unfold fAns; rw [if_neg (by omega), f, ← hw49, ← hw47]; unfold fV2
                              (repeat' split) <;> omega))⟩
  ·
    exact ⟨rfl, fun hv hA' => hQ _ (hv _ rfl) ((by unfold fAns; rw [if_pos (by omega)]))⟩
/-- the ranges of a piece of the class, of the reference -/
abbrev PRG (I : pI) (a : Nat) : Prop := (0 ≤ I a 0 ∧ I a 0 ≤ 5) ∧ (1 ≤ I a 2 ∧ I a 2 ≤ 99) ∧ (2 ≤ I a 4 ∧ I a 4 ≤ 12) ∧ ∀ j : Nat, (j : Int) < I a 4 → 0 ≤ I (a + 1) j ∧ I (a + 1) j ≤ 9999
abbrev RRG (I : pI) (p : Nat) : Prop := (1 ≤ I 236 (306 + 66 * p) ∧ I 236 (306 + 66 * p) ≤ 99) ∧ (2 ≤ I 236 (307 + 66 * p) ∧ I 236 (307 + 66 * p) ≤ 12) ∧ ∀ j : Nat, (j : Int) < I 236 (307 + 66 * p) → 0 ≤ I 236 (309 + 66 * p + j) ∧ I 236 (309 + 66 * p + j) ≤ 9999
end AW
theorem LPc_c {I : pI} (hR : Rg I) (h : LPc I) (eO : I 1 1 = I 236 0) : ∀ p : Nat, (p : Int) < I 1 1 → PRG I (1 + 19 + 5 * p) := fun p hp => by
  have e := h p (by omega)
  rw [show 20 + 5 * p = 1 + 19 + 5 * p from by omega] at e
  exact ⟨e.2.2.1.1, e.2.2.1.2.2.1, e.2.2.1.2.2.2, e.2.2.2⟩
theorem LPc_m {I : pI} (h : LPc I) : ∀ p : Nat, (p : Int) < I 236 0 → RRG I p := fun p hp => by
  have e := h p hp
  obtain ⟨⟨e0, e1, e2, e4⟩, f, g, k⟩ := e
  unfold RRG
  rw [show 306 + 66 * p = 304 + 66 * p + 2 from by omega, show 307 + 66 * p = 304 + 66 * p + 3 from by omega, ← e2, ← e4]
  refine ⟨g.2.2.1, g.2.2.2, fun j hj => ?_⟩
  rw [show 309 + 66 * p + j = 304 + 66 * p + 5 + j from by omega, ← f j hj]
  exact k j hj
