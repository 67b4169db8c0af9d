/-! what check answers, the class's and the reference's. Own work (scripts laid by wip/pm/gen34.py). -/
section CH10
variable {G : pG} {d : Nat} {F : pF} {I : pI} {Q : Option pV → pF → pI → Prop}
def flS (R : pI) (k : Nat) : Int := if k % 2 = 0 then R 2 (k / 2) else R 3 (k / 2)
theorem flS_0 {R : pI} {k : Nat} (h : k % 2 = 0) : flS R k = R 2 (k / 2) := if_pos h
theorem flS_1 {R : pI} {k : Nat} (h : ¬ k % 2 = 0) : flS R k = R 3 (k / 2) := if_neg h
def chR (W : Nat → Int) (R : pI) (w : Int) : Nat → Nat → Int
  | 0, _ => 0
  | f + 1, k => if (k : Int) < w ∧ (k : Int) < 2 * R 0 5 ∧ W k = flS R k then chR W R w f (k + 1) else if (k : Int) = w ∧ (k : Int) = 2 * R 0 5 then 0 else 1 + (k : Int)
theorem chR_s {W : Nat → Int} {R : pI} {w : Int} {f k : Nat} (h : (k : Int) < w ∧ (k : Int) < 2 * R 0 5 ∧ W k = flS R k) : chR W R w (f + 1) k = chR W R w f (k + 1) := if_pos h
theorem chR_z {W : Nat → Int} {R : pI} {w : Int} {f k : Nat} (h : (k : Int) = w ∧ (k : Int) = 2 * R 0 5) : chR W R w (f + 1) k = 0 := (if_neg (fun z => by have a := z.1; omega)).trans (if_pos h)
theorem chR_n {W : Nat → Int} {R : pI} {w : Int} {f k : Nat} (h : ¬ ((k : Int) < w ∧ (k : Int) < 2 * R 0 5 ∧ W k = flS R k)) (h2 : ¬ ((k : Int) = w ∧ (k : Int) = 2 * R 0 5)) : chR W R w (f + 1) k = 1 + (k : Int) := (if_neg h).trans (if_neg h2)
theorem chR_e {W V : Nat → Int} {R : pI} {w : Int} (h : ∀ k : Nat, (k : Int) < w → W k = V k) : ∀ f k : Nat, chR W R w f k = chR V R w f k := by
  intro f
  induction f with
  | zero => intro k; rfl
  | succ f IH =>
    intro k
    unfold chR
    by_cases c : (k : Int) < w ∧ (k : Int) < 2 * R 0 5 ∧ V k = flS R k
    · rw [if_pos c, if_pos ⟨c.1, c.2.1, (h k c.1).trans c.2.2⟩, IH]
    · rw [if_neg c, if_neg (fun z => c ⟨z.1, z.2.1, (h k z.1).symm.trans z.2.2⟩)]
theorem CR8_f {ld : Int → Int} {P : Nat → Int} {q : Nat} {I J : pI} (h : CR8 ld P q I) (e : ∀ j, J 4 j = I 4 j) (f : ∀ j, J q j = I q j) (g : ∀ j, J (q + 1) j = I (q + 1) j) : CR8 ld P q J := by
  unfold CR8
  rw [show J q = I q from funext f, show J (q + 1) = I (q + 1) from funext g, show J 4 = I 4 from funext e]
  exact h
theorem RR8_f {ld : Int → Int} {P : Nat → Int} {p : Nat} {I J : pI} (h : RR8 ld P p I) (f : ∀ j, ¬ j = 3 → J 236 j = I 236 j) : RR8 ld P p J := by
  have e : ∀ j, J 236 (309 + 66 * p + j) = I 236 (309 + 66 * p + j) := fun j => f _ (by omega)
  unfold RR8
  simp only [e]
  rw [f (306 + 66 * p) (by omega), f (307 + 66 * p) (by omega), f (304 + 66 * p) (by omega), f 4 (by decide), f 5 (by decide), f 6 (by decide), f 7 (by decide), f 8 (by decide)]
  exact h
theorem PR8_f {v : Nat} {I J : pI} (h : PR8 v I) (f : ∀ j, ¬ j = 3 → J 236 j = I 236 j) : PR8 v J := by
  have e1 : ∀ k, J 236 (42 + 36 * v + 2 * k) = I 236 (42 + 36 * v + 2 * k) := fun k => f _ (by omega)
  have e2 : ∀ k, J 236 (43 + 36 * v + 2 * k) = I 236 (43 + 36 * v + 2 * k) := fun k => f _ (by omega)
  unfold PR8
  simp only [e1, e2]
  rw [f (41 + 36 * v) (by omega), f (40 + 36 * v) (by omega)]
  exact h
theorem c_unlike10_l (hF : FS F) (hR : Rg I) {v0 : Int} {RR : pI} (hMC : MC 1 RR I) (hWS : WS RR) (hw : 0 ≤ v0 ∧ v0 ≤ 48) {TT : Int} (hQ : ∀ (r : Int) , (r = TT) → Q (some (vi r)) F I) : ∀ (mz : Nat) (mo i : Int) , ((0 : Int) ≤ i) → ((i : Int) ≤ 48) → (mo = v0 ∨ mo = 2 * RR 0 5) → (v0 ≤ mo) → (2 * RR 0 5 ≤ mo) → (i ≤ v0) → (i ≤ 2 * RR 0 5) → (chR (I 19) RR v0 (Int.toNat (49 - i)) (Int.toNat i) = TT) → (mo - i).toNat < mz → GoN G (d + 2) kX11_firstUnlike NP NP 14 [some (vr 0), some (vi v0), some (vr 210), some (vi mo), some (vi i)] [] F I Q := by
  intro mz
  induction mz with
  | zero => intro mo i _ _ _ _ _ _ _ _ h; exact absurd h (Nat.not_lt_zero _)
  | succ mz ih =>
    intro mo i cc100 cc101 cc102 cc103 cc104 cc105 cc106 cc107 hm
    refine GoN_in (fun hok hA => ?_)
    have iiv0 : -2147483648 ≤ v0 ∧ v0 < 2147483648 := hok 1 _ rfl
    have iimo : -2147483648 ≤ mo ∧ mo < 2147483648 := hok 3 _ rfl
    have iii : -2147483648 ≤ i ∧ i < 2147483648 := hok 4 _ rfl
    have hMC2 := hMC
    obtain ⟨⟨m8, m13, m14, m11, m10, m9, m2⟩, ma, mr⟩ := hMC2
    have hWS2 := hWS
    obtain ⟨wa, wb_, wc, wd⟩ := hWS2
    have w0 : wr (2 * I 210 2) = 2 * I 210 2 := wr_id (by unfold iR; omega)
    refine Go_wp (by decide) ckX11_firstUnlike [14] ?_
    refine ⟨fun (c1 : ((mo : Int) ≤ i)) => ?_, fun (c1 : (¬ ((mo : Int) ≤ i))) => ?_⟩
    ·
      exact ⟨rfl, hQ _ ((by
                              have hT := cc107
                              rw [show Int.toNat (49 - i) = Int.toNat (48 - i) + 1 from by omega, chR_z ⟨by omega, by omega⟩] at hT
                              exact hT))⟩
    ·
      refine ⟨fun (c2 : ((v0 : Int) ≤ i)) => ?_, fun (c2 : (¬ ((v0 : Int) ≤ i))) => ?_⟩
      ·
        exact ⟨rfl, hQ _ ((by
                              have n1 : wr (1 + i) = 1 + i := wr_id (by unfold iR; omega)
                              have hT := cc107
                              rw [show Int.toNat (49 - i) = Int.toNat (48 - i) + 1 from by omega, chR_n (fun z => by have z1 := z.1; have z2 := z.2.1; have z3 : I 19 (Int.toNat i) = flS RR (Int.toNat i) := z.2.2; omega) (fun z => by have z1 := z.1; have z2 := z.2; omega)] at hT
                              omega))⟩
      ·
        refine ⟨_, rfl, (by decide), ?_⟩
        have a3 : -2147483648 ≤ (I 210 2) ∧ (I 210 2) < 2147483648 := hA.1 _ _
        have n4 : -2147483648 ≤ (wr (2 * (I 210 2))) ∧ (wr (2 * (I 210 2))) < 2147483648 := wr_R _
        refine ⟨fun (c5 : (((wr (2 * (I 210 2))) : Int) ≤ i)) => ?_, fun (c5 : (¬ (((wr (2 * (I 210 2))) : Int) ≤ i))) => ?_⟩
        ·
          exact ⟨rfl, hQ _ ((by
                              have n1 : wr (1 + i) = 1 + i := wr_id (by unfold iR; omega)
                              have hT := cc107
                              rw [show Int.toNat (49 - i) = Int.toNat (48 - i) + 1 from by omega, chR_n (fun z => by have z1 := z.1; have z2 := z.2.1; have z3 : I 19 (Int.toNat i) = flS RR (Int.toNat i) := z.2.2; omega) (fun z => by have z1 := z.1; have z2 := z.2; omega)] at hT
                              omega))⟩
        ·
          refine ⟨_, rfl, (by decide), ?_⟩
          refine fun w0 hw0 => ?_; obtain rfl : w0 = some 1 := hw0.symm.trans (FS.g hF rfl)
          refine ⟨⟨_, rfl, (by decide)⟩, ?_⟩
          refine Call_wp (lv := [some (vr 1), some (vi i)]) (by decide) ckX8_waitingAt [] rfl rfl ?_
          refine ⟨fun c => absurd c (show (¬ ((i : Int) < 0)) from by first | omega | (simp only [wr, wl] at *; omega)), fun _ => ?_⟩
          refine ⟨fun (c6 : ((48 : Int) ≤ i)) => ?_, fun (c6 : (¬ ((48 : Int) ≤ i))) => ?_⟩
          ·
            refine ⟨rfl, ?_⟩
            refine ⟨⟨_, rfl, (by decide)⟩, ?_⟩
            refine Call_wp (lv := [some (vr 210), some (vi i)]) (by decide) ckX6_flatAt [] rfl rfl ?_
            refine ⟨(by decide), ?_⟩
            have n7 : (Int.tmod i 2) = (i : Int) % 2 := Int.tmod_eq_emod_of_nonneg (by omega)
            refine ⟨fun (c8 : (¬ ((Int.tmod i 2) : Int) = 0)) => ?_, fun (c8 : (((Int.tmod i 2) : Int) = 0)) => ?_⟩
            ·
              refine ⟨(by decide), ?_⟩
              refine ⟨⟨_, rfl, (by decide)⟩, ?_⟩
              refine Call_wp (lv := [some (vr 210), some (vi (wr (Int.tdiv i 2)))]) (by decide) ckX6_loadAt [] rfl rfl ?_
              have n9 : (Int.tdiv i 2) = (i : Int) / 2 := Int.tdiv_eq_ediv_of_nonneg (by omega)
              have n10 : (wr (Int.tdiv i 2)) = (Int.tdiv i 2) := wr_id (show -2147483648 ≤ ((Int.tdiv i 2) : Int) ∧ ((Int.tdiv i 2) : Int) < 2147483648 from by omega)
              refine ⟨fun c => absurd c (show (¬ (((wr (Int.tdiv i 2)) : Int) < 0)) from by first | omega | (simp only [wr, wl] at *; omega)), fun _ => ?_⟩
              refine ⟨_, rfl, (by decide), ?_⟩
              refine ⟨fun (c11 : (((I 210 2) : Int) ≤ (wr (Int.tdiv i 2)))) => ?_, fun (c11 : (¬ (((I 210 2) : Int) ≤ (wr (Int.tdiv i 2))))) => ?_⟩
              ·
                refine ⟨rfl, ?_⟩
                refine ⟨rfl, ?_⟩
                refine ⟨fun c => absurd c (show (¬ ((0 : Int) = (-1))) from by decide), fun _ => ?_⟩
                exact ⟨rfl, hQ _ ((by
                              have n1 : wr (1 + i) = 1 + i := wr_id (by unfold iR; omega)
                              have hT := cc107
                              rw [show Int.toNat (49 - i) = Int.toNat (48 - i) + 1 from by omega, chR_n (fun z => by have z1 := z.1; have z2 := z.2.1; have z3 : I 19 (Int.toNat i) = flS RR (Int.toNat i) := z.2.2; omega) (fun z => by have z1 := z.1; have z2 := z.2; omega)] at hT
                              omega))⟩
              ·
                refine ⟨fun _ => ?_, fun c => absurd (show ((24 : Int) ≤ (wr (Int.tdiv i 2))) from by first | with_reducible assumption | omega | (simp only [wr, wl] at *; omega)) c⟩
                refine ⟨rfl, ?_⟩
                refine ⟨rfl, ?_⟩
                refine ⟨fun c => absurd c (show (¬ ((0 : Int) = (-1))) from by decide), fun _ => ?_⟩
                exact ⟨rfl, hQ _ ((by
                              have n1 : wr (1 + i) = 1 + i := wr_id (by unfold iR; omega)
                              have hT := cc107
                              rw [show Int.toNat (49 - i) = Int.toNat (48 - i) + 1 from by omega, chR_n (fun z => by have z1 := z.1; have z2 := z.2.1; have z3 : I 19 (Int.toNat i) = flS RR (Int.toNat i) := z.2.2; omega) (fun z => by have z1 := z.1; have z2 := z.2; omega)] at hT
                              omega))⟩
            ·
              refine ⟨(by decide), ?_⟩
              refine ⟨⟨_, rfl, (by decide)⟩, ?_⟩
              refine Call_wp (lv := [some (vr 210), some (vi (wr (Int.tdiv i 2)))]) (by decide) ckX6_stretchAt [] rfl rfl ?_
              have n12 : (Int.tdiv i 2) = (i : Int) / 2 := Int.tdiv_eq_ediv_of_nonneg (by omega)
              have n13 : (wr (Int.tdiv i 2)) = (Int.tdiv i 2) := wr_id (show -2147483648 ≤ ((Int.tdiv i 2) : Int) ∧ ((Int.tdiv i 2) : Int) < 2147483648 from by omega)
              refine ⟨fun c => absurd c (show (¬ (((wr (Int.tdiv i 2)) : Int) < 0)) from by first | omega | (simp only [wr, wl] at *; omega)), fun _ => ?_⟩
              refine ⟨_, rfl, (by decide), ?_⟩
              refine ⟨fun (c14 : (((I 210 2) : Int) ≤ (wr (Int.tdiv i 2)))) => ?_, fun (c14 : (¬ (((I 210 2) : Int) ≤ (wr (Int.tdiv i 2))))) => ?_⟩
              ·
                refine ⟨rfl, ?_⟩
                refine ⟨rfl, ?_⟩
                refine ⟨fun _ => ?_, fun c => absurd (show ((0 : Int) = 0) from by decide) c⟩
                have n15 : (wr (i + 1)) = i + 1 := wr_id (show -2147483648 ≤ (i + 1 : Int) ∧ (i + 1 : Int) < 2147483648 from by omega)
                exact ih mo (wr (i + 1))  (show (0 : Int) ≤ (wr (i + 1)) from by first | with_reducible assumption | omega | (simp only [wr, wl] at *; omega)) (show ((wr (i + 1)) : Int) ≤ 48 from by first | with_reducible assumption | omega | (simp only [wr, wl] at *; omega)) (show mo = v0 ∨ mo = 2 * RR 0 5 from by first | omega | (simp only [wr, wl] at *; omega)) (show v0 ≤ mo from by first | with_reducible assumption | omega | (simp only [wr, wl] at *; omega)) (show 2 * RR 0 5 ≤ mo from by first | with_reducible assumption | omega | (simp only [wr, wl] at *; omega)) (show (wr (i + 1)) ≤ v0 from by first | with_reducible assumption | omega | (simp only [wr, wl] at *; omega)) (show (wr (i + 1)) ≤ 2 * RR 0 5 from by first | with_reducible assumption | omega | (simp only [wr, wl] at *; omega)) ((by
                              have hT := cc107
                              rw [show Int.toNat (49 - i) = Int.toNat (49 - (wr (i + 1))) + 1 from by omega, chR_s ⟨by omega, by omega, (show I 19 (Int.toNat i) = flS RR (Int.toNat i) from by omega)⟩, show Int.toNat i + 1 = Int.toNat (wr (i + 1)) from by omega] at hT
                              exact hT)) (show (mo - (wr (i + 1))).toNat < mz from by omega)
              ·
                refine ⟨fun _ => ?_, fun c => absurd (show ((24 : Int) ≤ (wr (Int.tdiv i 2))) from by first | with_reducible assumption | omega | (simp only [wr, wl] at *; omega)) c⟩
                refine ⟨rfl, ?_⟩
                refine ⟨rfl, ?_⟩
                refine ⟨fun _ => ?_, fun c => absurd (show ((0 : Int) = 0) from by decide) c⟩
                have n16 : (wr (i + 1)) = i + 1 := wr_id (show -2147483648 ≤ (i + 1 : Int) ∧ (i + 1 : Int) < 2147483648 from by omega)
                exact ih mo (wr (i + 1))  (show (0 : Int) ≤ (wr (i + 1)) from by first | with_reducible assumption | omega | (simp only [wr, wl] at *; omega)) (show ((wr (i + 1)) : Int) ≤ 48 from by first | with_reducible assumption | omega | (simp only [wr, wl] at *; omega)) (show mo = v0 ∨ mo = 2 * RR 0 5 from by first | omega | (simp only [wr, wl] at *; omega)) (show v0 ≤ mo from by first | with_reducible assumption | omega | (simp only [wr, wl] at *; omega)) (show 2 * RR 0 5 ≤ mo from by first | with_reducible assumption | omega | (simp only [wr, wl] at *; omega)) (show (wr (i + 1)) ≤ v0 from by first | with_reducible assumption | omega | (simp only [wr, wl] at *; omega)) (show (wr (i + 1)) ≤ 2 * RR 0 5 from by first | with_reducible assumption | omega | (simp only [wr, wl] at *; omega)) ((by
                              have hT := cc107
                              rw [show Int.toNat (49 - i) = Int.toNat (49 - (wr (i + 1))) + 1 from by omega, chR_s ⟨by omega, by omega, (show I 19 (Int.toNat i) = flS RR (Int.toNat i) from by omega)⟩, show Int.toNat i + 1 = Int.toNat (wr (i + 1)) from by omega] at hT
                              exact hT)) (show (mo - (wr (i + 1))).toNat < mz from by omega)
          ·
            refine ⟨_, rfl, (by decide), ?_⟩
            refine fun w0 hw0 => ?_; obtain rfl : w0 = some 19 := hw0.symm.trans (FS.g hF rfl)
            refine ⟨_, rfl, (by decide), (show (0 : Int) ≤ i from by first | with_reducible assumption | omega | (simp only [wr, wl] at *; omega)), (show i < (48 : Int) from by first | with_reducible assumption | omega | (simp only [wr, wl] at *; omega)), ?_⟩
            have z17 : (I 19 (Int.toNat i)) = I 19 (Int.toNat i) := congrArg (I 19) (by omega)
            refine ⟨rfl, ?_⟩
            refine ⟨⟨_, rfl, (by decide)⟩, ?_⟩
            refine Call_wp (lv := [some (vr 210), some (vi i)]) (by decide) ckX6_flatAt [] rfl rfl ?_
            refine ⟨(by decide), ?_⟩
            have n18 : (Int.tmod i 2) = (i : Int) % 2 := Int.tmod_eq_emod_of_nonneg (by omega)
            refine ⟨fun (c19 : (¬ ((Int.tmod i 2) : Int) = 0)) => ?_, fun (c19 : (((Int.tmod i 2) : Int) = 0)) => ?_⟩
            ·
              refine ⟨(by decide), ?_⟩
              refine ⟨⟨_, rfl, (by decide)⟩, ?_⟩
              refine Call_wp (lv := [some (vr 210), some (vi (wr (Int.tdiv i 2)))]) (by decide) ckX6_loadAt [] rfl rfl ?_
              have n20 : (Int.tdiv i 2) = (i : Int) / 2 := Int.tdiv_eq_ediv_of_nonneg (by omega)
              have n21 : (wr (Int.tdiv i 2)) = (Int.tdiv i 2) := wr_id (show -2147483648 ≤ ((Int.tdiv i 2) : Int) ∧ ((Int.tdiv i 2) : Int) < 2147483648 from by omega)
              refine ⟨fun c => absurd c (show (¬ (((wr (Int.tdiv i 2)) : Int) < 0)) from by first | omega | (simp only [wr, wl] at *; omega)), fun _ => ?_⟩
              refine ⟨_, rfl, (by decide), ?_⟩
              refine ⟨fun (c22 : (((I 210 2) : Int) ≤ (wr (Int.tdiv i 2)))) => ?_, fun (c22 : (¬ (((I 210 2) : Int) ≤ (wr (Int.tdiv i 2))))) => ?_⟩
              ·
                refine ⟨rfl, ?_⟩
                refine ⟨rfl, ?_⟩
                have a23 : -2147483648 ≤ (I 19 (Int.toNat i)) ∧ (I 19 (Int.toNat i)) < 2147483648 := hA.1 _ _
                refine ⟨fun (c24 : (((I 19 (Int.toNat i)) : Int) = (-1))) => ?_, fun (c24 : (¬ (((I 19 (Int.toNat i)) : Int) = (-1)))) => ?_⟩
                ·
                  have n25 : (wr (i + 1)) = i + 1 := wr_id (show -2147483648 ≤ (i + 1 : Int) ∧ (i + 1 : Int) < 2147483648 from by omega)
                  exact ih mo (wr (i + 1))  (show (0 : Int) ≤ (wr (i + 1)) from by first | with_reducible assumption | omega | (simp only [wr, wl] at *; omega)) (show ((wr (i + 1)) : Int) ≤ 48 from by first | with_reducible assumption | omega | (simp only [wr, wl] at *; omega)) (show mo = v0 ∨ mo = 2 * RR 0 5 from by first | omega | (simp only [wr, wl] at *; omega)) (show v0 ≤ mo from by first | with_reducible assumption | omega | (simp only [wr, wl] at *; omega)) (show 2 * RR 0 5 ≤ mo from by first | with_reducible assumption | omega | (simp only [wr, wl] at *; omega)) (show (wr (i + 1)) ≤ v0 from by first | with_reducible assumption | omega | (simp only [wr, wl] at *; omega)) (show (wr (i + 1)) ≤ 2 * RR 0 5 from by first | with_reducible assumption | omega | (simp only [wr, wl] at *; omega)) ((by
                              have hT := cc107
                              rw [show Int.toNat (49 - i) = Int.toNat (49 - (wr (i + 1))) + 1 from by omega, chR_s ⟨by omega, by omega, (show I 19 (Int.toNat i) = flS RR (Int.toNat i) from by omega)⟩, show Int.toNat i + 1 = Int.toNat (wr (i + 1)) from by omega] at hT
                              exact hT)) (show (mo - (wr (i + 1))).toNat < mz from by omega)
                ·
                  exact ⟨rfl, hQ _ ((by
                              have n1 : wr (1 + i) = 1 + i := wr_id (by unfold iR; omega)
                              have hT := cc107
                              rw [show Int.toNat (49 - i) = Int.toNat (48 - i) + 1 from by omega, chR_n (fun z => by have z1 := z.1; have z2 := z.2.1; have z3 : I 19 (Int.toNat i) = flS RR (Int.toNat i) := z.2.2; omega) (fun z => by have z1 := z.1; have z2 := z.2; omega)] at hT
                              omega))⟩
              ·
                refine ⟨fun c => absurd c (show (¬ ((24 : Int) ≤ (wr (Int.tdiv i 2)))) from by first | omega | (simp only [wr, wl] at *; omega)), fun _ => ?_⟩
                refine ⟨_, rfl, (by decide), ?_⟩
                refine fun w0 hw0 => ?_; obtain rfl : w0 = some 212 := hw0.symm.trans (FS.g hF rfl)
                refine ⟨_, rfl, (by decide), (show (0 : Int) ≤ (wr (Int.tdiv i 2)) from by first | with_reducible assumption | omega | (simp only [wr, wl] at *; omega)), (show (wr (Int.tdiv i 2)) < (24 : Int) from by first | with_reducible assumption | omega | (simp only [wr, wl] at *; omega)), ?_⟩
                have z26 : (I 212 (Int.toNat (wr (Int.tdiv i 2)))) = flS RR (Int.toNat i) := ((congrArg (I 212) (by omega)).trans (ma (Int.toNat i / 2) (by omega)).2).trans (flS_1 (by omega)).symm
                refine ⟨rfl, ?_⟩
                refine ⟨rfl, ?_⟩
                have a27 : -2147483648 ≤ (I 19 (Int.toNat i)) ∧ (I 19 (Int.toNat i)) < 2147483648 := hA.1 _ _
                have a28 : -2147483648 ≤ (I 212 (Int.toNat (wr (Int.tdiv i 2)))) ∧ (I 212 (Int.toNat (wr (Int.tdiv i 2)))) < 2147483648 := hA.1 _ _
                refine ⟨fun (c29 : (((I 19 (Int.toNat i)) : Int) = (I 212 (Int.toNat (wr (Int.tdiv i 2)))))) => ?_, fun (c29 : (¬ (((I 19 (Int.toNat i)) : Int) = (I 212 (Int.toNat (wr (Int.tdiv i 2))))))) => ?_⟩
                ·
                  have n30 : (wr (i + 1)) = i + 1 := wr_id (show -2147483648 ≤ (i + 1 : Int) ∧ (i + 1 : Int) < 2147483648 from by omega)
                  exact ih mo (wr (i + 1))  (show (0 : Int) ≤ (wr (i + 1)) from by first | with_reducible assumption | omega | (simp only [wr, wl] at *; omega)) (show ((wr (i + 1)) : Int) ≤ 48 from by first | with_reducible assumption | omega | (simp only [wr, wl] at *; omega)) (show mo = v0 ∨ mo = 2 * RR 0 5 from by first | omega | (simp only [wr, wl] at *; omega)) (show v0 ≤ mo from by first | with_reducible assumption | omega | (simp only [wr, wl] at *; omega)) (show 2 * RR 0 5 ≤ mo from by first | with_reducible assumption | omega | (simp only [wr, wl] at *; omega)) (show (wr (i + 1)) ≤ v0 from by first | with_reducible assumption | omega | (simp only [wr, wl] at *; omega)) (show (wr (i + 1)) ≤ 2 * RR 0 5 from by first | with_reducible assumption | omega | (simp only [wr, wl] at *; omega)) ((by
                              have hT := cc107
                              rw [show Int.toNat (49 - i) = Int.toNat (49 - (wr (i + 1))) + 1 from by omega, chR_s ⟨by omega, by omega, (show I 19 (Int.toNat i) = flS RR (Int.toNat i) from by omega)⟩, show Int.toNat i + 1 = Int.toNat (wr (i + 1)) from by omega] at hT
                              exact hT)) (show (mo - (wr (i + 1))).toNat < mz from by omega)
                ·
                  exact ⟨rfl, hQ _ ((by
                              have n1 : wr (1 + i) = 1 + i := wr_id (by unfold iR; omega)
                              have hT := cc107
                              rw [show Int.toNat (49 - i) = Int.toNat (48 - i) + 1 from by omega, chR_n (fun z => by have z1 := z.1; have z2 := z.2.1; have z3 : I 19 (Int.toNat i) = flS RR (Int.toNat i) := z.2.2; omega) (fun z => by have z1 := z.1; have z2 := z.2; omega)] at hT
                              omega))⟩
            ·
              refine ⟨(by decide), ?_⟩
              refine ⟨⟨_, rfl, (by decide)⟩, ?_⟩
              refine Call_wp (lv := [some (vr 210), some (vi (wr (Int.tdiv i 2)))]) (by decide) ckX6_stretchAt [] rfl rfl ?_
              have n31 : (Int.tdiv i 2) = (i : Int) / 2 := Int.tdiv_eq_ediv_of_nonneg (by omega)
              have n32 : (wr (Int.tdiv i 2)) = (Int.tdiv i 2) := wr_id (show -2147483648 ≤ ((Int.tdiv i 2) : Int) ∧ ((Int.tdiv i 2) : Int) < 2147483648 from by omega)
              refine ⟨fun c => absurd c (show (¬ (((wr (Int.tdiv i 2)) : Int) < 0)) from by first | omega | (simp only [wr, wl] at *; omega)), fun _ => ?_⟩
              refine ⟨_, rfl, (by decide), ?_⟩
              refine ⟨fun (c33 : (((I 210 2) : Int) ≤ (wr (Int.tdiv i 2)))) => ?_, fun (c33 : (¬ (((I 210 2) : Int) ≤ (wr (Int.tdiv i 2))))) => ?_⟩
              ·
                refine ⟨rfl, ?_⟩
                refine ⟨rfl, ?_⟩
                have a34 : -2147483648 ≤ (I 19 (Int.toNat i)) ∧ (I 19 (Int.toNat i)) < 2147483648 := hA.1 _ _
                refine ⟨fun (c35 : (((I 19 (Int.toNat i)) : Int) = 0)) => ?_, fun (c35 : (¬ (((I 19 (Int.toNat i)) : Int) = 0))) => ?_⟩
                ·
                  have n36 : (wr (i + 1)) = i + 1 := wr_id (show -2147483648 ≤ (i + 1 : Int) ∧ (i + 1 : Int) < 2147483648 from by omega)
                  exact ih mo (wr (i + 1))  (show (0 : Int) ≤ (wr (i + 1)) from by first | with_reducible assumption | omega | (simp only [wr, wl] at *; omega)) (show ((wr (i + 1)) : Int) ≤ 48 from by first | with_reducible assumption | omega | (simp only [wr, wl] at *; omega)) (show mo = v0 ∨ mo = 2 * RR 0 5 from by first | omega | (simp only [wr, wl] at *; omega)) (show v0 ≤ mo from by first | with_reducible assumption | omega | (simp only [wr, wl] at *; omega)) (show 2 * RR 0 5 ≤ mo from by first | with_reducible assumption | omega | (simp only [wr, wl] at *; omega)) (show (wr (i + 1)) ≤ v0 from by first | with_reducible assumption | omega | (simp only [wr, wl] at *; omega)) (show (wr (i + 1)) ≤ 2 * RR 0 5 from by first | with_reducible assumption | omega | (simp only [wr, wl] at *; omega)) ((by
                              have hT := cc107
                              rw [show Int.toNat (49 - i) = Int.toNat (49 - (wr (i + 1))) + 1 from by omega, chR_s ⟨by omega, by omega, (show I 19 (Int.toNat i) = flS RR (Int.toNat i) from by omega)⟩, show Int.toNat i + 1 = Int.toNat (wr (i + 1)) from by omega] at hT
                              exact hT)) (show (mo - (wr (i + 1))).toNat < mz from by omega)
                ·
                  exact ⟨rfl, hQ _ ((by
                              have n1 : wr (1 + i) = 1 + i := wr_id (by unfold iR; omega)
                              have hT := cc107
                              rw [show Int.toNat (49 - i) = Int.toNat (48 - i) + 1 from by omega, chR_n (fun z => by have z1 := z.1; have z2 := z.2.1; have z3 : I 19 (Int.toNat i) = flS RR (Int.toNat i) := z.2.2; omega) (fun z => by have z1 := z.1; have z2 := z.2; omega)] at hT
                              omega))⟩
              ·
                refine ⟨fun c => absurd c (show (¬ ((24 : Int) ≤ (wr (Int.tdiv i 2)))) from by first | omega | (simp only [wr, wl] at *; omega)), fun _ => ?_⟩
                refine ⟨_, rfl, (by decide), ?_⟩
                refine fun w0 hw0 => ?_; obtain rfl : w0 = some 211 := hw0.symm.trans (FS.g hF rfl)
                refine ⟨_, rfl, (by decide), (show (0 : Int) ≤ (wr (Int.tdiv i 2)) from by first | with_reducible assumption | omega | (simp only [wr, wl] at *; omega)), (show (wr (Int.tdiv i 2)) < (24 : Int) from by first | with_reducible assumption | omega | (simp only [wr, wl] at *; omega)), ?_⟩
                have z37 : (I 211 (Int.toNat (wr (Int.tdiv i 2)))) = flS RR (Int.toNat i) := ((congrArg (I 211) (by omega)).trans (ma (Int.toNat i / 2) (by omega)).1).trans (flS_0 (by omega)).symm
                refine ⟨rfl, ?_⟩
                refine ⟨rfl, ?_⟩
                have a38 : -2147483648 ≤ (I 19 (Int.toNat i)) ∧ (I 19 (Int.toNat i)) < 2147483648 := hA.1 _ _
                have a39 : -2147483648 ≤ (I 211 (Int.toNat (wr (Int.tdiv i 2)))) ∧ (I 211 (Int.toNat (wr (Int.tdiv i 2)))) < 2147483648 := hA.1 _ _
                refine ⟨fun (c40 : (((I 19 (Int.toNat i)) : Int) = (I 211 (Int.toNat (wr (Int.tdiv i 2)))))) => ?_, fun (c40 : (¬ (((I 19 (Int.toNat i)) : Int) = (I 211 (Int.toNat (wr (Int.tdiv i 2))))))) => ?_⟩
                ·
                  have n41 : (wr (i + 1)) = i + 1 := wr_id (show -2147483648 ≤ (i + 1 : Int) ∧ (i + 1 : Int) < 2147483648 from by omega)
                  exact ih mo (wr (i + 1))  (show (0 : Int) ≤ (wr (i + 1)) from by first | with_reducible assumption | omega | (simp only [wr, wl] at *; omega)) (show ((wr (i + 1)) : Int) ≤ 48 from by first | with_reducible assumption | omega | (simp only [wr, wl] at *; omega)) (show mo = v0 ∨ mo = 2 * RR 0 5 from by first | omega | (simp only [wr, wl] at *; omega)) (show v0 ≤ mo from by first | with_reducible assumption | omega | (simp only [wr, wl] at *; omega)) (show 2 * RR 0 5 ≤ mo from by first | with_reducible assumption | omega | (simp only [wr, wl] at *; omega)) (show (wr (i + 1)) ≤ v0 from by first | with_reducible assumption | omega | (simp only [wr, wl] at *; omega)) (show (wr (i + 1)) ≤ 2 * RR 0 5 from by first | with_reducible assumption | omega | (simp only [wr, wl] at *; omega)) ((by
                              have hT := cc107
                              rw [show Int.toNat (49 - i) = Int.toNat (49 - (wr (i + 1))) + 1 from by omega, chR_s ⟨by omega, by omega, (show I 19 (Int.toNat i) = flS RR (Int.toNat i) from by omega)⟩, show Int.toNat i + 1 = Int.toNat (wr (i + 1)) from by omega] at hT
                              exact hT)) (show (mo - (wr (i + 1))).toNat < mz from by omega)
                ·
                  exact ⟨rfl, hQ _ ((by
                              have n1 : wr (1 + i) = 1 + i := wr_id (by unfold iR; omega)
                              have hT := cc107
                              rw [show Int.toNat (49 - i) = Int.toNat (48 - i) + 1 from by omega, chR_n (fun z => by have z1 := z.1; have z2 := z.2.1; have z3 : I 19 (Int.toNat i) = flS RR (Int.toNat i) := z.2.2; omega) (fun z => by have z1 := z.1; have z2 := z.2; omega)] at hT
                              omega))⟩
theorem c_unlike10 (hF : FS F) (hR : Rg I) {v0 : Int} {RR : pI} (hMC : MC 1 RR I) (hWS : WS RR) (hw : 0 ≤ v0 ∧ v0 ≤ 48) (hQ : ∀ r : Int, iR r → (r = chR (I 19) RR v0 49 0) → Q (some (vi r)) F I) : CallN G (d + 2) kX11_firstUnlike [vr 0, vi v0, vr 210] NP F I Q := by
  refine CallN_in (fun hok hA => CallN_out ?_)
  have iv0 : -2147483648 ≤ v0 ∧ v0 < 2147483648 := hok (vi v0) (by simp)
  have hMC2 := hMC
  obtain ⟨⟨m8, m13, m14, m11, m10, m9, m2⟩, ma, mr⟩ := hMC2
  have hWS2 := hWS
  obtain ⟨wa, wb_, wc, wd⟩ := hWS2
  have w0 : wr (2 * I 210 2) = 2 * I 210 2 := wr_id (by unfold iR; omega)
  refine Call_wp (lv := [some (vr 0), some (vi v0), some (vr 210), none, none]) (by decide) ckX11_firstUnlike [14] rfl rfl ?_
  refine ⟨_, rfl, (by decide), ?_⟩
  have a1 : -2147483648 ≤ (I 210 2) ∧ (I 210 2) < 2147483648 := hA.1 _ _
  have n2 : -2147483648 ≤ (wr (2 * (I 210 2))) ∧ (wr (2 * (I 210 2))) < 2147483648 := wr_R _
  refine j_max (fun w3 h4 h5 h6 => ?_)
  refine c_unlike10_l hF hR hMC hWS hw (TT := chR (I 19) RR v0 49 0) (fun r g1 hv hA2 => hQ r (hv _ rfl) g1) _ w3 0  (show (0 : Int) ≤ (0 : Int) from Int.le_refl _) (show ((0 : Int) : Int) ≤ 48 from by first | with_reducible assumption | omega | (simp only [wr, wl] at *; omega)) (show w3 = v0 ∨ w3 = 2 * RR 0 5 from by first | omega | (simp only [wr, wl] at *; omega)) (show v0 ≤ w3 from by first | with_reducible assumption | omega | (simp only [wr, wl] at *; omega)) (show 2 * RR 0 5 ≤ w3 from by first | with_reducible assumption | omega | (simp only [wr, wl] at *; omega)) (show (0 : Int) ≤ v0 from by first | with_reducible assumption | omega | (simp only [wr, wl] at *; omega)) (show (0 : Int) ≤ 2 * RR 0 5 from by first | with_reducible assumption | omega | (simp only [wr, wl] at *; omega)) (rfl) (Nat.lt_succ_self _)
set_option maxHeartbeats 20000000 in
theorem c_check10 (hF : FS F) (hR : Rg I) {v0 v1 : Int} (hc : I 1 1 ≤ 14) (hq : ∀ p : Nat, (p : Int) < I 1 1 → PRG I (1 + 19 + 5 * p)) (h3 : 0 ≤ I 4 3) (h4 : 0 ≤ I 4 4 ∧ I 4 4 ≤ 5) (hpc : ∀ v : Nat, v < 4 → PC8 (1 + 89 + 3 * v) I) (h11 : 0 ≤ I 1 11 ∧ I 1 11 ≤ 48) (hQ : ∀ (r : Int) (F' : pF) (I' : pI), FS F' → Rg I' → AR I' → iR r → (∀ k j, ¬ (k = 203 ∨ (208 ≤ k ∧ k < 218) ∨ (k = 1 ∧ (j = 11))) → I' k j = I k j) → (((¬ ((0 ≤ v0 ∧ v0 < 4) ∧ 0 ≤ v1 ∧ v1 < I 1 1) → r = -1000001) ∧ (((0 ≤ v0 ∧ v0 < 4) ∧ 0 ≤ v1 ∧ v1 < I 1 1) → (I (1 + 89 + 3 * Int.toNat v0) 0 = 0 → r = -1000002) ∧ (¬ I (1 + 89 + 3 * Int.toNat v0) 0 = 0 → r = chR (I 19) (rnF (ldC I (1 + 19 + 5 * Int.toNat v1)) (pmC I (1 + 19 + 5 * Int.toNat v1)) (I ((1 + 89 + 3 * Int.toNat v0) + 1)) (I ((1 + 89 + 3 * Int.toNat v0) + 2)) (Int.toNat (I (1 + 89 + 3 * Int.toNat v0) 3)) (Int.toNat (I (1 + 89 + 3 * Int.toNat v0) 4))) (I 1 11) 49 0))) ∧ I' 1 11 = 0) → Q (some (vi r)) F' I') : CallN G (d + 9) kX11_check [vr 0, vi v0, vi v1] NP F I Q := by
  refine CallN_in (fun hok hA => CallN_out ?_)
  have iv0 : -2147483648 ≤ v0 ∧ v0 < 2147483648 := hok (vi v0) (by simp)
  have iv1 : -2147483648 ≤ v1 ∧ v1 < 2147483648 := hok (vi v1) (by simp)
  refine Call_wp (lv := [some (vr 0), some (vi v0), some (vi v1), none, none, none]) (by decide) ckX11_check [] rfl rfl ?_
  refine ⟨_, rfl, (by decide), ?_⟩
  refine fun w0 hw0 => ?_; obtain rfl : w0 = some 1 := hw0.symm.trans (FS.g hF rfl)
  refine ⟨_, rfl, (by decide), ?_⟩
  refine ⟨_, rfl, (by decide), ?_⟩
  refine fun w0 hw0 => ?_; obtain rfl : w0 = some 1 := hw0.symm.trans (FS.g hF rfl)
  refine ⟨_, rfl, (by decide), ?_⟩
  refine ⟨_, rfl, (by decide), ?_⟩
  refine fun w0 hw0 => ?_; obtain rfl : w0 = some 1 := hw0.symm.trans (FS.g hF rfl)
  refine ⟨⟨_, rfl, (by decide)⟩, ?_⟩
  refine s_X8_programAt hF (S := 1) (Or.inl rfl) (fun (w1 : (0 ≤ v0 ∧ v0 < 4)) => ?_) (fun (w1 : ¬ (0 ≤ v0 ∧ v0 < 4)) => ?_)
  ·
    have hp2 : GP F (1 + 89 + 3 * Int.toNat v0) := GP_of hF (by omega)
    refine ⟨_, rfl, (by decide), ?_⟩
    refine fun w0 hw0 => ?_; obtain rfl : w0 = some 1 := hw0.symm.trans (FS.g hF rfl)
    refine ⟨⟨_, rfl, (by decide)⟩, ?_⟩
    refine s_X8_pieceAt hF (S := 1) (Or.inl rfl) (fun (w3 : (0 ≤ v1 ∧ v1 < (I 1 1) ∧ v1 < 14)) => ?_) (fun (w3 : ¬ (0 ≤ v1 ∧ v1 < (I 1 1) ∧ v1 < 14)) => ?_)
    ·
      have hp4 : PP F (1 + 19 + 5 * Int.toNat v1) := PP_of hF (by omega)
      refine ⟨_, hp2.1.1, (by have := hp2.2; show _ < 254; omega), ?_⟩
      have r5 : 0 ≤ (I (1 + 89 + 3 * Int.toNat v0) 0) ∧ (I (1 + 89 + 3 * Int.toNat v0) 0) ≤ 1 := hR.b hp2.1.1 (by have := hp2.2; omega) ⟨by decide, by decide⟩
      have u6 : ((uI I 1 11 0) (1 + 89 + 3 * Int.toNat v0) 0) = (I (1 + 89 + 3 * Int.toNat v0) 0) := uI_o (fun e => absurd e.1 (lay_ne hp2.1.1 (show lay 1 = (8, 12) from rfl) (by decide)))
      refine ⟨fun (c8 : (¬ (((uI I 1 11 0) (1 + 89 + 3 * Int.toNat v0) 0) : Int) = 0)) => ?_, fun (c8 : ((((uI I 1 11 0) (1 + 89 + 3 * Int.toNat v0) 0) : Int) = 0)) => ?_⟩
      ·
        refine ⟨_, rfl, (by decide), ?_⟩
        refine fun w0 hw0 => ?_; obtain rfl : w0 = some 208 := hw0.symm.trans (FS.g hF rfl)
        refine ⟨_, rfl, (by decide), ?_⟩
        refine fun w0 hw0 => ?_; obtain rfl : w0 = some 1 := hw0.symm.trans (FS.g hF rfl)
        refine ⟨⟨_, rfl, (by decide)⟩, ?_⟩
        have hg0 : (uI I 1 11 0) (1 + 89 + 3 * Int.toNat v0) = I (1 + 89 + 3 * Int.toNat v0) := funext (fun j => uI_o (show ¬ ((1 + 89 + 3 * Int.toNat v0) = 1 ∧ j = 11) from by omega))
        have hg1 : (uI I 1 11 0) ((1 + 89 + 3 * Int.toNat v0) + 1) = I ((1 + 89 + 3 * Int.toNat v0) + 1) := funext (fun j => uI_o (show ¬ (((1 + 89 + 3 * Int.toNat v0) + 1) = 1 ∧ j = 11) from by omega))
        have hg2 : (uI I 1 11 0) ((1 + 89 + 3 * Int.toNat v0) + 2) = I ((1 + 89 + 3 * Int.toNat v0) + 2) := funext (fun j => uI_o (show ¬ (((1 + 89 + 3 * Int.toNat v0) + 2) = 1 ∧ j = 11) from by omega))
        have hc8 : CR8 (ldC I (1 + 19 + 5 * Int.toNat v1)) (pmC I (1 + 19 + 5 * Int.toNat v1)) (1 + 19 + 5 * Int.toNat v1) (uI I 1 11 0) := CR8_f (CR8_of (hq _ (by omega)) h3 h4) (fun j => uI_o (show ¬ (4 = 1 ∧ j = 11) from fun e => absurd e.1 (by decide))) (fun j => uI_o (show ¬ ((1 + 19 + 5 * Int.toNat v1) = 1 ∧ j = 11) from by omega)) (fun j => uI_o (show ¬ (((1 + 19 + 5 * Int.toNat v1) + 1) = 1 ∧ j = 11) from by omega))
        have hpc8 : PC8 (1 + 89 + 3 * Int.toNat v0) (uI I 1 11 0) := PC8_f (hpc _ (by omega)) (fun j => uI_o (show ¬ ((1 + 89 + 3 * Int.toNat v0) = 1 ∧ j = 11) from by omega)) (fun j => uI_o (show ¬ (((1 + 89 + 3 * Int.toNat v0) + 1) = 1 ∧ j = 11) from by omega)) (fun j => uI_o (show ¬ (((1 + 89 + 3 * Int.toNat v0) + 2) = 1 ∧ j = 11) from by omega))
        refine c_perf10  hF (Rg.u hR (Pr_f rfl)) hp4 hp2 (by omega) hc8 (by omega) hpc8 (fun I9 hR10 hA11 hW12 qr13 => ?_)
        obtain ⟨hmc, h12⟩ := qr13
        rw [hg0, hg1, hg2] at hmc
        refine ⟨_, rfl, (by decide), ?_⟩
        refine fun w0 hw0 => ?_; obtain rfl : w0 = some 208 := hw0.symm.trans (FS.g (FS.u hF rfl) rfl)
        refine ⟨_, rfl, (by decide), ?_⟩
        refine fun w0 hw0 => ?_; obtain rfl : w0 = some 210 := hw0.symm.trans (FS.g (FS.u hF rfl) rfl)
        refine ⟨⟨_, rfl, (by decide)⟩, ?_⟩
        have a14 : -2147483648 ≤ (I 1 11) ∧ (I 1 11) < 2147483648 := hA.1 _ _
        refine c_unlike10  (FS.u hF rfl) hR10 hmc WS_r h11 (fun vr15 hr16 qr17 => ?_)
        have hr16 : -2147483648 ≤ vr15 ∧ vr15 < 2147483648 := hr16
        exact ⟨rfl, fun hv hA' => hQ _ _ _ (FS.u hF rfl) hR10 hA' (hv _ rfl) (fun ka ja hk => ((hW12 ka ja (by omega))).trans ((uI_o (show ¬ (ka = 1 ∧ ja = 11) from by omega)))) ((by
                              have e19 : I9 19 = I 19 := funext (fun j => (hW12 19 j (by omega)).trans (uI_o (show ¬ (19 = 1 ∧ j = 11) from fun e => absurd e.1 (by decide))))
                              have hu := qr17
                              rw [e19] at hu
                              exact ⟨⟨fun z => absurd (by omega) z, fun _ => ⟨fun z => absurd z (by omega), fun _ => hu⟩⟩, (hW12 1 (11) (by omega)).trans (uJ_eqj (show 11 = 11 from by omega))⟩))⟩
      ·
        refine ⟨⟨_, rfl, (by decide)⟩, ?_⟩
        refine s_X11_refuse hF (e := 2) (by decide) ?_
        exact ⟨rfl, fun hv hA' => hQ _ _ _ hF (Rg.u (Rg.u hR (Pr_f rfl)) (Pr_f rfl)) hA' (hv _ rfl) (fun ka ja hk => ((uI_o (show ¬ (ka = 203 ∧ ja = 2) from by omega))).trans ((uI_o (show ¬ (ka = 1 ∧ ja = 11) from by omega)))) (⟨⟨fun z => absurd (by omega) z, fun _ => ⟨fun _ => rfl, fun z => absurd (by omega) z⟩⟩, (uI_o (show ¬ (1 = 203 ∧ 11 = 2) from fun e => absurd e.1 (by decide))).trans (uJ_eqj (show 11 = 11 from by omega))⟩)⟩
    ·
      refine ⟨⟨_, rfl, (by decide)⟩, ?_⟩
      refine s_X11_refuse hF (e := 1) (by decide) ?_
      exact ⟨rfl, fun hv hA' => hQ _ _ _ hF (Rg.u (Rg.u hR (Pr_f rfl)) (Pr_f rfl)) hA' (hv _ rfl) (fun ka ja hk => ((uI_o (show ¬ (ka = 203 ∧ ja = 1) from by omega))).trans ((uI_o (show ¬ (ka = 1 ∧ ja = 11) from by omega)))) (⟨⟨fun _ => rfl, fun z => absurd z (by omega)⟩, (uI_o (show ¬ (1 = 203 ∧ 11 = 1) from fun e => absurd e.1 (by decide))).trans (uJ_eqj (show 11 = 11 from by omega))⟩)⟩
  ·
    refine ⟨_, rfl, (by decide), ?_⟩
    refine fun w0 hw0 => ?_; obtain rfl : w0 = some 1 := hw0.symm.trans (FS.g hF rfl)
    refine ⟨⟨_, rfl, (by decide)⟩, ?_⟩
    refine s_X8_pieceAt hF (S := 1) (Or.inl rfl) (fun (w18 : (0 ≤ v1 ∧ v1 < (I 1 1) ∧ v1 < 14)) => ?_) (fun (w18 : ¬ (0 ≤ v1 ∧ v1 < (I 1 1) ∧ v1 < 14)) => ?_)
    ·
      have hp19 : PP F (1 + 19 + 5 * Int.toNat v1) := PP_of hF (by omega)
      refine ⟨⟨_, rfl, (by decide)⟩, ?_⟩
      refine s_X11_refuse hF (e := 1) (by decide) ?_
      exact ⟨rfl, fun hv hA' => hQ _ _ _ hF (Rg.u (Rg.u hR (Pr_f rfl)) (Pr_f rfl)) hA' (hv _ rfl) (fun ka ja hk => ((uI_o (show ¬ (ka = 203 ∧ ja = 1) from by omega))).trans ((uI_o (show ¬ (ka = 1 ∧ ja = 11) from by omega)))) (⟨⟨fun _ => rfl, fun z => absurd z (by omega)⟩, (uI_o (show ¬ (1 = 203 ∧ 11 = 1) from fun e => absurd e.1 (by decide))).trans (uJ_eqj (show 11 = 11 from by omega))⟩)⟩
    ·
      refine ⟨⟨_, rfl, (by decide)⟩, ?_⟩
      refine s_X11_refuse hF (e := 1) (by decide) ?_
      exact ⟨rfl, fun hv hA' => hQ _ _ _ hF (Rg.u (Rg.u hR (Pr_f rfl)) (Pr_f rfl)) hA' (hv _ rfl) (fun ka ja hk => ((uI_o (show ¬ (ka = 203 ∧ ja = 1) from by omega))).trans ((uI_o (show ¬ (ka = 1 ∧ ja = 11) from by omega)))) (⟨⟨fun _ => rfl, fun z => absurd z (by omega)⟩, (uI_o (show ¬ (1 = 203 ∧ 11 = 1) from fun e => absurd e.1 (by decide))).trans (uJ_eqj (show 11 = 11 from by omega))⟩)⟩
theorem r_check10_l (hF : FS F) (hR : Rg I) {v0 v1 : Int} {MM : Int} (hm : 0 ≤ MM ∧ MM ≤ 48) {RR : pI} {TT : Int} (hWS : WS RR) (hQ : ∀ (r : Int) (I' : pI), Rg I' → (∀ k j, ¬ (k = 238 ∨ (k = 235 ∧ 11 ≤ j ∧ j ≤ 18) ∨ (242 ≤ k ∧ k ≤ 244) ∨ (k = 236 ∧ j = 3)) → I' k j = I k j) → (r = TT ∧ I' 236 3 = 0) → Q (some (vi r)) F I') : ∀ (mz : Nat) (m e k : Int) (J : pI), Rg J → (∀ k j, ¬ (k = 238 ∨ (k = 235 ∧ 11 ≤ j ∧ j ≤ 18) ∨ (242 ≤ k ∧ k ≤ 244) ∨ (k = 236 ∧ j = 3)) → J k j = I k j) → ((0 : Int) ≤ m) → ((m : Int) ≤ 48) → ((0 : Int) ≤ k) → ((k : Int) ≤ 48) → (m = MM) → (k ≤ MM) → (k ≤ 2 * RR 0 5) → (MR 1 RR J) → (chR (fun k => I 236 (1292 + k)) RR MM (Int.toNat (49 - k)) (Int.toNat k) = TT) → (J 236 3 = 0) → (48 - k).toNat < mz → GoN G d kX12_check NP NP 64 [some (vr 235), some (vi v0), some (vi v1), some (vi m), some (vi e), some (vi k)] [] F J Q := by
  intro mz
  induction mz with
  | zero => intro m e k J hJ hV _ _ _ _ _ _ _ _ _ _ h; exact absurd h (Nat.not_lt_zero _)
  | succ mz ih =>
    intro m e k J hJ hV cc100 cc101 cc102 cc103 cc104 cc105 cc106 cc107 cc108 cc109 hm
    refine GoN_in (fun hok hA => ?_)
    have iiv0 : -2147483648 ≤ v0 ∧ v0 < 2147483648 := hok 1 _ rfl
    have iiv1 : -2147483648 ≤ v1 ∧ v1 < 2147483648 := hok 2 _ rfl
    have iim : -2147483648 ≤ m ∧ m < 2147483648 := hok 3 _ rfl
    have iie : -2147483648 ≤ e ∧ e < 2147483648 := hok 4 _ rfl
    have iik : -2147483648 ≤ k ∧ k < 2147483648 := hok 5 _ rfl
    have hmr := cc107
    obtain ⟨⟨m12, m13, m14, m15, m16, m17, m18⟩, ma, mr⟩ := hmr
    have hWS2 := hWS
    obtain ⟨wa, wb_, wc, wd⟩ := hWS2
    have w0 : wr (2 * J 235 18) = 2 * J 235 18 := wr_id (by unfold iR; omega)
    refine Go_wp (by decide) ckX12_check [64] ?_
    refine ⟨fun (c1 : ((m : Int) ≤ k)) => ?_, fun (c1 : (¬ ((m : Int) ≤ k))) => ?_⟩
    ·
      refine ⟨fun (c2 : (¬ (k : Int) = m)) => ?_, fun (c2 : ((k : Int) = m)) => ?_⟩
      ·
        exact ⟨rfl, hQ _ _ hJ (fun ka ja hk => (hV ka ja (by omega))) (⟨(by
                              have n1 : wr (1 + k) = 1 + k := wr_id (by unfold iR; omega)
                              have hT := cc108
                              rw [show Int.toNat (49 - k) = Int.toNat (48 - k) + 1 from by omega, chR_n (fun z => by have z1 := z.1; have z2 := z.2.1; have z3 : I 236 (1292 + Int.toNat k) = flS RR (Int.toNat k) := z.2.2; omega) (fun z => by have z1 := z.1; have z2 := z.2; omega)] at hT
                              omega), cc109⟩)⟩
      ·
        refine ⟨_, rfl, (by decide), ?_⟩
        have r3 : 0 ≤ (J 235 18) ∧ (J 235 18) ≤ 24 := Rg.f18 hJ
        have n5 : (wr (2 * (J 235 18))) = 2 * (J 235 18) := wr_id (show -2147483648 ≤ (2 * (J 235 18) : Int) ∧ (2 * (J 235 18) : Int) < 2147483648 from by omega)
        refine ⟨fun (c6 : (¬ (k : Int) = (wr (2 * (J 235 18))))) => ?_, fun (c6 : ((k : Int) = (wr (2 * (J 235 18))))) => ?_⟩
        ·
          exact ⟨rfl, hQ _ _ hJ (fun ka ja hk => (hV ka ja (by omega))) (⟨(by
                              have n1 : wr (1 + k) = 1 + k := wr_id (by unfold iR; omega)
                              have hT := cc108
                              rw [show Int.toNat (49 - k) = Int.toNat (48 - k) + 1 from by omega, chR_n (fun z => by have z1 := z.1; have z2 := z.2.1; have z3 : I 236 (1292 + Int.toNat k) = flS RR (Int.toNat k) := z.2.2; omega) (fun z => by have z1 := z.1; have z2 := z.2; omega)] at hT
                              omega), cc109⟩)⟩
        ·
          exact ⟨rfl, hQ _ _ hJ (fun ka ja hk => (hV ka ja (by omega))) (⟨(by
                              have hT := cc108
                              rw [show Int.toNat (49 - k) = Int.toNat (48 - k) + 1 from by omega, chR_z ⟨by omega, by omega⟩] at hT
                              exact hT), cc109⟩)⟩
    ·
      refine ⟨_, rfl, (by decide), ?_⟩
      have r7 : 0 ≤ (J 235 18) ∧ (J 235 18) ≤ 24 := Rg.f18 hJ
      have n9 : (wr (2 * (J 235 18))) = 2 * (J 235 18) := wr_id (show -2147483648 ≤ (2 * (J 235 18) : Int) ∧ (2 * (J 235 18) : Int) < 2147483648 from by omega)
      refine ⟨fun (c10 : (((wr (2 * (J 235 18))) : Int) ≤ k)) => ?_, fun (c10 : (¬ (((wr (2 * (J 235 18))) : Int) ≤ k))) => ?_⟩
      ·
        refine ⟨fun (c11 : (¬ (k : Int) = m)) => ?_, fun (c11 : ((k : Int) = m)) => ?_⟩
        ·
          exact ⟨rfl, hQ _ _ hJ (fun ka ja hk => (hV ka ja (by omega))) (⟨(by
                              have n1 : wr (1 + k) = 1 + k := wr_id (by unfold iR; omega)
                              have hT := cc108
                              rw [show Int.toNat (49 - k) = Int.toNat (48 - k) + 1 from by omega, chR_n (fun z => by have z1 := z.1; have z2 := z.2.1; have z3 : I 236 (1292 + Int.toNat k) = flS RR (Int.toNat k) := z.2.2; omega) (fun z => by have z1 := z.1; have z2 := z.2; omega)] at hT
                              omega), cc109⟩)⟩
        ·
          refine ⟨_, rfl, (by decide), ?_⟩
          refine ⟨fun (c12 : (¬ (k : Int) = (wr (2 * (J 235 18))))) => ?_, fun (c12 : ((k : Int) = (wr (2 * (J 235 18))))) => ?_⟩
          ·
            exact ⟨rfl, hQ _ _ hJ (fun ka ja hk => (hV ka ja (by omega))) (⟨(by
                              have n1 : wr (1 + k) = 1 + k := wr_id (by unfold iR; omega)
                              have hT := cc108
                              rw [show Int.toNat (49 - k) = Int.toNat (48 - k) + 1 from by omega, chR_n (fun z => by have z1 := z.1; have z2 := z.2.1; have z3 : I 236 (1292 + Int.toNat k) = flS RR (Int.toNat k) := z.2.2; omega) (fun z => by have z1 := z.1; have z2 := z.2; omega)] at hT
                              omega), cc109⟩)⟩
          ·
            exact ⟨rfl, hQ _ _ hJ (fun ka ja hk => (hV ka ja (by omega))) (⟨(by
                              have hT := cc108
                              rw [show Int.toNat (49 - k) = Int.toNat (48 - k) + 1 from by omega, chR_z ⟨by omega, by omega⟩] at hT
                              exact hT), cc109⟩)⟩
      ·
        refine ⟨_, rfl, (by decide), ?_⟩
        refine fun w0 hw0 => ?_; obtain rfl : w0 = some 236 := hw0.symm.trans (FS.g hF rfl)
        have n13 : (wr (1292 + k)) = 1292 + k := wr_id (show -2147483648 ≤ (1292 + k : Int) ∧ (1292 + k : Int) < 2147483648 from by omega)
        refine ⟨_, rfl, (by decide), (show (0 : Int) ≤ (wr (1292 + k)) from by first | with_reducible assumption | omega | (simp only [wr, wl] at *; omega)), (show (wr (1292 + k)) < (1340 : Int) from by first | with_reducible assumption | omega | (simp only [wr, wl] at *; omega)), ?_⟩
        have z14 : (J 236 (Int.toNat (wr (1292 + k)))) = I 236 (1292 + Int.toNat k) := (congrArg (J 236) (by omega)).trans (hV 236 _ (by omega))
        refine ⟨(by decide), ?_⟩
        have n15 : (Int.tmod k 2) = (k : Int) % 2 := Int.tmod_eq_emod_of_nonneg (by omega)
        refine ⟨fun (c16 : (¬ ((Int.tmod k 2) : Int) = 0)) => ?_, fun (c16 : (((Int.tmod k 2) : Int) = 0)) => ?_⟩
        ·
          refine ⟨_, rfl, (by decide), ?_⟩
          refine fun w0 hw0 => ?_; obtain rfl : w0 = some 244 := hw0.symm.trans (FS.g hF rfl)
          refine ⟨(by decide), ?_⟩
          have n17 : (Int.tdiv k 2) = (k : Int) / 2 := Int.tdiv_eq_ediv_of_nonneg (by omega)
          have n18 : (wr (Int.tdiv k 2)) = (Int.tdiv k 2) := wr_id (show -2147483648 ≤ ((Int.tdiv k 2) : Int) ∧ ((Int.tdiv k 2) : Int) < 2147483648 from by omega)
          refine ⟨_, rfl, (by decide), (show (0 : Int) ≤ (wr (Int.tdiv k 2)) from by first | with_reducible assumption | omega | (simp only [wr, wl] at *; omega)), (show (wr (Int.tdiv k 2)) < (24 : Int) from by first | with_reducible assumption | omega | (simp only [wr, wl] at *; omega)), ?_⟩
          have z19 : (J 244 (Int.toNat (wr (Int.tdiv k 2)))) = flS RR (Int.toNat k) := ((congrArg (J 244) (by omega)).trans (ma (Int.toNat k / 2) (by omega)).2).trans (flS_1 (by omega)).symm
          have a20 : -2147483648 ≤ (J 236 (Int.toNat (wr (1292 + k)))) ∧ (J 236 (Int.toNat (wr (1292 + k)))) < 2147483648 := hA.1 _ _
          have a21 : -2147483648 ≤ (J 244 (Int.toNat (wr (Int.tdiv k 2)))) ∧ (J 244 (Int.toNat (wr (Int.tdiv k 2)))) < 2147483648 := hA.1 _ _
          refine ⟨fun (c22 : (¬ ((J 236 (Int.toNat (wr (1292 + k)))) : Int) = (J 244 (Int.toNat (wr (Int.tdiv k 2)))))) => ?_, fun (c22 : (((J 236 (Int.toNat (wr (1292 + k)))) : Int) = (J 244 (Int.toNat (wr (Int.tdiv k 2)))))) => ?_⟩
          ·
            refine ⟨fun (c23 : (¬ (k : Int) = m)) => ?_, fun (c23 : ((k : Int) = m)) => ?_⟩
            ·
              exact ⟨rfl, hQ _ _ hJ (fun ka ja hk => (hV ka ja (by omega))) (⟨(by
                              have n1 : wr (1 + k) = 1 + k := wr_id (by unfold iR; omega)
                              have hT := cc108
                              rw [show Int.toNat (49 - k) = Int.toNat (48 - k) + 1 from by omega, chR_n (fun z => by have z1 := z.1; have z2 := z.2.1; have z3 : I 236 (1292 + Int.toNat k) = flS RR (Int.toNat k) := z.2.2; omega) (fun z => by have z1 := z.1; have z2 := z.2; omega)] at hT
                              omega), cc109⟩)⟩
            ·
              refine ⟨_, rfl, (by decide), ?_⟩
              refine ⟨fun (c24 : (¬ (k : Int) = (wr (2 * (J 235 18))))) => ?_, fun (c24 : ((k : Int) = (wr (2 * (J 235 18))))) => ?_⟩
              ·
                exact ⟨rfl, hQ _ _ hJ (fun ka ja hk => (hV ka ja (by omega))) (⟨(by
                              have n1 : wr (1 + k) = 1 + k := wr_id (by unfold iR; omega)
                              have hT := cc108
                              rw [show Int.toNat (49 - k) = Int.toNat (48 - k) + 1 from by omega, chR_n (fun z => by have z1 := z.1; have z2 := z.2.1; have z3 : I 236 (1292 + Int.toNat k) = flS RR (Int.toNat k) := z.2.2; omega) (fun z => by have z1 := z.1; have z2 := z.2; omega)] at hT
                              omega), cc109⟩)⟩
              ·
                exact ⟨rfl, hQ _ _ hJ (fun ka ja hk => (hV ka ja (by omega))) (⟨(by
                              have hT := cc108
                              rw [show Int.toNat (49 - k) = Int.toNat (48 - k) + 1 from by omega, chR_z ⟨by omega, by omega⟩] at hT
                              exact hT), cc109⟩)⟩
          ·
            have n25 : (wr (k + 1)) = k + 1 := wr_id (show -2147483648 ≤ (k + 1 : Int) ∧ (k + 1 : Int) < 2147483648 from by omega)
            exact ih m e (wr (k + 1)) J hJ (fun ka ja hk => (hV ka ja (by omega))) (show (0 : Int) ≤ m from by first | with_reducible assumption | omega | (simp only [wr, wl] at *; omega)) (show (m : Int) ≤ 48 from by first | with_reducible assumption | omega | (simp only [wr, wl] at *; omega)) (show (0 : Int) ≤ (wr (k + 1)) from by first | with_reducible assumption | omega | (simp only [wr, wl] at *; omega)) (show ((wr (k + 1)) : Int) ≤ 48 from by first | with_reducible assumption | omega | (simp only [wr, wl] at *; omega)) (cc104) ((by omega)) ((by omega)) (MR_f cc107 (fun j h1 h2 => rfl) (fun j => rfl) (fun j => rfl) (fun j => rfl)) ((by
                              have hT := cc108
                              rw [show Int.toNat (49 - k) = Int.toNat (49 - (wr (k + 1))) + 1 from by omega, chR_s ⟨by omega, by omega, (show I 236 (1292 + Int.toNat k) = flS RR (Int.toNat k) from by omega)⟩, show Int.toNat k + 1 = Int.toNat (wr (k + 1)) from by omega] at hT
                              exact hT)) (cc109) (show (48 - (wr (k + 1))).toNat < mz from by omega)
        ·
          refine ⟨_, rfl, (by decide), ?_⟩
          refine fun w0 hw0 => ?_; obtain rfl : w0 = some 243 := hw0.symm.trans (FS.g hF rfl)
          refine ⟨(by decide), ?_⟩
          have n26 : (Int.tdiv k 2) = (k : Int) / 2 := Int.tdiv_eq_ediv_of_nonneg (by omega)
          have n27 : (wr (Int.tdiv k 2)) = (Int.tdiv k 2) := wr_id (show -2147483648 ≤ ((Int.tdiv k 2) : Int) ∧ ((Int.tdiv k 2) : Int) < 2147483648 from by omega)
          refine ⟨_, rfl, (by decide), (show (0 : Int) ≤ (wr (Int.tdiv k 2)) from by first | with_reducible assumption | omega | (simp only [wr, wl] at *; omega)), (show (wr (Int.tdiv k 2)) < (24 : Int) from by first | with_reducible assumption | omega | (simp only [wr, wl] at *; omega)), ?_⟩
          have z28 : (J 243 (Int.toNat (wr (Int.tdiv k 2)))) = flS RR (Int.toNat k) := ((congrArg (J 243) (by omega)).trans (ma (Int.toNat k / 2) (by omega)).1).trans (flS_0 (by omega)).symm
          have a29 : -2147483648 ≤ (J 236 (Int.toNat (wr (1292 + k)))) ∧ (J 236 (Int.toNat (wr (1292 + k)))) < 2147483648 := hA.1 _ _
          have a30 : -2147483648 ≤ (J 243 (Int.toNat (wr (Int.tdiv k 2)))) ∧ (J 243 (Int.toNat (wr (Int.tdiv k 2)))) < 2147483648 := hA.1 _ _
          refine ⟨fun (c31 : (¬ ((J 236 (Int.toNat (wr (1292 + k)))) : Int) = (J 243 (Int.toNat (wr (Int.tdiv k 2)))))) => ?_, fun (c31 : (((J 236 (Int.toNat (wr (1292 + k)))) : Int) = (J 243 (Int.toNat (wr (Int.tdiv k 2)))))) => ?_⟩
          ·
            refine ⟨fun (c32 : (¬ (k : Int) = m)) => ?_, fun (c32 : ((k : Int) = m)) => ?_⟩
            ·
              exact ⟨rfl, hQ _ _ hJ (fun ka ja hk => (hV ka ja (by omega))) (⟨(by
                              have n1 : wr (1 + k) = 1 + k := wr_id (by unfold iR; omega)
                              have hT := cc108
                              rw [show Int.toNat (49 - k) = Int.toNat (48 - k) + 1 from by omega, chR_n (fun z => by have z1 := z.1; have z2 := z.2.1; have z3 : I 236 (1292 + Int.toNat k) = flS RR (Int.toNat k) := z.2.2; omega) (fun z => by have z1 := z.1; have z2 := z.2; omega)] at hT
                              omega), cc109⟩)⟩
            ·
              refine ⟨_, rfl, (by decide), ?_⟩
              refine ⟨fun (c33 : (¬ (k : Int) = (wr (2 * (J 235 18))))) => ?_, fun (c33 : ((k : Int) = (wr (2 * (J 235 18))))) => ?_⟩
              ·
                exact ⟨rfl, hQ _ _ hJ (fun ka ja hk => (hV ka ja (by omega))) (⟨(by
                              have n1 : wr (1 + k) = 1 + k := wr_id (by unfold iR; omega)
                              have hT := cc108
                              rw [show Int.toNat (49 - k) = Int.toNat (48 - k) + 1 from by omega, chR_n (fun z => by have z1 := z.1; have z2 := z.2.1; have z3 : I 236 (1292 + Int.toNat k) = flS RR (Int.toNat k) := z.2.2; omega) (fun z => by have z1 := z.1; have z2 := z.2; omega)] at hT
                              omega), cc109⟩)⟩
              ·
                exact ⟨rfl, hQ _ _ hJ (fun ka ja hk => (hV ka ja (by omega))) (⟨(by
                              have hT := cc108
                              rw [show Int.toNat (49 - k) = Int.toNat (48 - k) + 1 from by omega, chR_z ⟨by omega, by omega⟩] at hT
                              exact hT), cc109⟩)⟩
          ·
            have n34 : (wr (k + 1)) = k + 1 := wr_id (show -2147483648 ≤ (k + 1 : Int) ∧ (k + 1 : Int) < 2147483648 from by omega)
            exact ih m e (wr (k + 1)) J hJ (fun ka ja hk => (hV ka ja (by omega))) (show (0 : Int) ≤ m from by first | with_reducible assumption | omega | (simp only [wr, wl] at *; omega)) (show (m : Int) ≤ 48 from by first | with_reducible assumption | omega | (simp only [wr, wl] at *; omega)) (show (0 : Int) ≤ (wr (k + 1)) from by first | with_reducible assumption | omega | (simp only [wr, wl] at *; omega)) (show ((wr (k + 1)) : Int) ≤ 48 from by first | with_reducible assumption | omega | (simp only [wr, wl] at *; omega)) (cc104) ((by omega)) ((by omega)) (MR_f cc107 (fun j h1 h2 => rfl) (fun j => rfl) (fun j => rfl) (fun j => rfl)) ((by
                              have hT := cc108
                              rw [show Int.toNat (49 - k) = Int.toNat (49 - (wr (k + 1))) + 1 from by omega, chR_s ⟨by omega, by omega, (show I 236 (1292 + Int.toNat k) = flS RR (Int.toNat k) from by omega)⟩, show Int.toNat k + 1 = Int.toNat (wr (k + 1)) from by omega] at hT
                              exact hT)) (cc109) (show (48 - (wr (k + 1))).toNat < mz from by omega)
theorem r_check10 (hF : FS F) (hR : Rg I) {v0 v1 : Int} (hq : ∀ p : Nat, (p : Int) < I 236 0 → RRG I p) (hpr : ∀ v : Nat, v < 4 → PR8 v I) (hQ : ∀ (r : Int) (I' : pI), Rg I' → AR I' → iR r → (∀ k j, ¬ (k = 238 ∨ (k = 235 ∧ 11 ≤ j ∧ j ≤ 18) ∨ (242 ≤ k ∧ k ≤ 244) ∨ (k = 236 ∧ j = 3)) → I' k j = I k j) → (((¬ ((0 ≤ v0 ∧ v0 ≤ 3) ∧ 0 ≤ v1 ∧ v1 < I 236 0) → r = -1000001) ∧ (((0 ≤ v0 ∧ v0 ≤ 3) ∧ 0 ≤ v1 ∧ v1 < I 236 0) → (I 236 (40 + 36 * (Int.toNat v0)) ≤ 0 → r = -1000002) ∧ (0 < I 236 (40 + 36 * (Int.toNat v0)) → r = chR (fun k => I 236 (1292 + k)) (rnF (ldR I (Int.toNat v1)) (pmR I (Int.toNat v1)) (fun k => I 236 (42 + 36 * (Int.toNat v0) + 2 * k)) (fun k => I 236 (43 + 36 * (Int.toNat v0) + 2 * k)) (Int.toNat (I 236 (41 + 36 * (Int.toNat v0)))) (Int.toNat (I 236 (40 + 36 * (Int.toNat v0))))) (I 236 3) 49 0))) ∧ I' 236 3 = 0) → Q (some (vi r)) F I') : CallN G (d + 7) kX12_check [vr 235, vi v0, vi v1] NP F I Q := by
  refine CallN_in (fun hok hA => CallN_out ?_)
  have iv0 : -2147483648 ≤ v0 ∧ v0 < 2147483648 := hok (vi v0) (by simp)
  have iv1 : -2147483648 ≤ v1 ∧ v1 < 2147483648 := hok (vi v1) (by simp)
  refine Call_wp (lv := [some (vr 235), some (vi v0), some (vi v1), none, none, none]) (by decide) ckX12_check [64] rfl rfl ?_
  refine ⟨_, rfl, (by decide), ?_⟩
  refine fun w0 hw0 => ?_; obtain rfl : w0 = some 236 := hw0.symm.trans (FS.g hF rfl)
  refine ⟨_, rfl, (by decide), (by decide), (by decide), ?_⟩
  have r1 : 0 ≤ (I 236 3) ∧ (I 236 3) ≤ 48 := Rg.n3 hR
  refine ⟨_, rfl, (by decide), ?_⟩
  refine fun w0 hw0 => ?_; obtain rfl : w0 = some 236 := hw0.symm.trans (FS.g hF rfl)
  refine ⟨_, rfl, (by decide), (by decide), (by decide), ?_⟩
  have p2 : Pn 3 0 := by apply Pn_w <;> omega
  refine ⟨⟨_, rfl, (by decide)⟩, ?_⟩
  refine s_X12_isProgram (fun (w3 : ((0 : Int) ≤ v0 ∧ (v0 : Int) ≤ 3)) => ?_) (fun (w3 : ¬ ((0 : Int) ≤ v0 ∧ (v0 : Int) ≤ 3)) => ?_)
  ·
    refine ⟨fun c => absurd c (show (¬ ((1 : Int) = 0)) from by decide), fun _ => ?_⟩
    refine ⟨⟨_, rfl, (by decide)⟩, ?_⟩
    have r4 : 0 ≤ (I 236 0) ∧ (I 236 0) ≤ 14 := Rg.n0 hR
    refine s_X12_is hF (w := 0) (by decide) (show 0 ≤ (I 236 0) ∧ (I 236 0) < 1000000 from by omega) (fun (w5 : (0 ≤ v1 ∧ v1 < (I 236 0))) => ?_) (fun (w5 : ¬ (0 ≤ v1 ∧ v1 < (I 236 0))) => ?_)
    ·
      refine ⟨fun _ => ?_, fun c => absurd c (show (¬ (1 : Int) = 0) from by decide)⟩
      refine ⟨⟨_, rfl, (by decide)⟩, ?_⟩
      refine Call_wp (lv := [some (vr 235), some (vi v0)]) (by decide) ckX12_hasProgram [] rfl rfl ?_
      refine ⟨_, rfl, (by decide), ?_⟩
      refine fun w0 hw0 => ?_; obtain rfl : w0 = some 236 := hw0.symm.trans (FS.g hF rfl)
      have n6 : (wr (36 * v0)) = 36 * v0 := wr_id (show -2147483648 ≤ (36 * v0 : Int) ∧ (36 * v0 : Int) < 2147483648 from by omega)
      have n7 : (wr (40 + (wr (36 * v0)))) = 40 + (wr (36 * v0)) := wr_id (show -2147483648 ≤ (40 + (wr (36 * v0)) : Int) ∧ (40 + (wr (36 * v0)) : Int) < 2147483648 from by omega)
      have n8 : (wr ((wr (40 + (wr (36 * v0)))) + 0)) = (wr (40 + (wr (36 * v0)))) + 0 := wr_id (show -2147483648 ≤ ((wr (40 + (wr (36 * v0)))) + 0 : Int) ∧ ((wr (40 + (wr (36 * v0)))) + 0 : Int) < 2147483648 from by omega)
      refine ⟨_, rfl, (by decide), (show (0 : Int) ≤ (wr ((wr (40 + (wr (36 * v0)))) + 0)) from by first | with_reducible assumption | omega | (simp only [wr, wl] at *; omega)), (show (wr ((wr (40 + (wr (36 * v0)))) + 0)) < (1340 : Int) from by first | with_reducible assumption | omega | (simp only [wr, wl] at *; omega)), ?_⟩
      have z9 : (I 236 (Int.toNat (wr ((wr (40 + (wr (36 * v0)))) + 0)))) = (I 236 (40 + 36 * Int.toNat v0)) := (congrArg (I 236) (by omega)).trans (rfl)
      have r10 : 0 ≤ (I 236 (Int.toNat (wr ((wr (40 + (wr (36 * v0)))) + 0)))) ∧ (I 236 (Int.toNat (wr ((wr (40 + (wr (36 * v0)))) + 0)))) ≤ 17 := Pn_g0 (p := (Int.toNat v0)) (by omega) (by omega) (hR.n (Int.toNat (wr ((wr (40 + (wr (36 * v0)))) + 0))) (by omega))
      have u11 : ((uI I 236 3 0) 236 (Int.toNat (wr ((wr (40 + (wr (36 * v0)))) + 0)))) = (I 236 (Int.toNat (wr ((wr (40 + (wr (36 * v0)))) + 0)))) := uJ_ne (by omega)
      refine ⟨fun (c13 : ((((uI I 236 3 0) 236 (Int.toNat (wr ((wr (40 + (wr (36 * v0)))) + 0)))) : Int) ≤ 0)) => ?_, fun (c13 : (¬ ((((uI I 236 3 0) 236 (Int.toNat (wr ((wr (40 + (wr (36 * v0)))) + 0)))) : Int) ≤ 0))) => ?_⟩
      ·
        refine ⟨rfl, (by decide), ?_⟩
        refine ⟨fun c => absurd (show ((0 : Int) = 0) from by decide) c, fun _ => ?_⟩
        refine ⟨⟨_, rfl, (by decide)⟩, ?_⟩
        refine s_X12_finding hF (v := (-1000002)) (by decide) ?_
        exact ⟨rfl, fun hv hA' => hQ _ _ (Rg.u (Rg.u hR (Pr_n p2)) (Pr_f rfl)) hA' (hv _ rfl) (fun ka ja hk => ((uI_o (show ¬ (ka = 238 ∧ ja = 2) from by omega))).trans ((uI_o (show ¬ (ka = 236 ∧ ja = 3) from by omega)))) (⟨⟨fun z => absurd (by omega) z, fun _ => ⟨fun _ => rfl, fun y => absurd y (by omega)⟩⟩, (uI_o (show ¬ (236 = 238 ∧ 3 = 2) from fun e => absurd e.1 (by decide))).trans (uJ_eqj (show 3 = 3 from by omega))⟩)⟩
      ·
        refine ⟨rfl, (by decide), ?_⟩
        refine ⟨fun _ => ?_, fun c => absurd c (show (¬ (1 : Int) = 0) from by decide)⟩
        refine ⟨⟨_, rfl, (by decide)⟩, ?_⟩
        have hr8 : RR8 (ldR I (Int.toNat v1)) (pmR I (Int.toNat v1)) (Int.toNat v1) (uI I 236 3 0) := RR8_f (RR8_of (by omega) (hq (Int.toNat v1) (by omega))) (fun j hj => uJ_ne (show ¬ j = 3 from by omega))
        have hp8 : PR8 (Int.toNat v0) (uI I 236 3 0) := PR8_f (hpr (Int.toNat v0) (by omega)) (fun j hj => uJ_ne (show ¬ j = 3 from by omega))
        refine r_go9 (v0 := v0) (v1 := v1) hF (Rg.u hR (Pr_n p2)) (pp := Int.toNat v1) hr8 hp8 (by omega) (by omega) (fun vr14 I15 hR16 hA17 hr19 hW18 qr20 => ?_)
        have hr19 : -2147483648 ≤ vr14 ∧ vr14 < 2147483648 := hr19
        have hgo := (qr20).1
        have hf0 : (fun k => (uI I 236 3 0) 236 (42 + 36 * (Int.toNat v0) + 2 * k)) = (fun k => I 236 (42 + 36 * (Int.toNat v0) + 2 * k)) := funext (fun k => uJ_ne (show ¬ (42 + 36 * (Int.toNat v0) + 2 * k) = 3 from by omega))
        have hf1 : (fun k => (uI I 236 3 0) 236 (43 + 36 * (Int.toNat v0) + 2 * k)) = (fun k => I 236 (43 + 36 * (Int.toNat v0) + 2 * k)) := funext (fun k => uJ_ne (show ¬ (43 + 36 * (Int.toNat v0) + 2 * k) = 3 from by omega))
        have hn0 : (uI I 236 3 0) 236 (41 + 36 * (Int.toNat v0)) = I 236 (41 + 36 * (Int.toNat v0)) := uJ_ne (show ¬ (41 + 36 * (Int.toNat v0)) = 3 from by omega)
        have hn1 : (uI I 236 3 0) 236 (40 + 36 * (Int.toNat v0)) = I 236 (40 + 36 * (Int.toNat v0)) := uJ_ne (show ¬ (40 + 36 * (Int.toNat v0)) = 3 from by omega)
        rw [hf0, hf1, hn0, hn1] at hgo
        refine r_check10_l hF hR (MM := I 236 3) (by omega) (RR := rnF (ldR I (Int.toNat v1)) (pmR I (Int.toNat v1)) (fun k => I 236 (42 + 36 * (Int.toNat v0) + 2 * k)) (fun k => I 236 (43 + 36 * (Int.toNat v0) + 2 * k)) (Int.toNat (I 236 (41 + 36 * (Int.toNat v0)))) (Int.toNat (I 236 (40 + 36 * (Int.toNat v0))))) (TT := chR (fun k => I 236 (1292 + k)) (rnF (ldR I (Int.toNat v1)) (pmR I (Int.toNat v1)) (fun k => I 236 (42 + 36 * (Int.toNat v0) + 2 * k)) (fun k => I 236 (43 + 36 * (Int.toNat v0) + 2 * k)) (Int.toNat (I 236 (41 + 36 * (Int.toNat v0)))) (Int.toNat (I 236 (40 + 36 * (Int.toNat v0))))) (I 236 3) 49 0) WS_r (fun r I' g1 g2 g3 hv hA' => hQ _ _ g1 hA' (hv _ rfl) g2 ⟨⟨fun z => absurd (by omega) z, fun _ => ⟨fun y => absurd y (by omega), fun _ => g3.1⟩⟩, g3.2⟩) _ (I 236 3) vr14 0 I15 hR16 (fun ka ja hk => ((hW18 ka ja (by omega))).trans ((uI_o (show ¬ (ka = 236 ∧ ja = 3) from by omega)))) (show (0 : Int) ≤ (I 236 3) from by first | with_reducible assumption | omega | (simp only [wr, wl] at *; omega)) (show ((I 236 3) : Int) ≤ 48 from by first | with_reducible assumption | omega | (simp only [wr, wl] at *; omega)) (show (0 : Int) ≤ (0 : Int) from Int.le_refl _) (show ((0 : Int) : Int) ≤ 48 from by first | with_reducible assumption | omega | (simp only [wr, wl] at *; omega)) (rfl) ((by omega)) ((by have hz : WS (rnF (ldR I (Int.toNat v1)) (pmR I (Int.toNat v1)) (fun k => I 236 (42 + 36 * (Int.toNat v0) + 2 * k)) (fun k => I 236 (43 + 36 * (Int.toNat v0) + 2 * k)) (Int.toNat (I 236 (41 + 36 * (Int.toNat v0)))) (Int.toNat (I 236 (40 + 36 * (Int.toNat v0))))) := WS_r; have z := hz.2.2.2; omega)) (hgo) (rfl) ((hW18 236 (3) (by omega)).trans (uJ_eqj (show 3 = 3 from by omega))) (Nat.lt_succ_self _)
    ·
      refine ⟨fun c => absurd (show ((0 : Int) = 0) from by decide) c, fun _ => ?_⟩
      refine ⟨⟨_, rfl, (by decide)⟩, ?_⟩
      refine s_X12_finding hF (v := (-1000001)) (by decide) ?_
      exact ⟨rfl, fun hv hA' => hQ _ _ (Rg.u (Rg.u hR (Pr_n p2)) (Pr_f rfl)) hA' (hv _ rfl) (fun ka ja hk => ((uI_o (show ¬ (ka = 238 ∧ ja = 1) from by omega))).trans ((uI_o (show ¬ (ka = 236 ∧ ja = 3) from by omega)))) (⟨⟨fun _ => rfl, fun z => absurd z (by omega)⟩, (uI_o (show ¬ (236 = 238 ∧ 3 = 1) from fun e => absurd e.1 (by decide))).trans (uJ_eqj (show 3 = 3 from by omega))⟩)⟩
  ·
    refine ⟨fun _ => ?_, fun c => absurd (show ((0 : Int) = 0) from by decide) c⟩
    refine ⟨⟨_, rfl, (by decide)⟩, ?_⟩
    refine s_X12_finding hF (v := (-1000001)) (by decide) ?_
    exact ⟨rfl, fun hv hA' => hQ _ _ (Rg.u (Rg.u hR (Pr_n p2)) (Pr_f rfl)) hA' (hv _ rfl) (fun ka ja hk => ((uI_o (show ¬ (ka = 238 ∧ ja = 1) from by omega))).trans ((uI_o (show ¬ (ka = 236 ∧ ja = 3) from by omega)))) (⟨⟨fun _ => rfl, fun z => absurd z (by omega)⟩, (uI_o (show ¬ (236 = 238 ∧ 3 = 1) from fun e => absurd e.1 (by decide))).trans (uJ_eqj (show 3 = 3 from by omega))⟩)⟩
end CH10
