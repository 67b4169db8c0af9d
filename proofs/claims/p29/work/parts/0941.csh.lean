/-! sheets, meters, book, orders of the class, from any state. Own work (scripts laid by wip/pm/gen31.py). -/
section CH
variable {G : pG} {d : Nat} {F : pF} {I : pI} {Q : Option pV → pF → pI → Prop}
theorem c_numberAt (hF : FS F) (hR : Rg I) {v0 : Int} {h : Nat} (hh : HP F h) (hQ : ∀ r : Int, iR r → Q (some (vi r)) F I) : CallN G d kX7_numberAt [vr h, vi v0] NP F I Q := by
  refine CallN_in (fun hok hA => CallN_out ?_)
  have iv0 : -2147483648 ≤ v0 ∧ v0 < 2147483648 := hok (vi v0) (by simp)
  refine Call_wp (lv := [some (vr h), some (vi v0)]) (by decide) ckX7_numberAt [] rfl rfl ?_
  refine ⟨fun (c1 : ((v0 : Int) < 0)) => ?_, fun (c1 : (¬ ((v0 : Int) < 0))) => ?_⟩
  ·
    exact ⟨rfl, fun hv hA' => hQ _ (hv _ rfl)⟩
  ·
    refine ⟨_, hh.1, (by have := hh.2.2.1; show _ < 254; omega), ?_⟩
    have r2 : 0 ≤ (I h 1) ∧ (I h 1) ≤ 24 := hR.h hh.1 (by have := hh.2.2.1; omega)
    refine ⟨fun (c4 : (((I h 1) : Int) ≤ v0)) => ?_, fun (c4 : (¬ (((I h 1) : Int) ≤ v0))) => ?_⟩
    ·
      exact ⟨rfl, fun hv hA' => hQ _ (hv _ rfl)⟩
    ·
      refine ⟨fun c => absurd c (show (¬ ((24 : Int) ≤ v0)) from by first | omega | (simp only [wr, wl] at *; omega)), fun _ => ?_⟩
      refine ⟨_, hh.1, (by have := hh.2.2.1; show _ < 254; omega), ?_⟩
      refine fun w0 hw0 => ?_; obtain rfl : w0 = some (h + 1) := hw0.symm.trans hh.2.2.2
      refine ⟨_, hh.2.1, (by have := hh.2.2.1; show _ < 254; omega), (show (0 : Int) ≤ v0 from by first | with_reducible assumption | omega | (simp only [wr, wl] at *; omega)), (show v0 < (24 : Int) from by first | with_reducible assumption | omega | (simp only [wr, wl] at *; omega)), ?_⟩
      exact ⟨rfl, fun hv hA' => hQ _ (hv _ rfl)⟩
theorem c_begins_l (hF : FS F) (hR : Rg I) {v0 v1 v2 : Int} {h : Nat} (hh : HP F h) (hQ : ∀ (r : Int) , (0 ≤ r ∧ r ≤ 1) → Q (some (vi r)) F I) : ∀ (mz : Nat) (i : Int) , ((0 : Int) ≤ i) → (v0 - i).toNat < mz → GoN G (d + 1) kX7_begins NP NP 14 [some (vr h), some (vi v0), some (vi v1), some (vi v2), some (vi i)] [] F I Q := by
  intro mz
  induction mz with
  | zero => intro i _ h; exact absurd h (Nat.not_lt_zero _)
  | succ mz ih =>
    intro i c100 hm
    refine GoN_in (fun hok hA => ?_)
    have iiv0 : -2147483648 ≤ v0 ∧ v0 < 2147483648 := hok 1 _ rfl
    have iiv1 : -2147483648 ≤ v1 ∧ v1 < 2147483648 := hok 2 _ rfl
    have iiv2 : -2147483648 ≤ v2 ∧ v2 < 2147483648 := hok 3 _ rfl
    have iii : -2147483648 ≤ i ∧ i < 2147483648 := hok 4 _ rfl
    refine Go_wp (by decide) ckX7_begins [14] ?_
    refine ⟨fun (c1 : ((v0 : Int) ≤ i)) => ?_, fun (c1 : (¬ ((v0 : Int) ≤ i))) => ?_⟩
    ·
      exact ⟨rfl, (by decide), hQ _ (show 0 ≤ 1 ∧ 1 ≤ 1 from by decide)⟩
    ·
      refine ⟨⟨_, hh.1, (by have := hh.2.2.1; show _ < 254; omega)⟩, ?_⟩
      refine c_numberAt (v0 := i) hF hR hh (fun vr2 hr3 => ?_)
      have hr3 : -2147483648 ≤ vr2 ∧ vr2 < 2147483648 := hr3
      refine s_X11_within (fun (w4 : ((v1 : Int) ≤ vr2 ∧ (vr2 : Int) ≤ v2)) => ?_) (fun (w4 : ¬ ((v1 : Int) ≤ vr2 ∧ (vr2 : Int) ≤ v2)) => ?_)
      ·
        refine ⟨fun _ => ?_, fun c => absurd c (show (¬ (1 : Int) = 0) from by decide)⟩
        have n5 : (wr (i + 1)) = i + 1 := wr_id (show -2147483648 ≤ (i + 1 : Int) ∧ (i + 1 : Int) < 2147483648 from by omega)
        exact ih (wr (i + 1))  (show (0 : Int) ≤ (wr (i + 1)) from by first | with_reducible assumption | omega | (simp only [wr, wl] at *; omega)) (show (v0 - (wr (i + 1))).toNat < mz from by omega)
      ·
        refine ⟨fun c => absurd (show ((0 : Int) = 0) from by decide) c, fun _ => ?_⟩
        exact ⟨rfl, (by decide), hQ _ (show 0 ≤ 0 ∧ 0 ≤ 1 from by decide)⟩
theorem c_begins (hF : FS F) (hR : Rg I) {v0 v1 v2 : Int} {h : Nat} (hh : HP F h) (hQ : ∀ r : Int, iR r → (0 ≤ r ∧ r ≤ 1) → Q (some (vi r)) F I) : CallN G (d + 1) kX7_begins [vr h, vi v0, vi v1, vi v2] NP F I Q := by
  refine CallN_in (fun hok hA => CallN_out ?_)
  have iv0 : -2147483648 ≤ v0 ∧ v0 < 2147483648 := hok (vi v0) (by simp)
  have iv1 : -2147483648 ≤ v1 ∧ v1 < 2147483648 := hok (vi v1) (by simp)
  have iv2 : -2147483648 ≤ v2 ∧ v2 < 2147483648 := hok (vi v2) (by simp)
  refine Call_wp (lv := [some (vr h), some (vi v0), some (vi v1), some (vi v2), none]) (by decide) ckX7_begins [14] rfl rfl ?_
  refine ⟨⟨_, hh.1, (by have := hh.2.2.1; show _ < 254; omega)⟩, ?_⟩
  refine Call_wp (lv := [some (vr h), some (vi 0), some (vi v0)]) (by decide) ckX7_spans [] rfl rfl ?_
  refine ⟨fun c => absurd c (show (¬ ((0 : Int) < 0)) from by decide), fun _ => ?_⟩
  refine ⟨fun (c1 : ((v0 : Int) < 0)) => ?_, fun (c1 : (¬ ((v0 : Int) < 0))) => ?_⟩
  ·
    refine ⟨rfl, (by decide), ?_⟩
    refine ⟨fun c => absurd (show ((0 : Int) = 0) from by decide) c, fun _ => ?_⟩
    exact ⟨rfl, (by decide), fun hv hA' => hQ _ (hv _ rfl) (show 0 ≤ 0 ∧ 0 ≤ 1 from by decide)⟩
  ·
    refine ⟨_, hh.1, (by have := hh.2.2.1; show _ < 254; omega), ?_⟩
    have r2 : 0 ≤ (I h 1) ∧ (I h 1) ≤ 24 := hR.h hh.1 (by have := hh.2.2.1; omega)
    refine ⟨fun (c4 : (((I h 1) : Int) < v0)) => ?_, fun (c4 : (¬ (((I h 1) : Int) < v0))) => ?_⟩
    ·
      refine ⟨rfl, (by decide), ?_⟩
      refine ⟨fun c => absurd (show ((0 : Int) = 0) from by decide) c, fun _ => ?_⟩
      exact ⟨rfl, (by decide), fun hv hA' => hQ _ (hv _ rfl) (show 0 ≤ 0 ∧ 0 ≤ 1 from by decide)⟩
    ·
      refine ⟨_, hh.1, (by have := hh.2.2.1; show _ < 254; omega), ?_⟩
      have n5 : (wr ((I h 1) - v0)) = (I h 1) - v0 := wr_id (show -2147483648 ≤ ((I h 1) - v0 : Int) ∧ ((I h 1) - v0 : Int) < 2147483648 from by omega)
      refine ⟨fun (c6 : (((wr ((I h 1) - v0)) : Int) < 0)) => ?_, fun (c6 : (¬ (((wr ((I h 1) - v0)) : Int) < 0))) => ?_⟩
      ·
        refine ⟨rfl, (by decide), ?_⟩
        refine ⟨fun c => absurd (show ((0 : Int) = 0) from by decide) c, fun _ => ?_⟩
        exact ⟨rfl, (by decide), fun hv hA' => hQ _ (hv _ rfl) (show 0 ≤ 0 ∧ 0 ≤ 1 from by decide)⟩
      ·
        refine ⟨rfl, (by decide), ?_⟩
        refine ⟨fun _ => ?_, fun c => absurd c (show (¬ (1 : Int) = 0) from by decide)⟩
        refine c_begins_l hF hR hh (fun r g3 hv hA' => hQ _ (hv _ rfl) g3) _ 0  (show (0 : Int) ≤ (0 : Int) from Int.le_refl _) (Nat.lt_succ_self _)
theorem c_otherOf (hF : FS F) (hR : Rg I) {v0 : Int}  (hQ : ∀ r : Int, iR r → Q (some (vi r)) F I) : CallN G (d + 2) kX2_otherOf [vr 7, vi v0] NP F I Q := by
  refine CallN_in (fun hok hA => CallN_out ?_)
  have iv0 : -2147483648 ≤ v0 ∧ v0 < 2147483648 := hok (vi v0) (by simp)
  refine Call_wp (lv := [some (vr 7), some (vi v0)]) (by decide) ckX2_otherOf [] rfl rfl ?_
  refine s_X11_isMeter (fun (w1 : ((0 : Int) ≤ v0 ∧ (v0 : Int) ≤ 5)) => ?_) (fun (w1 : ¬ ((0 : Int) ≤ v0 ∧ (v0 : Int) ≤ 5)) => ?_)
  ·
    refine ⟨fun c => absurd c (show (¬ ((1 : Int) = 0)) from by decide), fun _ => ?_⟩
    refine ⟨_, rfl, (by decide), ?_⟩
    refine fun w0 hw0 => ?_; obtain rfl : w0 = some 8 := hw0.symm.trans (FS.g hF rfl)
    refine ⟨_, rfl, (by decide), (show (0 : Int) ≤ v0 from by first | with_reducible assumption | omega | (simp only [wr, wl] at *; omega)), (show v0 < (6 : Int) from by first | with_reducible assumption | omega | (simp only [wr, wl] at *; omega)), ?_⟩
    exact ⟨rfl, fun hv hA' => hQ _ (hv _ rfl)⟩
  ·
    refine ⟨fun _ => ?_, fun c => absurd (show ((0 : Int) = 0) from by decide) c⟩
    exact ⟨rfl, fun hv hA' => hQ _ (hv _ rfl)⟩
theorem c_ledOnce (hF : FS F) (hR : Rg I) {v0 v1 : Int}  (hQ : ∀ r : Int, lR r → Q (some (vl r)) F I) : CallN G (d + 2) kX2_ledOnce [vr 7, vi v0, vl v1] NP F I Q := by
  refine CallN_in (fun hok hA => CallN_out ?_)
  have iv0 : -2147483648 ≤ v0 ∧ v0 < 2147483648 := hok (vi v0) (by simp)
  have iv1 : -9223372036854775808 ≤ v1 ∧ v1 < 9223372036854775808 := hok (vl v1) (by simp)
  refine Call_wp (lv := [some (vr 7), some (vi v0), some (vl v1), none]) (by decide) ckX2_ledOnce [] rfl rfl ?_
  refine s_X11_isMeter (fun (w1 : ((0 : Int) ≤ v0 ∧ (v0 : Int) ≤ 5)) => ?_) (fun (w1 : ¬ ((0 : Int) ≤ v0 ∧ (v0 : Int) ≤ 5)) => ?_)
  ·
    refine ⟨fun c => absurd c (show (¬ ((1 : Int) = 0)) from by decide), fun _ => ?_⟩
    refine ⟨_, rfl, (by decide), ?_⟩
    refine fun w0 hw0 => ?_; obtain rfl : w0 = some 10 := hw0.symm.trans (FS.g hF rfl)
    refine ⟨_, rfl, (by decide), (show (0 : Int) ≤ v0 from by first | with_reducible assumption | omega | (simp only [wr, wl] at *; omega)), (show v0 < (6 : Int) from by first | with_reducible assumption | omega | (simp only [wr, wl] at *; omega)), ?_⟩
    have a2 : -2147483648 ≤ (I 10 (Int.toNat v0)) ∧ (I 10 (Int.toNat v0)) < 2147483648 := hA.1 _ _
    refine ⟨fun (c3 : ((1 : Int) ≤ (I 10 (Int.toNat v0)))) => ?_, fun (c3 : (¬ ((1 : Int) ≤ (I 10 (Int.toNat v0))))) => ?_⟩
    ·
      refine ⟨_, rfl, (by decide), ?_⟩
      refine fun w0 hw0 => ?_; obtain rfl : w0 = some 9 := hw0.symm.trans (FS.g hF rfl)
      refine ⟨_, rfl, (by decide), (show (0 : Int) ≤ v0 from by first | with_reducible assumption | omega | (simp only [wr, wl] at *; omega)), (show v0 < (6 : Int) from by first | with_reducible assumption | omega | (simp only [wr, wl] at *; omega)), ?_⟩
      refine ⟨_, rfl, (by decide), ?_⟩
      refine fun w0 hw0 => ?_; obtain rfl : w0 = some 10 := hw0.symm.trans (FS.g hF rfl)
      refine ⟨_, rfl, (by decide), (show (0 : Int) ≤ v0 from by first | with_reducible assumption | omega | (simp only [wr, wl] at *; omega)), (show v0 < (6 : Int) from by first | with_reducible assumption | omega | (simp only [wr, wl] at *; omega)), ?_⟩
      refine ⟨(show ¬ ((I 10 (Int.toNat v0)) : Int) = 0 from by first | omega | (simp only [wr, wl] at *; omega)), ?_⟩
      have a4 : -2147483648 ≤ (I 9 (Int.toNat v0)) ∧ (I 9 (Int.toNat v0)) < 2147483648 := hA.1 _ _
      refine j_minL (fun w5 h6 h7 h8 => ?_)
      exact ⟨rfl, fun hv hA' => hQ _ (hv _ rfl)⟩
    ·
      exact ⟨rfl, fun hv hA' => hQ _ (hv _ rfl)⟩
  ·
    refine ⟨fun _ => ?_, fun c => absurd (show ((0 : Int) = 0) from by decide) c⟩
    exact ⟨rfl, fun hv hA' => hQ _ (hv _ rfl)⟩
theorem c_ledTo_l (hF : FS F) (hR : Rg I) {v0 v1 : Int}  (hQ : ∀ (r : Int) , Q (some (vi r)) F I) : ∀ (mz : Nat) (le m i : Int) , ((0 : Int) ≤ i) → ((i : Int) ≤ 6) → (6 - i).toNat < mz → GoN G (d + 3) kX2_ledToHouse NP NP 9 [some (vr 7), some (vi v0), some (vi v1), some (vl le), none, some (vi m), some (vi i)] [] F I Q := by
  intro mz
  induction mz with
  | zero => intro le m i _ _ h; exact absurd h (Nat.not_lt_zero _)
  | succ mz ih =>
    intro le m i c100 c101 hm
    refine GoN_in (fun hok hA => ?_)
    have iiv0 : -2147483648 ≤ v0 ∧ v0 < 2147483648 := hok 1 _ rfl
    have iiv1 : -2147483648 ≤ v1 ∧ v1 < 2147483648 := hok 2 _ rfl
    have iile : -9223372036854775808 ≤ le ∧ le < 9223372036854775808 := hok 3 _ rfl
    have iim : -2147483648 ≤ m ∧ m < 2147483648 := hok 5 _ rfl
    have iii : -2147483648 ≤ i ∧ i < 2147483648 := hok 6 _ rfl
    refine Go_wp (by decide) ckX2_ledToHouse [9] ?_
    refine ⟨fun (c1 : ((6 : Int) ≤ i)) => ?_, fun (c1 : (¬ ((6 : Int) ≤ i))) => ?_⟩
    ·
      exact ⟨rfl, hQ _⟩
    ·
      refine ⟨fun (c2 : ((m : Int) ≤ 0)) => ?_, fun (c2 : (¬ ((m : Int) ≤ 0))) => ?_⟩
      ·
        exact ⟨rfl, hQ _⟩
      ·
        refine ⟨⟨_, rfl, (by decide)⟩, ?_⟩
        refine c_ledOnce  hF hR (fun vr3 hr4 => ?_)
        have hr4 : -9223372036854775808 ≤ vr3 ∧ vr3 < 9223372036854775808 := hr4
        refine ⟨⟨_, rfl, (by decide)⟩, ?_⟩
        refine c_otherOf  hF hR (fun vr5 hr6 => ?_)
        have hr6 : -2147483648 ≤ vr5 ∧ vr5 < 2147483648 := hr6
        have n7 : (wr (i + 1)) = i + 1 := wr_id (show -2147483648 ≤ (i + 1 : Int) ∧ (i + 1 : Int) < 2147483648 from by omega)
        exact ih vr3 vr5 (wr (i + 1))  (show (0 : Int) ≤ (wr (i + 1)) from by first | with_reducible assumption | omega | (simp only [wr, wl] at *; omega)) (show ((wr (i + 1)) : Int) ≤ 6 from by first | with_reducible assumption | omega | (simp only [wr, wl] at *; omega)) (show (6 - (wr (i + 1))).toNat < mz from by omega)
theorem c_ledTo (hF : FS F) (hR : Rg I) {v0 v1 : Int}  (hQ : ∀ r : Int, iR r → Q (some (vi r)) F I) : CallN G (d + 3) kX2_ledToHouse [vr 7, vi v0, vi v1] NP F I Q := by
  refine CallN_in (fun hok hA => CallN_out ?_)
  have iv0 : -2147483648 ≤ v0 ∧ v0 < 2147483648 := hok (vi v0) (by simp)
  have iv1 : -2147483648 ≤ v1 ∧ v1 < 2147483648 := hok (vi v1) (by simp)
  refine Call_wp (lv := [some (vr 7), some (vi v0), some (vi v1), none, none, none, none]) (by decide) ckX2_ledToHouse [9] rfl rfl ?_
  refine c_ledTo_l hF hR  (fun r hv hA' => hQ _ (hv _ rfl)) _ v1 v0 0  (show (0 : Int) ≤ (0 : Int) from Int.le_refl _) (show ((0 : Int) : Int) ≤ 6 from by first | with_reducible assumption | omega | (simp only [wr, wl] at *; omega)) (Nat.lt_succ_self _)
theorem c_doubt_l (hF : FS F) (hR : Rg I) {v0 : Int}  (hQ : ∀ (r : Int) , Q (some (vi r)) F I) : ∀ (mz : Nat) (al m i : Int) , ((0 : Int) ≤ i) → ((i : Int) ≤ 6) → (6 - i).toNat < mz → GoN G (d + 4) kX2_doubtOf NP NP 8 [some (vr 7), some (vi v0), some (vl al), none, some (vi m), some (vi i)] [] F I Q := by
  intro mz
  induction mz with
  | zero => intro al m i _ _ h; exact absurd h (Nat.not_lt_zero _)
  | succ mz ih =>
    intro al m i c100 c101 hm
    refine GoN_in (fun hok hA => ?_)
    have iiv0 : -2147483648 ≤ v0 ∧ v0 < 2147483648 := hok 1 _ rfl
    have iial : -9223372036854775808 ≤ al ∧ al < 9223372036854775808 := hok 2 _ rfl
    have iim : -2147483648 ≤ m ∧ m < 2147483648 := hok 4 _ rfl
    have iii : -2147483648 ≤ i ∧ i < 2147483648 := hok 5 _ rfl
    refine Go_wp (by decide) ckX2_doubtOf [8] ?_
    refine ⟨fun (c1 : ((6 : Int) ≤ i)) => ?_, fun (c1 : (¬ ((6 : Int) ≤ i))) => ?_⟩
    ·
      refine j_minL (fun w2 h3 h4 h5 => ?_)
      exact ⟨rfl, hQ _⟩
    ·
      refine ⟨fun (c6 : ((m : Int) ≤ 0)) => ?_, fun (c6 : (¬ ((m : Int) ≤ 0))) => ?_⟩
      ·
        refine j_minL (fun w7 h8 h9 h10 => ?_)
        exact ⟨rfl, hQ _⟩
      ·
        refine s_X11_isMeter (fun (w11 : ((0 : Int) ≤ m ∧ (m : Int) ≤ 5)) => ?_) (fun (w11 : ¬ ((0 : Int) ≤ m ∧ (m : Int) ≤ 5)) => ?_)
        ·
          refine ⟨fun c => absurd c (show (¬ ((1 : Int) = 0)) from by decide), fun _ => ?_⟩
          refine ⟨_, rfl, (by decide), ?_⟩
          refine fun w0 hw0 => ?_; obtain rfl : w0 = some 11 := hw0.symm.trans (FS.g hF rfl)
          refine ⟨_, rfl, (by decide), (show (0 : Int) ≤ m from by first | with_reducible assumption | omega | (simp only [wr, wl] at *; omega)), (show m < (6 : Int) from by first | with_reducible assumption | omega | (simp only [wr, wl] at *; omega)), ?_⟩
          refine ⟨⟨_, rfl, (by decide)⟩, ?_⟩
          have a12 : -2147483648 ≤ (I 11 (Int.toNat m)) ∧ (I 11 (Int.toNat m)) < 2147483648 := hA.1 _ _
          refine c_ledTo  hF hR (fun vr13 hr14 => ?_)
          have hr14 : -2147483648 ≤ vr13 ∧ vr13 < 2147483648 := hr14
          refine ⟨⟨_, rfl, (by decide)⟩, ?_⟩
          refine c_otherOf  hF hR (fun vr15 hr16 => ?_)
          have hr16 : -2147483648 ≤ vr15 ∧ vr15 < 2147483648 := hr16
          have n17 : (wr (i + 1)) = i + 1 := wr_id (show -2147483648 ≤ (i + 1 : Int) ∧ (i + 1 : Int) < 2147483648 from by omega)
          exact ih (wl (al + vr13)) vr15 (wr (i + 1))  (show (0 : Int) ≤ (wr (i + 1)) from by first | with_reducible assumption | omega | (simp only [wr, wl] at *; omega)) (show ((wr (i + 1)) : Int) ≤ 6 from by first | with_reducible assumption | omega | (simp only [wr, wl] at *; omega)) (show (6 - (wr (i + 1))).toNat < mz from by omega)
        ·
          refine ⟨fun _ => ?_, fun c => absurd (show ((0 : Int) = 0) from by decide) c⟩
          refine ⟨⟨_, rfl, (by decide)⟩, ?_⟩
          refine c_otherOf  hF hR (fun vr18 hr19 => ?_)
          have hr19 : -2147483648 ≤ vr18 ∧ vr18 < 2147483648 := hr19
          have n20 : (wl (al + 0)) = al + 0 := wl_id (show -9223372036854775808 ≤ (al + 0 : Int) ∧ (al + 0 : Int) < 9223372036854775808 from by omega)
          have n21 : (wr (i + 1)) = i + 1 := wr_id (show -2147483648 ≤ (i + 1 : Int) ∧ (i + 1 : Int) < 2147483648 from by omega)
          exact ih (wl (al + 0)) vr18 (wr (i + 1))  (show (0 : Int) ≤ (wr (i + 1)) from by first | with_reducible assumption | omega | (simp only [wr, wl] at *; omega)) (show ((wr (i + 1)) : Int) ≤ 6 from by first | with_reducible assumption | omega | (simp only [wr, wl] at *; omega)) (show (6 - (wr (i + 1))).toNat < mz from by omega)
theorem c_doubt (hF : FS F) (hR : Rg I) {v0 : Int}  (hQ : ∀ r : Int, iR r → Q (some (vi r)) F I) : CallN G (d + 4) kX2_doubtOf [vr 7, vi v0] NP F I Q := by
  refine CallN_in (fun hok hA => CallN_out ?_)
  have iv0 : -2147483648 ≤ v0 ∧ v0 < 2147483648 := hok (vi v0) (by simp)
  refine Call_wp (lv := [some (vr 7), some (vi v0), none, none, none, none]) (by decide) ckX2_doubtOf [8] rfl rfl ?_
  refine c_doubt_l hF hR  (fun r hv hA' => hQ _ (hv _ rfl)) _ 0 v0 0  (show (0 : Int) ≤ (0 : Int) from Int.le_refl _) (show ((0 : Int) : Int) ≤ 6 from by first | with_reducible assumption | omega | (simp only [wr, wl] at *; omega)) (Nat.lt_succ_self _)
theorem c_taken_l (hF : FS F) (hR : Rg I)  (hQ : ∀ (r : Int) , Q (some (vi r)) F I) : ∀ (mz : Nat) (a i : Int) , ((0 : Int) ≤ i) → ((i : Int) ≤ 20) → (20 - i).toNat < mz → GoN G d kX0_takenBack NP NP 4 [some (vr 12), some (vi a), some (vi i)] [] F I Q := by
  intro mz
  induction mz with
  | zero => intro a i _ _ h; exact absurd h (Nat.not_lt_zero _)
  | succ mz ih =>
    intro a i c100 c101 hm
    refine GoN_in (fun hok hA => ?_)
    have iia : -2147483648 ≤ a ∧ a < 2147483648 := hok 1 _ rfl
    have iii : -2147483648 ≤ i ∧ i < 2147483648 := hok 2 _ rfl
    refine Go_wp (by decide) ckX0_takenBack [4] ?_
    refine ⟨_, rfl, (by decide), ?_⟩
    have a1 : -2147483648 ≤ (I 12 6) ∧ (I 12 6) < 2147483648 := hA.1 _ _
    refine ⟨fun (c2 : (((I 12 6) : Int) ≤ i)) => ?_, fun (c2 : (¬ (((I 12 6) : Int) ≤ i))) => ?_⟩
    ·
      exact ⟨rfl, hQ _⟩
    ·
      refine ⟨fun (c3 : ((20 : Int) ≤ i)) => ?_, fun (c3 : (¬ ((20 : Int) ≤ i))) => ?_⟩
      ·
        exact ⟨rfl, hQ _⟩
      ·
        refine ⟨_, rfl, (by decide), ?_⟩
        refine fun w0 hw0 => ?_; obtain rfl : w0 = some 18 := hw0.symm.trans (FS.g hF rfl)
        refine ⟨_, rfl, (by decide), (show (0 : Int) ≤ i from by first | with_reducible assumption | omega | (simp only [wr, wl] at *; omega)), (show i < (20 : Int) from by first | with_reducible assumption | omega | (simp only [wr, wl] at *; omega)), ?_⟩
        have a4 : -2147483648 ≤ (I 18 (Int.toNat i)) ∧ (I 18 (Int.toNat i)) < 2147483648 := hA.1 _ _
        refine ⟨fun (c5 : (((I 18 (Int.toNat i)) : Int) < 0)) => ?_, fun (c5 : (¬ (((I 18 (Int.toNat i)) : Int) < 0))) => ?_⟩
        ·
          have n6 : (wr (a + 0)) = a + 0 := wr_id (show -2147483648 ≤ (a + 0 : Int) ∧ (a + 0 : Int) < 2147483648 from by omega)
          have n7 : (wr (i + 1)) = i + 1 := wr_id (show -2147483648 ≤ (i + 1 : Int) ∧ (i + 1 : Int) < 2147483648 from by omega)
          exact ih (wr (a + 0)) (wr (i + 1))  (show (0 : Int) ≤ (wr (i + 1)) from by first | with_reducible assumption | omega | (simp only [wr, wl] at *; omega)) (show ((wr (i + 1)) : Int) ≤ 20 from by first | with_reducible assumption | omega | (simp only [wr, wl] at *; omega)) (show (20 - (wr (i + 1))).toNat < mz from by omega)
        ·
          have n8 : -2147483648 ≤ (wr (a + 1)) ∧ (wr (a + 1)) < 2147483648 := wr_R _
          have n9 : (wr (i + 1)) = i + 1 := wr_id (show -2147483648 ≤ (i + 1 : Int) ∧ (i + 1 : Int) < 2147483648 from by omega)
          exact ih (wr (a + 1)) (wr (i + 1))  (show (0 : Int) ≤ (wr (i + 1)) from by first | with_reducible assumption | omega | (simp only [wr, wl] at *; omega)) (show ((wr (i + 1)) : Int) ≤ 20 from by first | with_reducible assumption | omega | (simp only [wr, wl] at *; omega)) (show (20 - (wr (i + 1))).toNat < mz from by omega)
theorem c_taken (hF : FS F) (hR : Rg I)  (hQ : ∀ r : Int, iR r → Q (some (vi r)) F I) : CallN G d kX0_takenBack [vr 12] NP F I Q := by
  refine CallN_in (fun hok hA => CallN_out ?_)
  refine Call_wp (lv := [some (vr 12), none, none]) (by decide) ckX0_takenBack [4] rfl rfl ?_
  refine c_taken_l hF hR  (fun r hv hA' => hQ _ (hv _ rfl)) _ 0 0  (show (0 : Int) ≤ (0 : Int) from Int.le_refl _) (show ((0 : Int) : Int) ≤ 20 from by first | with_reducible assumption | omega | (simp only [wr, wl] at *; omega)) (Nat.lt_succ_self _)
theorem c_latest_l (hF : FS F) (hR : Rg I) {v0 v1 : Int}  (hQ : ∀ (r : Int) , Q (some (vi r)) F I) : ∀ (mz : Nat) (a i : Int) , ((0 : Int) ≤ i) → ((i : Int) ≤ 20) → (20 - i).toNat < mz → GoN G d kX0_latest NP NP 5 [some (vr 12), some (vi v0), some (vi v1), some (vi a), some (vi i)] [] F I Q := by
  intro mz
  induction mz with
  | zero => intro a i _ _ h; exact absurd h (Nat.not_lt_zero _)
  | succ mz ih =>
    intro a i c100 c101 hm
    refine GoN_in (fun hok hA => ?_)
    have iiv0 : -2147483648 ≤ v0 ∧ v0 < 2147483648 := hok 1 _ rfl
    have iiv1 : -2147483648 ≤ v1 ∧ v1 < 2147483648 := hok 2 _ rfl
    have iia : -2147483648 ≤ a ∧ a < 2147483648 := hok 3 _ rfl
    have iii : -2147483648 ≤ i ∧ i < 2147483648 := hok 4 _ rfl
    refine Go_wp (by decide) ckX0_latest [5] ?_
    refine ⟨_, rfl, (by decide), ?_⟩
    have a1 : -2147483648 ≤ (I 12 6) ∧ (I 12 6) < 2147483648 := hA.1 _ _
    refine ⟨fun (c2 : (((I 12 6) : Int) ≤ i)) => ?_, fun (c2 : (¬ (((I 12 6) : Int) ≤ i))) => ?_⟩
    ·
      exact ⟨rfl, hQ _⟩
    ·
      refine ⟨fun (c3 : ((20 : Int) ≤ i)) => ?_, fun (c3 : (¬ ((20 : Int) ≤ i))) => ?_⟩
      ·
        exact ⟨rfl, hQ _⟩
      ·
        refine ⟨_, rfl, (by decide), ?_⟩
        refine fun w0 hw0 => ?_; obtain rfl : w0 = some 13 := hw0.symm.trans (FS.g hF rfl)
        refine ⟨_, rfl, (by decide), (show (0 : Int) ≤ i from by first | with_reducible assumption | omega | (simp only [wr, wl] at *; omega)), (show i < (20 : Int) from by first | with_reducible assumption | omega | (simp only [wr, wl] at *; omega)), ?_⟩
        have a4 : -2147483648 ≤ (I 13 (Int.toNat i)) ∧ (I 13 (Int.toNat i)) < 2147483648 := hA.1 _ _
        refine ⟨fun (c5 : (¬ ((I 13 (Int.toNat i)) : Int) = v0)) => ?_, fun (c5 : (((I 13 (Int.toNat i)) : Int) = v0)) => ?_⟩
        ·
          have n6 : (wr (i + 1)) = i + 1 := wr_id (show -2147483648 ≤ (i + 1 : Int) ∧ (i + 1 : Int) < 2147483648 from by omega)
          exact ih a (wr (i + 1))  (show (0 : Int) ≤ (wr (i + 1)) from by first | with_reducible assumption | omega | (simp only [wr, wl] at *; omega)) (show ((wr (i + 1)) : Int) ≤ 20 from by first | with_reducible assumption | omega | (simp only [wr, wl] at *; omega)) (show (20 - (wr (i + 1))).toNat < mz from by omega)
        ·
          refine ⟨_, rfl, (by decide), ?_⟩
          refine fun w0 hw0 => ?_; obtain rfl : w0 = some 14 := hw0.symm.trans (FS.g hF rfl)
          refine ⟨_, rfl, (by decide), (show (0 : Int) ≤ i from by first | with_reducible assumption | omega | (simp only [wr, wl] at *; omega)), (show i < (20 : Int) from by first | with_reducible assumption | omega | (simp only [wr, wl] at *; omega)), ?_⟩
          have a7 : -2147483648 ≤ (I 14 (Int.toNat i)) ∧ (I 14 (Int.toNat i)) < 2147483648 := hA.1 _ _
          refine ⟨fun (c8 : (¬ ((I 14 (Int.toNat i)) : Int) = v1)) => ?_, fun (c8 : (((I 14 (Int.toNat i)) : Int) = v1)) => ?_⟩
          ·
            have n9 : (wr (i + 1)) = i + 1 := wr_id (show -2147483648 ≤ (i + 1 : Int) ∧ (i + 1 : Int) < 2147483648 from by omega)
            exact ih a (wr (i + 1))  (show (0 : Int) ≤ (wr (i + 1)) from by first | with_reducible assumption | omega | (simp only [wr, wl] at *; omega)) (show ((wr (i + 1)) : Int) ≤ 20 from by first | with_reducible assumption | omega | (simp only [wr, wl] at *; omega)) (show (20 - (wr (i + 1))).toNat < mz from by omega)
          ·
            refine ⟨_, rfl, (by decide), ?_⟩
            refine fun w0 hw0 => ?_; obtain rfl : w0 = some 18 := hw0.symm.trans (FS.g hF rfl)
            refine ⟨_, rfl, (by decide), (show (0 : Int) ≤ i from by first | with_reducible assumption | omega | (simp only [wr, wl] at *; omega)), (show i < (20 : Int) from by first | with_reducible assumption | omega | (simp only [wr, wl] at *; omega)), ?_⟩
            have a10 : -2147483648 ≤ (I 18 (Int.toNat i)) ∧ (I 18 (Int.toNat i)) < 2147483648 := hA.1 _ _
            refine ⟨fun (c11 : ((0 : Int) ≤ (I 18 (Int.toNat i)))) => ?_, fun (c11 : (¬ ((0 : Int) ≤ (I 18 (Int.toNat i))))) => ?_⟩
            ·
              have n12 : (wr (i + 1)) = i + 1 := wr_id (show -2147483648 ≤ (i + 1 : Int) ∧ (i + 1 : Int) < 2147483648 from by omega)
              exact ih a (wr (i + 1))  (show (0 : Int) ≤ (wr (i + 1)) from by first | with_reducible assumption | omega | (simp only [wr, wl] at *; omega)) (show ((wr (i + 1)) : Int) ≤ 20 from by first | with_reducible assumption | omega | (simp only [wr, wl] at *; omega)) (show (20 - (wr (i + 1))).toNat < mz from by omega)
            ·
              have n13 : (wr (i + 1)) = i + 1 := wr_id (show -2147483648 ≤ (i + 1 : Int) ∧ (i + 1 : Int) < 2147483648 from by omega)
              exact ih i (wr (i + 1))  (show (0 : Int) ≤ (wr (i + 1)) from by first | with_reducible assumption | omega | (simp only [wr, wl] at *; omega)) (show ((wr (i + 1)) : Int) ≤ 20 from by first | with_reducible assumption | omega | (simp only [wr, wl] at *; omega)) (show (20 - (wr (i + 1))).toNat < mz from by omega)
theorem c_latest (hF : FS F) (hR : Rg I) {v0 v1 : Int}  (hQ : ∀ r : Int, iR r → Q (some (vi r)) F I) : CallN G d kX0_latest [vr 12, vi v0, vi v1] NP F I Q := by
  refine CallN_in (fun hok hA => CallN_out ?_)
  have iv0 : -2147483648 ≤ v0 ∧ v0 < 2147483648 := hok (vi v0) (by simp)
  have iv1 : -2147483648 ≤ v1 ∧ v1 < 2147483648 := hok (vi v1) (by simp)
  refine Call_wp (lv := [some (vr 12), some (vi v0), some (vi v1), none, none]) (by decide) ckX0_latest [5] rfl rfl ?_
  refine c_latest_l hF hR  (fun r hv hA' => hQ _ (hv _ rfl)) _ (-1) 0  (show (0 : Int) ≤ (0 : Int) from Int.le_refl _) (show ((0 : Int) : Int) ≤ 20 from by first | with_reducible assumption | omega | (simp only [wr, wl] at *; omega)) (Nat.lt_succ_self _)
theorem c_insert_l (hF : FS F) (hR : Rg I) {v0 v1 : Int}  (hQ : ∀ (I' : pI), Rg I' → (∀ k j, ¬ (223 ≤ k ∧ k ≤ 225) → I' k j = I k j) → Q none F I') : ∀ (mz : Nat) (a : Int) (J : pI), Rg J → (∀ k j, ¬ (223 ≤ k ∧ k ≤ 225) → J k j = I k j) → ((0 : Int) ≤ a) → ((a : Int) ≤ 13) → (a).toNat < mz → GoN G d kX3_insert NP NP 22 [some (vr 223), some (vi v0), some (vi v1), some (vi a)] [] F J Q := by
  intro mz
  induction mz with
  | zero => intro a J hJ hV _ _ h; exact absurd h (Nat.not_lt_zero _)
  | succ mz ih =>
    intro a J hJ hV c100 c101 hm
    refine GoN_in (fun hok hA => ?_)
    have iiv0 : -2147483648 ≤ v0 ∧ v0 < 2147483648 := hok 1 _ rfl
    have iiv1 : -2147483648 ≤ v1 ∧ v1 < 2147483648 := hok 2 _ rfl
    have iia : -2147483648 ≤ a ∧ a < 2147483648 := hok 3 _ rfl
    refine Go_wp (by decide) ckX3_insert [22] ?_
    refine ⟨fun (c1 : ((a : Int) ≤ 0)) => ?_, fun (c1 : (¬ ((a : Int) ≤ 0))) => ?_⟩
    ·
      refine ⟨_, rfl, (by decide), ?_⟩
      refine fun w0 hw0 => ?_; obtain rfl : w0 = some 224 := hw0.symm.trans (FS.g hF rfl)
      refine ⟨_, rfl, (by decide), (show (0 : Int) ≤ a from by first | with_reducible assumption | omega | (simp only [wr, wl] at *; omega)), (show a < (14 : Int) from by first | with_reducible assumption | omega | (simp only [wr, wl] at *; omega)), ?_⟩
      refine ⟨_, rfl, (by decide), ?_⟩
      refine fun w0 hw0 => ?_; obtain rfl : w0 = some 225 := hw0.symm.trans (FS.g hF rfl)
      refine ⟨_, rfl, (by decide), (show (0 : Int) ≤ a from by first | with_reducible assumption | omega | (simp only [wr, wl] at *; omega)), (show a < (14 : Int) from by first | with_reducible assumption | omega | (simp only [wr, wl] at *; omega)), ?_⟩
      refine ⟨_, rfl, (by decide), ?_⟩
      refine ⟨_, rfl, (by decide), ?_⟩
      exact ⟨rfl, hQ _ (Rg.u (Rg.u (Rg.u hJ (Pr_p (k := 224) rfl _ _)) (Pr_p (k := 225) rfl _ _)) (Pr_f rfl)) (fun ka ja hk => ((uI_o (show ¬ (ka = 223 ∧ ja = 2) from by first | (intro e; obtain ⟨rfl, rfl⟩ := e; exact hk (by decide)) | omega))).trans (((uI_o (show ¬ (ka = 225 ∧ ja = (Int.toNat a)) from by first | (intro e; obtain ⟨rfl, _⟩ := e; exact hk (by decide)) | omega))).trans (((uI_o (show ¬ (ka = 224 ∧ ja = (Int.toNat a)) from by first | (intro e; obtain ⟨rfl, _⟩ := e; exact hk (by decide)) | omega))).trans ((hV ka ja (by omega))))))⟩
    ·
      refine ⟨_, rfl, (by decide), ?_⟩
      refine fun w0 hw0 => ?_; obtain rfl : w0 = some 224 := hw0.symm.trans (FS.g hF rfl)
      have n2 : (wr (a - 1)) = a - 1 := wr_id (show -2147483648 ≤ (a - 1 : Int) ∧ (a - 1 : Int) < 2147483648 from by omega)
      refine ⟨_, rfl, (by decide), (show (0 : Int) ≤ (wr (a - 1)) from by first | with_reducible assumption | omega | (simp only [wr, wl] at *; omega)), (show (wr (a - 1)) < (14 : Int) from by first | with_reducible assumption | omega | (simp only [wr, wl] at *; omega)), ?_⟩
      have a3 : -2147483648 ≤ (J 224 (Int.toNat (wr (a - 1)))) ∧ (J 224 (Int.toNat (wr (a - 1)))) < 2147483648 := hA.1 _ _
      refine ⟨fun (c4 : (((J 224 (Int.toNat (wr (a - 1)))) : Int) ≤ v0)) => ?_, fun (c4 : (¬ (((J 224 (Int.toNat (wr (a - 1)))) : Int) ≤ v0))) => ?_⟩
      ·
        refine ⟨_, rfl, (by decide), ?_⟩
        refine fun w0 hw0 => ?_; obtain rfl : w0 = some 224 := hw0.symm.trans (FS.g hF rfl)
        refine ⟨_, rfl, (by decide), (show (0 : Int) ≤ a from by first | with_reducible assumption | omega | (simp only [wr, wl] at *; omega)), (show a < (14 : Int) from by first | with_reducible assumption | omega | (simp only [wr, wl] at *; omega)), ?_⟩
        refine ⟨_, rfl, (by decide), ?_⟩
        refine fun w0 hw0 => ?_; obtain rfl : w0 = some 225 := hw0.symm.trans (FS.g hF rfl)
        refine ⟨_, rfl, (by decide), (show (0 : Int) ≤ a from by first | with_reducible assumption | omega | (simp only [wr, wl] at *; omega)), (show a < (14 : Int) from by first | with_reducible assumption | omega | (simp only [wr, wl] at *; omega)), ?_⟩
        refine ⟨_, rfl, (by decide), ?_⟩
        refine ⟨_, rfl, (by decide), ?_⟩
        exact ⟨rfl, hQ _ (Rg.u (Rg.u (Rg.u hJ (Pr_p (k := 224) rfl _ _)) (Pr_p (k := 225) rfl _ _)) (Pr_f rfl)) (fun ka ja hk => ((uI_o (show ¬ (ka = 223 ∧ ja = 2) from by first | (intro e; obtain ⟨rfl, rfl⟩ := e; exact hk (by decide)) | omega))).trans (((uI_o (show ¬ (ka = 225 ∧ ja = (Int.toNat a)) from by first | (intro e; obtain ⟨rfl, _⟩ := e; exact hk (by decide)) | omega))).trans (((uI_o (show ¬ (ka = 224 ∧ ja = (Int.toNat a)) from by first | (intro e; obtain ⟨rfl, _⟩ := e; exact hk (by decide)) | omega))).trans ((hV ka ja (by omega))))))⟩
      ·
        refine ⟨_, rfl, (by decide), ?_⟩
        refine fun w0 hw0 => ?_; obtain rfl : w0 = some 224 := hw0.symm.trans (FS.g hF rfl)
        refine ⟨_, rfl, (by decide), ?_⟩
        refine fun w0 hw0 => ?_; obtain rfl : w0 = some 224 := hw0.symm.trans (FS.g hF rfl)
        refine ⟨_, rfl, (by decide), (show (0 : Int) ≤ (wr (a - 1)) from by first | with_reducible assumption | omega | (simp only [wr, wl] at *; omega)), (show (wr (a - 1)) < (14 : Int) from by first | with_reducible assumption | omega | (simp only [wr, wl] at *; omega)), ?_⟩
        refine ⟨_, rfl, (by decide), (show (0 : Int) ≤ a from by first | with_reducible assumption | omega | (simp only [wr, wl] at *; omega)), (show a < (14 : Int) from by first | with_reducible assumption | omega | (simp only [wr, wl] at *; omega)), ?_⟩
        refine ⟨_, rfl, (by decide), ?_⟩
        refine fun w0 hw0 => ?_; obtain rfl : w0 = some 225 := hw0.symm.trans (FS.g hF rfl)
        refine ⟨_, rfl, (by decide), ?_⟩
        refine fun w0 hw0 => ?_; obtain rfl : w0 = some 225 := hw0.symm.trans (FS.g hF rfl)
        refine ⟨_, rfl, (by decide), (show (0 : Int) ≤ (wr (a - 1)) from by first | with_reducible assumption | omega | (simp only [wr, wl] at *; omega)), (show (wr (a - 1)) < (14 : Int) from by first | with_reducible assumption | omega | (simp only [wr, wl] at *; omega)), ?_⟩
        refine ⟨_, rfl, (by decide), (show (0 : Int) ≤ a from by first | with_reducible assumption | omega | (simp only [wr, wl] at *; omega)), (show a < (14 : Int) from by first | with_reducible assumption | omega | (simp only [wr, wl] at *; omega)), ?_⟩
        have n5 : (wr (a + (-1))) = a + (-1) := wr_id (show -2147483648 ≤ (a + (-1) : Int) ∧ (a + (-1) : Int) < 2147483648 from by omega)
        exact ih (wr (a + (-1))) (uI (uI J 224 (Int.toNat a) (J 224 (Int.toNat (wr (a - 1))))) 225 (Int.toNat a) (J 225 (Int.toNat (wr (a - 1))))) (Rg.u (Rg.u hJ (Pr_p (k := 224) rfl _ _)) (Pr_p (k := 225) rfl _ _)) (fun ka ja hk => ((uI_o (show ¬ (ka = 225 ∧ ja = (Int.toNat a)) from by first | (intro e; obtain ⟨rfl, _⟩ := e; exact hk (by decide)) | omega))).trans (((uI_o (show ¬ (ka = 224 ∧ ja = (Int.toNat a)) from by first | (intro e; obtain ⟨rfl, _⟩ := e; exact hk (by decide)) | omega))).trans ((hV ka ja (by omega))))) (show (0 : Int) ≤ (wr (a + (-1))) from by first | with_reducible assumption | omega | (simp only [wr, wl] at *; omega)) (show ((wr (a + (-1))) : Int) ≤ 13 from by first | with_reducible assumption | omega | (simp only [wr, wl] at *; omega)) (show ((wr (a + (-1)))).toNat < mz from by omega)
theorem c_insert (hF : FS F) (hR : Rg I) {v0 v1 : Int}  (hQ : ∀ (I' : pI), Rg I' → AR I' → (∀ k j, ¬ (223 ≤ k ∧ k ≤ 225) → I' k j = I k j) → Q none F I') : CallN G d kX3_insert [vr 223, vi v0, vi v1] NP F I Q := by
  refine CallN_in (fun hok hA => CallN_out ?_)
  have iv0 : -2147483648 ≤ v0 ∧ v0 < 2147483648 := hok (vi v0) (by simp)
  have iv1 : -2147483648 ≤ v1 ∧ v1 < 2147483648 := hok (vi v1) (by simp)
  refine Call_wp (lv := [some (vr 223), some (vi v0), some (vi v1), none]) (by decide) ckX3_insert [22] rfl rfl ?_
  refine ⟨_, rfl, (by decide), ?_⟩
  have a1 : -2147483648 ≤ (I 223 2) ∧ (I 223 2) < 2147483648 := hA.1 _ _
  refine ⟨fun (c2 : (((I 223 2) : Int) < 0)) => ?_, fun (c2 : (¬ (((I 223 2) : Int) < 0))) => ?_⟩
  ·
    exact ⟨rfl, fun hv hA' => hQ _ hR hA' (fun _ _ _ => rfl)⟩
  ·
    refine ⟨_, rfl, (by decide), ?_⟩
    refine ⟨fun (c3 : (((I 223 2) : Int) < 14)) => ?_, fun (c3 : (¬ (((I 223 2) : Int) < 14))) => ?_⟩
    ·
      refine ⟨_, rfl, (by decide), ?_⟩
      refine c_insert_l hF hR  (fun I' g1 g2 hv hA' => hQ _ g1 hA' g2) _ (I 223 2) I hR (fun _ _ _ => rfl) (show (0 : Int) ≤ (I 223 2) from by first | with_reducible assumption | omega | (simp only [wr, wl] at *; omega)) (show ((I 223 2) : Int) ≤ 13 from by first | with_reducible assumption | omega | (simp only [wr, wl] at *; omega)) (Nat.lt_succ_self _)
    ·
      exact ⟨rfl, fun hv hA' => hQ _ hR hA' (fun _ _ _ => rfl)⟩
theorem c_valueAt (hF : FS F) (hR : Rg I) {v0 : Int}  (hQ : ∀ r : Int, iR r → Q (some (vi r)) F I) : CallN G d kX3_valueAt [vr 223, vi v0] NP F I Q := by
  refine CallN_in (fun hok hA => CallN_out ?_)
  have iv0 : -2147483648 ≤ v0 ∧ v0 < 2147483648 := hok (vi v0) (by simp)
  refine Call_wp (lv := [some (vr 223), some (vi v0)]) (by decide) ckX3_valueAt [] rfl rfl ?_
  refine ⟨fun (c1 : ((v0 : Int) < 0)) => ?_, fun (c1 : (¬ ((v0 : Int) < 0))) => ?_⟩
  ·
    exact ⟨rfl, fun hv hA' => hQ _ (hv _ rfl)⟩
  ·
    refine ⟨_, rfl, (by decide), ?_⟩
    have a2 : -2147483648 ≤ (I 223 2) ∧ (I 223 2) < 2147483648 := hA.1 _ _
    refine ⟨fun (c3 : (((I 223 2) : Int) ≤ v0)) => ?_, fun (c3 : (¬ (((I 223 2) : Int) ≤ v0))) => ?_⟩
    ·
      exact ⟨rfl, fun hv hA' => hQ _ (hv _ rfl)⟩
    ·
      refine ⟨fun (c4 : ((14 : Int) ≤ v0)) => ?_, fun (c4 : (¬ ((14 : Int) ≤ v0))) => ?_⟩
      ·
        exact ⟨rfl, fun hv hA' => hQ _ (hv _ rfl)⟩
      ·
        refine ⟨_, rfl, (by decide), ?_⟩
        refine fun w0 hw0 => ?_; obtain rfl : w0 = some 224 := hw0.symm.trans (FS.g hF rfl)
        refine ⟨_, rfl, (by decide), (show (0 : Int) ≤ v0 from by first | with_reducible assumption | omega | (simp only [wr, wl] at *; omega)), (show v0 < (14 : Int) from by first | with_reducible assumption | omega | (simp only [wr, wl] at *; omega)), ?_⟩
        exact ⟨rfl, fun hv hA' => hQ _ (hv _ rfl)⟩
theorem c_isApart (hF : FS F) (hR : Rg I) {v0 v1 v2 : Int}  (hQ : ∀ r : Int, iR r → (0 ≤ r ∧ r ≤ 1) → Q (some (vi r)) F I) : CallN G (d + 1) kX3_isApart [vr 223, vi v0, vi v1, vi v2] NP F I Q := by
  refine CallN_in (fun hok hA => CallN_out ?_)
  have iv0 : -2147483648 ≤ v0 ∧ v0 < 2147483648 := hok (vi v0) (by simp)
  have iv1 : -2147483648 ≤ v1 ∧ v1 < 2147483648 := hok (vi v1) (by simp)
  have iv2 : -2147483648 ≤ v2 ∧ v2 < 2147483648 := hok (vi v2) (by simp)
  refine Call_wp (lv := [some (vr 223), some (vi v0), some (vi v1), some (vi v2), none, none, none, none]) (by decide) ckX3_isApart [] rfl rfl ?_
  refine ⟨⟨_, rfl, (by decide)⟩, ?_⟩
  refine c_valueAt  hF hR (fun vr1 hr2 => ?_)
  have hr2 : -2147483648 ≤ vr1 ∧ vr1 < 2147483648 := hr2
  refine ⟨⟨_, rfl, (by decide)⟩, ?_⟩
  refine c_valueAt  hF hR (fun vr3 hr4 => ?_)
  have hr4 : -2147483648 ≤ vr3 ∧ vr3 < 2147483648 := hr4
  refine ⟨_, rfl, (by decide), ?_⟩
  refine ⟨⟨_, rfl, (by decide)⟩, ?_⟩
  have a5 : -2147483648 ≤ (I 223 2) ∧ (I 223 2) < 2147483648 := hA.1 _ _
  have n6 : -2147483648 ≤ (wr ((I 223 2) - 1)) ∧ (wr ((I 223 2) - 1)) < 2147483648 := wr_R _
  refine c_valueAt  hF hR (fun vr7 hr8 => ?_)
  have hr8 : -2147483648 ≤ vr7 ∧ vr7 < 2147483648 := hr8
  refine ⟨⟨_, rfl, (by decide)⟩, ?_⟩
  refine c_valueAt  hF hR (fun vr9 hr10 => ?_)
  have hr10 : -2147483648 ≤ vr9 ∧ vr9 < 2147483648 := hr10
  have n11 : (wl (vr1 - vr3)) = vr1 - vr3 := wl_id (show -9223372036854775808 ≤ (vr1 - vr3 : Int) ∧ (vr1 - vr3 : Int) < 9223372036854775808 from by omega)
  have n12 : (wl ((wl (vr1 - vr3)) * 100)) = (wl (vr1 - vr3)) * 100 := wl_id (show -9223372036854775808 ≤ ((wl (vr1 - vr3)) * 100 : Int) ∧ ((wl (vr1 - vr3)) * 100 : Int) < 9223372036854775808 from by omega)
  have n13 : (wl (vr7 - vr9)) = vr7 - vr9 := wl_id (show -9223372036854775808 ≤ (vr7 - vr9 : Int) ∧ (vr7 - vr9 : Int) < 9223372036854775808 from by omega)
  refine ⟨fun c14 => ?_, fun c14 => ?_⟩
  ·
    have c14 : (((wl ((wl (vr1 - vr3)) * 100)) : Int) ≤ (wl ((wl (vr7 - vr9)) * v2))) := lcm_le.1 c14
    exact ⟨rfl, (by decide), fun hv hA' => hQ _ (hv _ rfl) (show 0 ≤ 0 ∧ 0 ≤ 1 from by decide)⟩
  ·
    have c14 : (¬ (((wl ((wl (vr1 - vr3)) * 100)) : Int) ≤ (wl ((wl (vr7 - vr9)) * v2)))) := fun e => c14 (lcm_le.2 e)
    exact ⟨rfl, (by decide), fun hv hA' => hQ _ (hv _ rfl) (show 0 ≤ 1 ∧ 1 ≤ 1 from by decide)⟩
theorem c_oddPiece (hF : FS F) (hR : Rg I) {v0 : Int}  (hQ : ∀ r : Int, iR r → Q (some (vi r)) F I) : CallN G (d + 2) kX3_oddPiece [vr 223, vi v0] NP F I Q := by
  refine CallN_in (fun hok hA => CallN_out ?_)
  have iv0 : -2147483648 ≤ v0 ∧ v0 < 2147483648 := hok (vi v0) (by simp)
  refine Call_wp (lv := [some (vr 223), some (vi v0), none]) (by decide) ckX3_oddPiece [] rfl rfl ?_
  refine ⟨_, rfl, (by decide), ?_⟩
  have a1 : -2147483648 ≤ (I 223 2) ∧ (I 223 2) < 2147483648 := hA.1 _ _
  refine ⟨fun (c2 : (((I 223 2) : Int) < 3)) => ?_, fun (c2 : (¬ (((I 223 2) : Int) < 3))) => ?_⟩
  ·
    exact ⟨rfl, fun hv hA' => hQ _ (hv _ rfl)⟩
  ·
    refine ⟨_, rfl, (by decide), ?_⟩
    refine ⟨fun (c3 : (((I 223 2) : Int) ≤ 14)) => ?_, fun (c3 : (¬ (((I 223 2) : Int) ≤ 14))) => ?_⟩
    ·
      refine ⟨_, rfl, (by decide), ?_⟩
      refine ⟨⟨_, rfl, (by decide)⟩, ?_⟩
      refine c_isApart  hF hR (fun vr4 hr5 q6 => ?_)
      have hr5 : -2147483648 ≤ vr4 ∧ vr4 < 2147483648 := hr5
      have q6 : 0 ≤ vr4 ∧ vr4 ≤ 1 := q6
      refine ⟨fun (c7 : ((vr4 : Int) = 0)) => ?_, fun (c7 : (¬ ((vr4 : Int) = 0))) => ?_⟩
      ·
        refine ⟨⟨_, rfl, (by decide)⟩, ?_⟩
        have n8 : (wr ((I 223 2) - 1)) = (I 223 2) - 1 := wr_id (show -2147483648 ≤ ((I 223 2) - 1 : Int) ∧ ((I 223 2) - 1 : Int) < 2147483648 from by omega)
        have n9 : (wr ((wr ((I 223 2) - 1)) - 1)) = (wr ((I 223 2) - 1)) - 1 := wr_id (show -2147483648 ≤ ((wr ((I 223 2) - 1)) - 1 : Int) ∧ ((wr ((I 223 2) - 1)) - 1 : Int) < 2147483648 from by omega)
        refine c_isApart  hF hR (fun vr10 hr11 q12 => ?_)
        have hr11 : -2147483648 ≤ vr10 ∧ vr10 < 2147483648 := hr11
        have q12 : 0 ≤ vr10 ∧ vr10 ≤ 1 := q12
        refine ⟨fun (c13 : ((vr10 : Int) = 0)) => ?_, fun (c13 : (¬ ((vr10 : Int) = 0))) => ?_⟩
        ·
          exact ⟨rfl, fun hv hA' => hQ _ (hv _ rfl)⟩
        ·
          refine ⟨_, rfl, (by decide), ?_⟩
          refine fun w0 hw0 => ?_; obtain rfl : w0 = some 225 := hw0.symm.trans (FS.g hF rfl)
          refine ⟨_, rfl, (by decide), (show (0 : Int) ≤ (wr ((I 223 2) - 1)) from by first | with_reducible assumption | omega | (simp only [wr, wl] at *; omega)), (show (wr ((I 223 2) - 1)) < (14 : Int) from by first | with_reducible assumption | omega | (simp only [wr, wl] at *; omega)), ?_⟩
          exact ⟨rfl, fun hv hA' => hQ _ (hv _ rfl)⟩
      ·
        refine ⟨_, rfl, (by decide), ?_⟩
        refine fun w0 hw0 => ?_; obtain rfl : w0 = some 225 := hw0.symm.trans (FS.g hF rfl)
        refine ⟨_, rfl, (by decide), (by decide), (by decide), ?_⟩
        exact ⟨rfl, fun hv hA' => hQ _ (hv _ rfl)⟩
    ·
      exact ⟨rfl, fun hv hA' => hQ _ (hv _ rfl)⟩
theorem c_power_l (hF : FS F) (hR : Rg I) {v0 v1 : Int}  (hQ : ∀ (r : Int) , Q (some (vl r)) F I) : ∀ (mz : Nat) (w i : Int) , ((0 : Int) ≤ i) → (v1 - i).toNat < mz → GoN G d kX3_power NP NP 5 [some (vi v0), some (vi v1), some (vl w), none, some (vi i)] [] F I Q := by
  intro mz
  induction mz with
  | zero => intro w i _ h; exact absurd h (Nat.not_lt_zero _)
  | succ mz ih =>
    intro w i c100 hm
    refine GoN_in (fun hok hA => ?_)
    have iiv0 : -2147483648 ≤ v0 ∧ v0 < 2147483648 := hok 0 _ rfl
    have iiv1 : -2147483648 ≤ v1 ∧ v1 < 2147483648 := hok 1 _ rfl
    have iiw : -9223372036854775808 ≤ w ∧ w < 9223372036854775808 := hok 2 _ rfl
    have iii : -2147483648 ≤ i ∧ i < 2147483648 := hok 4 _ rfl
    refine Go_wp (by decide) ckX3_power [5] ?_
    refine ⟨fun (c1 : ((v1 : Int) ≤ i)) => ?_, fun (c1 : (¬ ((v1 : Int) ≤ i))) => ?_⟩
    ·
      exact ⟨rfl, hQ _⟩
    ·
      have n2 : (wr (i + 1)) = i + 1 := wr_id (show -2147483648 ≤ (i + 1 : Int) ∧ (i + 1 : Int) < 2147483648 from by omega)
      exact ih (wl (w * v0)) (wr (i + 1))  (show (0 : Int) ≤ (wr (i + 1)) from by first | with_reducible assumption | omega | (simp only [wr, wl] at *; omega)) (show (v1 - (wr (i + 1))).toNat < mz from by omega)
theorem c_power (hF : FS F) (hR : Rg I) {v0 v1 : Int}  (hQ : ∀ r : Int, lR r → Q (some (vl r)) F I) : CallN G d kX3_power [vi v0, vi v1] NP F I Q := by
  refine CallN_in (fun hok hA => CallN_out ?_)
  have iv0 : -2147483648 ≤ v0 ∧ v0 < 2147483648 := hok (vi v0) (by simp)
  have iv1 : -2147483648 ≤ v1 ∧ v1 < 2147483648 := hok (vi v1) (by simp)
  refine Call_wp (lv := [some (vi v0), some (vi v1), none, none, none]) (by decide) ckX3_power [5] rfl rfl ?_
  refine c_power_l hF hR  (fun r hv hA' => hQ _ (hv _ rfl)) _ 1 0  (show (0 : Int) ≤ (0 : Int) from Int.le_refl _) (Nat.lt_succ_self _)
theorem c_place_l (hF : FS F) (hR : Rg I) {v0 v1 v2 : Int} (hn : v0 ≤ 12) (hQ : ∀ (r : Int) , Q (some (vi r)) F I) : ∀ (mz : Nat) (mo wy fe k : Int) , ((0 : Int) ≤ k) → (v0 - k).toNat < mz → GoN G (d + 1) kX3_surePlace NP NP 35 [some (vi v0), some (vi v1), some (vi v2), some (vl mo), none, some (vl wy), none, some (vl fe), none, some (vi k)] [] F I Q := by
  intro mz
  induction mz with
  | zero => intro mo wy fe k _ h; exact absurd h (Nat.not_lt_zero _)
  | succ mz ih =>
    intro mo wy fe k c100 hm
    refine GoN_in (fun hok hA => ?_)
    have iiv0 : -2147483648 ≤ v0 ∧ v0 < 2147483648 := hok 0 _ rfl
    have iiv1 : -2147483648 ≤ v1 ∧ v1 < 2147483648 := hok 1 _ rfl
    have iiv2 : -2147483648 ≤ v2 ∧ v2 < 2147483648 := hok 2 _ rfl
    have iimo : -9223372036854775808 ≤ mo ∧ mo < 9223372036854775808 := hok 3 _ rfl
    have iiwy : -9223372036854775808 ≤ wy ∧ wy < 9223372036854775808 := hok 5 _ rfl
    have iife : -9223372036854775808 ≤ fe ∧ fe < 9223372036854775808 := hok 7 _ rfl
    have iik : -2147483648 ≤ k ∧ k < 2147483648 := hok 9 _ rfl
    refine Go_wp (by decide) ckX3_surePlace [35] ?_
    refine ⟨fun (c1 : ((v0 : Int) ≤ k)) => ?_, fun (c1 : (¬ ((v0 : Int) ≤ k))) => ?_⟩
    ·
      exact ⟨rfl, hQ _⟩
    ·
      have n2 : -2147483648 ≤ (wr (10 - v1)) ∧ (wr (10 - v1)) < 2147483648 := wr_R _
      refine c_power  hF hR (fun vr3 hr4 => ?_)
      have hr4 : -9223372036854775808 ≤ vr3 ∧ vr3 < 9223372036854775808 := hr4
      have n5 : (wr (v0 - k)) = v0 - k := wr_id (show -2147483648 ≤ (v0 - k : Int) ∧ (v0 - k : Int) < 2147483648 from by omega)
      refine c_power  hF hR (fun vr6 hr7 => ?_)
      have hr7 : -9223372036854775808 ≤ vr6 ∧ vr6 < 9223372036854775808 := hr7
      refine ⟨fun c8 => ?_, fun c8 => ?_⟩
      ·
        have c8 : (((wl ((wl (fe + (wl ((wl (wy * vr3)) * vr6)))) * 10)) : Int) ≤ mo) := lcm_le.1 c8
        have n9 : (wr (k + 1)) = k + 1 := wr_id (show -2147483648 ≤ (k + 1 : Int) ∧ (k + 1 : Int) < 2147483648 from by omega)
        refine ⟨(show ¬ ((wr (k + 1)) : Int) = 0 from by first | omega | (simp only [wr, wl] at *; omega)), ?_⟩
        exact ih mo (wl (Int.tdiv (wl (wy * (wr (v0 - k)))) (wr (k + 1)))) (wl (fe + (wl ((wl (wy * vr3)) * vr6)))) (wr (k + 1))  (show (0 : Int) ≤ (wr (k + 1)) from by first | with_reducible assumption | omega | (simp only [wr, wl] at *; omega)) (show (v0 - (wr (k + 1))).toNat < mz from by omega)
      ·
        have c8 : (¬ (((wl ((wl (fe + (wl ((wl (wy * vr3)) * vr6)))) * 10)) : Int) ≤ mo)) := fun e => c8 (lcm_le.2 e)
        exact ⟨rfl, hQ _⟩
theorem c_place (hF : FS F) (hR : Rg I) {v0 v1 v2 : Int}  (hQ : ∀ r : Int, iR r → Q (some (vi r)) F I) : CallN G (d + 1) kX3_surePlace [vi v0, vi v1, vi v2] NP F I Q := by
  refine CallN_in (fun hok hA => CallN_out ?_)
  have iv0 : -2147483648 ≤ v0 ∧ v0 < 2147483648 := hok (vi v0) (by simp)
  have iv1 : -2147483648 ≤ v1 ∧ v1 < 2147483648 := hok (vi v1) (by simp)
  have iv2 : -2147483648 ≤ v2 ∧ v2 < 2147483648 := hok (vi v2) (by simp)
  refine Call_wp (lv := [some (vi v0), some (vi v1), some (vi v2), none, none, none, none, none, none, none]) (by decide) ckX3_surePlace [35] rfl rfl ?_
  refine ⟨fun (c1 : ((v0 : Int) < 1)) => ?_, fun (c1 : (¬ ((v0 : Int) < 1))) => ?_⟩
  ·
    exact ⟨rfl, fun hv hA' => hQ _ (hv _ rfl)⟩
  ·
    refine ⟨fun (c2 : ((v0 : Int) ≤ 12)) => ?_, fun (c2 : (¬ ((v0 : Int) ≤ 12))) => ?_⟩
    ·
      refine c_power  hF hR (fun vr3 hr4 => ?_)
      have hr4 : -9223372036854775808 ≤ vr3 ∧ vr3 < 9223372036854775808 := hr4
      have n5 : -2147483648 ≤ (wr (10 - v2)) ∧ (wr (10 - v2)) < 2147483648 := wr_R _
      refine c_place_l hF hR (by omega) (fun r hv hA' => hQ _ (hv _ rfl)) _ (wl ((wr (10 - v2)) * vr3)) 1 0 0  (show (0 : Int) ≤ (0 : Int) from Int.le_refl _) (Nat.lt_succ_self _)
    ·
      exact ⟨rfl, fun hv hA' => hQ _ (hv _ rfl)⟩
end CH
