/-! what trace answers. Own work (scripts laid by wip/pm/gen34.py). -/
section TR
variable {G : pG} {d : Nat} {F : pF} {I : pI} {Q : Option pV → pF → pI → Prop}
def pvF (f : Nat → Int) (j : Nat) : Int := if j = 0 then 0 else f (2 * j - 2)
abbrev OKJ (f : Nat → Int) (j : Nat) : Prop := pvF f j ≤ f (2 * j) ∧ f (2 * j) ≤ 999 ∧ -2 ≤ f (2 * j + 1) ∧ f (2 * j + 1) ≤ 99999
abbrev GT (f : Nat → Int) (len n : Int) : Prop := n ≤ len ∧ ∀ j : Nat, 2 * (j : Int) < n → OKJ f j
theorem OKJ_e {f g : Nat → Int} {j : Nat} (hj : j < 12) (e : ∀ k, k < 24 → f k = g k) : OKJ f j ↔ OKJ g j := by
  have p : pvF f j = pvF g j := by
    unfold pvF
    split
    · rfl
    · exact e _ (by omega)
  show (pvF f j ≤ f (2 * j) ∧ f (2 * j) ≤ 999 ∧ -2 ≤ f (2 * j + 1) ∧ f (2 * j + 1) ≤ 99999) ↔ (pvF g j ≤ g (2 * j) ∧ g (2 * j) ≤ 999 ∧ -2 ≤ g (2 * j + 1) ∧ g (2 * j + 1) ≤ 99999)
  rw [p, e (2 * j) (by omega), e (2 * j + 1) (by omega)]
theorem GT_e {f g : Nat → Int} {l n : Int} (hn : n ≤ 24) (e : ∀ k, k < 24 → f k = g k) : GT f l n ↔ GT g l n :=
  ⟨fun h => ⟨h.1, fun j hj => (OKJ_e (by omega) e).1 (h.2 j hj)⟩, fun h => ⟨h.1, fun j hj => (OKJ_e (by omega) e).2 (h.2 j hj)⟩⟩
theorem c_begR7_l (hF : FS F) (hR : Rg I) {v0 : Int} {h : Nat} (hh : HP F h) (hn : v0 ≤ 24) (he : v0 % 2 = 0) (hl : v0 ≤ I h 1) (hQ : ∀ (r : Int) , (0 ≤ r ∧ r ≤ 1) → (r = 1 ↔ ∀ j : Nat, 2 * (j : Int) < v0 → OKJ (I (h + 1)) j) → Q (some (vi r)) F I) : ∀ (mz : Nat) (a i : Int) , ((0 : Int) ≤ i) → (i % 2 = 0) → ((i = 0 → a = 0) ∧ (0 < i → a = I (h + 1) (Int.toNat (i - 2)))) → (∀ j : Nat, 2 * (j : Int) < i → OKJ (I (h + 1)) j) → (v0 - i).toNat < mz → GoN G (d + 1) kX7_beginsWithReadings NP NP 15 [some (vr h), some (vi v0), some (vi a), some (vi i)] [] F I Q := by
  intro mz
  induction mz with
  | zero => intro a i _ _ _ _ h; exact absurd h (Nat.not_lt_zero _)
  | succ mz ih =>
    intro a i c100 c101 c102 c103 hm
    refine GoN_in (fun hok hA => ?_)
    have iiv0 : -2147483648 ≤ v0 ∧ v0 < 2147483648 := hok 1 _ rfl
    have iia : -2147483648 ≤ a ∧ a < 2147483648 := hok 2 _ rfl
    have iii : -2147483648 ≤ i ∧ i < 2147483648 := hok 3 _ rfl
    have r1 : 0 ≤ (I h 1) ∧ (I h 1) ≤ 24 := hR.h hh.1 (by have := hh.2.2.1; omega)
    refine Go_wp (by decide) ckX7_beginsWithReadings [15] ?_
    refine ⟨fun (c3 : ((v0 : Int) ≤ i)) => ?_, fun (c3 : (¬ ((v0 : Int) ≤ i))) => ?_⟩
    ·
      exact ⟨rfl, (by decide), hQ _ (show 0 ≤ 1 ∧ 1 ≤ 1 from by decide) (⟨fun _ j hj => c103 j (by omega), fun _ => rfl⟩)⟩
    ·
      refine ⟨⟨_, hh.1, (by have := hh.2.2.1; show _ < 254; omega)⟩, ?_⟩
      refine Call_wp (lv := [some (vr h), some (vi i)]) (by decide) ckX7_numberAt [] rfl rfl ?_
      refine ⟨fun c => absurd c (show (¬ ((i : Int) < 0)) from by first | omega | (simp only [wr, wl] at *; omega)), fun _ => ?_⟩
      refine ⟨_, hh.1, (by have := hh.2.2.1; show _ < 254; omega), ?_⟩
      refine ⟨fun (c4 : (((I h 1) : Int) ≤ i)) => ?_, fun (c4 : (¬ (((I h 1) : Int) ≤ i))) => ?_⟩
      ·
        refine ⟨rfl, ?_⟩
        refine s_X11_within (fun (w5 : ((a : Int) ≤ 0 ∧ (0 : Int) ≤ 999)) => ?_) (fun (w5 : ¬ ((a : Int) ≤ 0 ∧ (0 : Int) ≤ 999)) => ?_)
        ·
          refine ⟨fun c => absurd c (show (¬ ((1 : Int) = 0)) from by decide), fun _ => ?_⟩
          refine ⟨⟨_, hh.1, (by have := hh.2.2.1; show _ < 254; omega)⟩, ?_⟩
          refine Call_wp (lv := [some (vr h), some (vi (wr (i + 1)))]) (by decide) ckX7_numberAt [] rfl rfl ?_
          have n6 : (wr (i + 1)) = i + 1 := wr_id (show -2147483648 ≤ (i + 1 : Int) ∧ (i + 1 : Int) < 2147483648 from by omega)
          refine ⟨fun c => absurd c (show (¬ (((wr (i + 1)) : Int) < 0)) from by first | omega | (simp only [wr, wl] at *; omega)), fun _ => ?_⟩
          refine ⟨_, hh.1, (by have := hh.2.2.1; show _ < 254; omega), ?_⟩
          refine ⟨fun (c7 : (((I h 1) : Int) ≤ (wr (i + 1)))) => ?_, fun (c7 : (¬ (((I h 1) : Int) ≤ (wr (i + 1))))) => ?_⟩
          ·
            refine ⟨rfl, ?_⟩
            refine s_X11_within (fun _ => ?_) (fun hw => absurd (show (((-2) : Int) ≤ 0 ∧ (0 : Int) ≤ 99999) from by first | omega | (simp only [wr, wl] at *; omega)) hw)
            refine ⟨fun _ => ?_, fun c => absurd c (show (¬ (1 : Int) = 0) from by decide)⟩
            refine ⟨⟨_, hh.1, (by have := hh.2.2.1; show _ < 254; omega)⟩, ?_⟩
            refine Call_wp (lv := [some (vr h), some (vi i)]) (by decide) ckX7_numberAt [] rfl rfl ?_
            refine ⟨fun c => absurd c (show (¬ ((i : Int) < 0)) from by first | omega | (simp only [wr, wl] at *; omega)), fun _ => ?_⟩
            refine ⟨_, hh.1, (by have := hh.2.2.1; show _ < 254; omega), ?_⟩
            refine ⟨fun _ => ?_, fun c => absurd (show (((I h 1) : Int) ≤ i) from by first | with_reducible assumption | omega | (simp only [wr, wl] at *; omega)) c⟩
            refine ⟨rfl, ?_⟩
            have n8 : (wr (i + 2)) = i + 2 := wr_id (show -2147483648 ≤ (i + 2 : Int) ∧ (i + 2 : Int) < 2147483648 from by omega)
            exact ih 0 (wr (i + 2))  (show (0 : Int) ≤ (wr (i + 2)) from by first | with_reducible assumption | omega | (simp only [wr, wl] at *; omega)) (show (wr (i + 2)) % 2 = 0 from by first | omega | (simp only [wr, wl] at *; omega)) (by exfalso; omega) (by exfalso; omega) (show (v0 - (wr (i + 2))).toNat < mz from by omega)
          ·
            refine ⟨fun c => absurd c (show (¬ ((24 : Int) ≤ (wr (i + 1)))) from by first | omega | (simp only [wr, wl] at *; omega)), fun _ => ?_⟩
            refine ⟨_, hh.1, (by have := hh.2.2.1; show _ < 254; omega), ?_⟩
            refine fun w0 hw0 => ?_; obtain rfl : w0 = some (h + 1) := hw0.symm.trans hh.2.2.2
            refine ⟨_, hh.2.1, (by have := hh.2.2.1; show _ < 254; omega), (show (0 : Int) ≤ (wr (i + 1)) from by first | with_reducible assumption | omega | (simp only [wr, wl] at *; omega)), (show (wr (i + 1)) < (24 : Int) from by first | with_reducible assumption | omega | (simp only [wr, wl] at *; omega)), ?_⟩
            refine ⟨rfl, ?_⟩
            have a9 : -2147483648 ≤ (I (h + 1) (Int.toNat (wr (i + 1)))) ∧ (I (h + 1) (Int.toNat (wr (i + 1)))) < 2147483648 := hA.1 _ _
            refine s_X11_within (fun (w10 : (((-2) : Int) ≤ (I (h + 1) (Int.toNat (wr (i + 1)))) ∧ ((I (h + 1) (Int.toNat (wr (i + 1)))) : Int) ≤ 99999)) => ?_) (fun (w10 : ¬ (((-2) : Int) ≤ (I (h + 1) (Int.toNat (wr (i + 1)))) ∧ ((I (h + 1) (Int.toNat (wr (i + 1)))) : Int) ≤ 99999)) => ?_)
            ·
              refine ⟨fun _ => ?_, fun c => absurd c (show (¬ (1 : Int) = 0) from by decide)⟩
              refine ⟨⟨_, hh.1, (by have := hh.2.2.1; show _ < 254; omega)⟩, ?_⟩
              refine Call_wp (lv := [some (vr h), some (vi i)]) (by decide) ckX7_numberAt [] rfl rfl ?_
              refine ⟨fun c => absurd c (show (¬ ((i : Int) < 0)) from by first | omega | (simp only [wr, wl] at *; omega)), fun _ => ?_⟩
              refine ⟨_, hh.1, (by have := hh.2.2.1; show _ < 254; omega), ?_⟩
              refine ⟨fun _ => ?_, fun c => absurd (show (((I h 1) : Int) ≤ i) from by first | with_reducible assumption | omega | (simp only [wr, wl] at *; omega)) c⟩
              refine ⟨rfl, ?_⟩
              have n11 : (wr (i + 2)) = i + 2 := wr_id (show -2147483648 ≤ (i + 2 : Int) ∧ (i + 2 : Int) < 2147483648 from by omega)
              exact ih 0 (wr (i + 2))  (show (0 : Int) ≤ (wr (i + 2)) from by first | with_reducible assumption | omega | (simp only [wr, wl] at *; omega)) (show (wr (i + 2)) % 2 = 0 from by first | omega | (simp only [wr, wl] at *; omega)) (by exfalso; omega) (by exfalso; omega) (show (v0 - (wr (i + 2))).toNat < mz from by omega)
            ·
              refine ⟨fun c => absurd (show ((0 : Int) = 0) from by decide) c, fun _ => ?_⟩
              exact ⟨rfl, (by decide), hQ _ (show 0 ≤ 0 ∧ 0 ≤ 1 from by decide) (⟨fun z => absurd z (by decide), fun z => (by
                              exfalso
                              have n0 : wr (i + 1) = i + 1 := wr_id (by unfold iR; omega)
                              have e2 : 2 * (Int.toNat i / 2) = Int.toNat i := by omega
                              have e3 : 2 * (Int.toNat i / 2) + 1 = Int.toNat (wr (i + 1)) := by omega
                              have p : pvF (I (h + 1)) (Int.toNat i / 2) = a := by
                                unfold pvF
                                split
                                · exact (c102.1 (by omega)).symm
                                · rw [c102.2 (by omega)]; exact congrArg (I (h + 1)) (by omega)
                              have y : pvF (I (h + 1)) (Int.toNat i / 2) ≤ (I (h + 1)) (2 * (Int.toNat i / 2)) ∧ (I (h + 1)) (2 * (Int.toNat i / 2)) ≤ 999 ∧ -2 ≤ (I (h + 1)) (2 * (Int.toNat i / 2) + 1) ∧ (I (h + 1)) (2 * (Int.toNat i / 2) + 1) ≤ 99999 := z (Int.toNat i / 2) (by omega)
                              rw [p, e3, e2] at y
                              omega)⟩)⟩
        ·
          refine ⟨fun _ => ?_, fun c => absurd (show ((0 : Int) = 0) from by decide) c⟩
          exact ⟨rfl, (by decide), hQ _ (show 0 ≤ 0 ∧ 0 ≤ 1 from by decide) (⟨fun z => absurd z (by decide), fun z => (by
                              exfalso
                              have n0 : wr (i + 1) = i + 1 := wr_id (by unfold iR; omega)
                              have e2 : 2 * (Int.toNat i / 2) = Int.toNat i := by omega
                              have e3 : 2 * (Int.toNat i / 2) + 1 = Int.toNat (wr (i + 1)) := by omega
                              have p : pvF (I (h + 1)) (Int.toNat i / 2) = a := by
                                unfold pvF
                                split
                                · exact (c102.1 (by omega)).symm
                                · rw [c102.2 (by omega)]; exact congrArg (I (h + 1)) (by omega)
                              have y : pvF (I (h + 1)) (Int.toNat i / 2) ≤ (I (h + 1)) (2 * (Int.toNat i / 2)) ∧ (I (h + 1)) (2 * (Int.toNat i / 2)) ≤ 999 ∧ -2 ≤ (I (h + 1)) (2 * (Int.toNat i / 2) + 1) ∧ (I (h + 1)) (2 * (Int.toNat i / 2) + 1) ≤ 99999 := z (Int.toNat i / 2) (by omega)
                              rw [p, e3, e2] at y
                              omega)⟩)⟩
      ·
        refine ⟨fun c => absurd c (show (¬ ((24 : Int) ≤ i)) from by first | omega | (simp only [wr, wl] at *; omega)), fun _ => ?_⟩
        refine ⟨_, hh.1, (by have := hh.2.2.1; show _ < 254; omega), ?_⟩
        refine fun w0 hw0 => ?_; obtain rfl : w0 = some (h + 1) := hw0.symm.trans hh.2.2.2
        refine ⟨_, hh.2.1, (by have := hh.2.2.1; show _ < 254; omega), (show (0 : Int) ≤ i from by first | with_reducible assumption | omega | (simp only [wr, wl] at *; omega)), (show i < (24 : Int) from by first | with_reducible assumption | omega | (simp only [wr, wl] at *; omega)), ?_⟩
        refine ⟨rfl, ?_⟩
        have a12 : -2147483648 ≤ (I (h + 1) (Int.toNat i)) ∧ (I (h + 1) (Int.toNat i)) < 2147483648 := hA.1 _ _
        refine s_X11_within (fun (w13 : ((a : Int) ≤ (I (h + 1) (Int.toNat i)) ∧ ((I (h + 1) (Int.toNat i)) : Int) ≤ 999)) => ?_) (fun (w13 : ¬ ((a : Int) ≤ (I (h + 1) (Int.toNat i)) ∧ ((I (h + 1) (Int.toNat i)) : Int) ≤ 999)) => ?_)
        ·
          refine ⟨fun c => absurd c (show (¬ ((1 : Int) = 0)) from by decide), fun _ => ?_⟩
          refine ⟨⟨_, hh.1, (by have := hh.2.2.1; show _ < 254; omega)⟩, ?_⟩
          refine Call_wp (lv := [some (vr h), some (vi (wr (i + 1)))]) (by decide) ckX7_numberAt [] rfl rfl ?_
          have n14 : (wr (i + 1)) = i + 1 := wr_id (show -2147483648 ≤ (i + 1 : Int) ∧ (i + 1 : Int) < 2147483648 from by omega)
          refine ⟨fun c => absurd c (show (¬ (((wr (i + 1)) : Int) < 0)) from by first | omega | (simp only [wr, wl] at *; omega)), fun _ => ?_⟩
          refine ⟨_, hh.1, (by have := hh.2.2.1; show _ < 254; omega), ?_⟩
          refine ⟨fun (c15 : (((I h 1) : Int) ≤ (wr (i + 1)))) => ?_, fun (c15 : (¬ (((I h 1) : Int) ≤ (wr (i + 1))))) => ?_⟩
          ·
            refine ⟨rfl, ?_⟩
            refine s_X11_within (fun _ => ?_) (fun hw => absurd (show (((-2) : Int) ≤ 0 ∧ (0 : Int) ≤ 99999) from by first | omega | (simp only [wr, wl] at *; omega)) hw)
            refine ⟨fun _ => ?_, fun c => absurd c (show (¬ (1 : Int) = 0) from by decide)⟩
            refine ⟨⟨_, hh.1, (by have := hh.2.2.1; show _ < 254; omega)⟩, ?_⟩
            refine Call_wp (lv := [some (vr h), some (vi i)]) (by decide) ckX7_numberAt [] rfl rfl ?_
            refine ⟨fun c => absurd c (show (¬ ((i : Int) < 0)) from by first | omega | (simp only [wr, wl] at *; omega)), fun _ => ?_⟩
            refine ⟨_, hh.1, (by have := hh.2.2.1; show _ < 254; omega), ?_⟩
            refine ⟨fun c => absurd c (show (¬ (((I h 1) : Int) ≤ i)) from by first | omega | (simp only [wr, wl] at *; omega)), fun _ => ?_⟩
            refine ⟨fun c => absurd c (show (¬ ((24 : Int) ≤ i)) from by first | omega | (simp only [wr, wl] at *; omega)), fun _ => ?_⟩
            refine ⟨_, hh.1, (by have := hh.2.2.1; show _ < 254; omega), ?_⟩
            refine fun w0 hw0 => ?_; obtain rfl : w0 = some (h + 1) := hw0.symm.trans hh.2.2.2
            refine ⟨_, hh.2.1, (by have := hh.2.2.1; show _ < 254; omega), (show (0 : Int) ≤ i from by first | with_reducible assumption | omega | (simp only [wr, wl] at *; omega)), (show i < (24 : Int) from by first | with_reducible assumption | omega | (simp only [wr, wl] at *; omega)), ?_⟩
            refine ⟨rfl, ?_⟩
            have n16 : (wr (i + 2)) = i + 2 := wr_id (show -2147483648 ≤ (i + 2 : Int) ∧ (i + 2 : Int) < 2147483648 from by omega)
            exact ih (I (h + 1) (Int.toNat i)) (wr (i + 2))  (show (0 : Int) ≤ (wr (i + 2)) from by first | with_reducible assumption | omega | (simp only [wr, wl] at *; omega)) (show (wr (i + 2)) % 2 = 0 from by first | omega | (simp only [wr, wl] at *; omega)) (⟨fun z => absurd z (by omega), fun _ => congrArg (I (h + 1)) (by omega)⟩) (fun j hj => if e : 2 * (j : Int) = i then (by
                              have n0 : wr (i + 1) = i + 1 := wr_id (by unfold iR; omega)
                              have e2 : 2 * j = Int.toNat i := by omega
                              have e3 : 2 * j + 1 = Int.toNat (wr (i + 1)) := by omega
                              have p : pvF (I (h + 1)) j = a := by
                                unfold pvF
                                split
                                · exact (c102.1 (by omega)).symm
                                · rw [c102.2 (by omega)]; exact congrArg (I (h + 1)) (by omega)
                              show pvF (I (h + 1)) j ≤ (I (h + 1)) (2 * j) ∧ (I (h + 1)) (2 * j) ≤ 999 ∧ -2 ≤ (I (h + 1)) (2 * j + 1) ∧ (I (h + 1)) (2 * j + 1) ≤ 99999
                              rw [p, e3, e2]
                              first | omega | (exfalso; omega)) else c103 j (by omega)) (show (v0 - (wr (i + 2))).toNat < mz from by omega)
          ·
            refine ⟨fun c => absurd c (show (¬ ((24 : Int) ≤ (wr (i + 1)))) from by first | omega | (simp only [wr, wl] at *; omega)), fun _ => ?_⟩
            refine ⟨_, hh.1, (by have := hh.2.2.1; show _ < 254; omega), ?_⟩
            refine fun w0 hw0 => ?_; obtain rfl : w0 = some (h + 1) := hw0.symm.trans hh.2.2.2
            refine ⟨_, hh.2.1, (by have := hh.2.2.1; show _ < 254; omega), (show (0 : Int) ≤ (wr (i + 1)) from by first | with_reducible assumption | omega | (simp only [wr, wl] at *; omega)), (show (wr (i + 1)) < (24 : Int) from by first | with_reducible assumption | omega | (simp only [wr, wl] at *; omega)), ?_⟩
            refine ⟨rfl, ?_⟩
            have a17 : -2147483648 ≤ (I (h + 1) (Int.toNat (wr (i + 1)))) ∧ (I (h + 1) (Int.toNat (wr (i + 1)))) < 2147483648 := hA.1 _ _
            refine s_X11_within (fun (w18 : (((-2) : Int) ≤ (I (h + 1) (Int.toNat (wr (i + 1)))) ∧ ((I (h + 1) (Int.toNat (wr (i + 1)))) : Int) ≤ 99999)) => ?_) (fun (w18 : ¬ (((-2) : Int) ≤ (I (h + 1) (Int.toNat (wr (i + 1)))) ∧ ((I (h + 1) (Int.toNat (wr (i + 1)))) : Int) ≤ 99999)) => ?_)
            ·
              refine ⟨fun _ => ?_, fun c => absurd c (show (¬ (1 : Int) = 0) from by decide)⟩
              refine ⟨⟨_, hh.1, (by have := hh.2.2.1; show _ < 254; omega)⟩, ?_⟩
              refine Call_wp (lv := [some (vr h), some (vi i)]) (by decide) ckX7_numberAt [] rfl rfl ?_
              refine ⟨fun c => absurd c (show (¬ ((i : Int) < 0)) from by first | omega | (simp only [wr, wl] at *; omega)), fun _ => ?_⟩
              refine ⟨_, hh.1, (by have := hh.2.2.1; show _ < 254; omega), ?_⟩
              refine ⟨fun c => absurd c (show (¬ (((I h 1) : Int) ≤ i)) from by first | omega | (simp only [wr, wl] at *; omega)), fun _ => ?_⟩
              refine ⟨fun c => absurd c (show (¬ ((24 : Int) ≤ i)) from by first | omega | (simp only [wr, wl] at *; omega)), fun _ => ?_⟩
              refine ⟨_, hh.1, (by have := hh.2.2.1; show _ < 254; omega), ?_⟩
              refine fun w0 hw0 => ?_; obtain rfl : w0 = some (h + 1) := hw0.symm.trans hh.2.2.2
              refine ⟨_, hh.2.1, (by have := hh.2.2.1; show _ < 254; omega), (show (0 : Int) ≤ i from by first | with_reducible assumption | omega | (simp only [wr, wl] at *; omega)), (show i < (24 : Int) from by first | with_reducible assumption | omega | (simp only [wr, wl] at *; omega)), ?_⟩
              refine ⟨rfl, ?_⟩
              have n19 : (wr (i + 2)) = i + 2 := wr_id (show -2147483648 ≤ (i + 2 : Int) ∧ (i + 2 : Int) < 2147483648 from by omega)
              exact ih (I (h + 1) (Int.toNat i)) (wr (i + 2))  (show (0 : Int) ≤ (wr (i + 2)) from by first | with_reducible assumption | omega | (simp only [wr, wl] at *; omega)) (show (wr (i + 2)) % 2 = 0 from by first | omega | (simp only [wr, wl] at *; omega)) (⟨fun z => absurd z (by omega), fun _ => congrArg (I (h + 1)) (by omega)⟩) (fun j hj => if e : 2 * (j : Int) = i then (by
                              have n0 : wr (i + 1) = i + 1 := wr_id (by unfold iR; omega)
                              have e2 : 2 * j = Int.toNat i := by omega
                              have e3 : 2 * j + 1 = Int.toNat (wr (i + 1)) := by omega
                              have p : pvF (I (h + 1)) j = a := by
                                unfold pvF
                                split
                                · exact (c102.1 (by omega)).symm
                                · rw [c102.2 (by omega)]; exact congrArg (I (h + 1)) (by omega)
                              show pvF (I (h + 1)) j ≤ (I (h + 1)) (2 * j) ∧ (I (h + 1)) (2 * j) ≤ 999 ∧ -2 ≤ (I (h + 1)) (2 * j + 1) ∧ (I (h + 1)) (2 * j + 1) ≤ 99999
                              rw [p, e3, e2]
                              first | omega | (exfalso; omega)) else c103 j (by omega)) (show (v0 - (wr (i + 2))).toNat < mz from by omega)
            ·
              refine ⟨fun c => absurd (show ((0 : Int) = 0) from by decide) c, fun _ => ?_⟩
              exact ⟨rfl, (by decide), hQ _ (show 0 ≤ 0 ∧ 0 ≤ 1 from by decide) (⟨fun z => absurd z (by decide), fun z => (by
                              exfalso
                              have n0 : wr (i + 1) = i + 1 := wr_id (by unfold iR; omega)
                              have e2 : 2 * (Int.toNat i / 2) = Int.toNat i := by omega
                              have e3 : 2 * (Int.toNat i / 2) + 1 = Int.toNat (wr (i + 1)) := by omega
                              have p : pvF (I (h + 1)) (Int.toNat i / 2) = a := by
                                unfold pvF
                                split
                                · exact (c102.1 (by omega)).symm
                                · rw [c102.2 (by omega)]; exact congrArg (I (h + 1)) (by omega)
                              have y : pvF (I (h + 1)) (Int.toNat i / 2) ≤ (I (h + 1)) (2 * (Int.toNat i / 2)) ∧ (I (h + 1)) (2 * (Int.toNat i / 2)) ≤ 999 ∧ -2 ≤ (I (h + 1)) (2 * (Int.toNat i / 2) + 1) ∧ (I (h + 1)) (2 * (Int.toNat i / 2) + 1) ≤ 99999 := z (Int.toNat i / 2) (by omega)
                              rw [p, e3, e2] at y
                              omega)⟩)⟩
        ·
          refine ⟨fun _ => ?_, fun c => absurd (show ((0 : Int) = 0) from by decide) c⟩
          exact ⟨rfl, (by decide), hQ _ (show 0 ≤ 0 ∧ 0 ≤ 1 from by decide) (⟨fun z => absurd z (by decide), fun z => (by
                              exfalso
                              have n0 : wr (i + 1) = i + 1 := wr_id (by unfold iR; omega)
                              have e2 : 2 * (Int.toNat i / 2) = Int.toNat i := by omega
                              have e3 : 2 * (Int.toNat i / 2) + 1 = Int.toNat (wr (i + 1)) := by omega
                              have p : pvF (I (h + 1)) (Int.toNat i / 2) = a := by
                                unfold pvF
                                split
                                · exact (c102.1 (by omega)).symm
                                · rw [c102.2 (by omega)]; exact congrArg (I (h + 1)) (by omega)
                              have y : pvF (I (h + 1)) (Int.toNat i / 2) ≤ (I (h + 1)) (2 * (Int.toNat i / 2)) ∧ (I (h + 1)) (2 * (Int.toNat i / 2)) ≤ 999 ∧ -2 ≤ (I (h + 1)) (2 * (Int.toNat i / 2) + 1) ∧ (I (h + 1)) (2 * (Int.toNat i / 2) + 1) ≤ 99999 := z (Int.toNat i / 2) (by omega)
                              rw [p, e3, e2] at y
                              omega)⟩)⟩
theorem c_begR7 (hF : FS F) (hR : Rg I) {v0 : Int} {h : Nat} (hh : HP F h) (hn : 0 ≤ v0 ∧ v0 ≤ 24) (he : v0 % 2 = 0) (hQ : ∀ r : Int, iR r → (0 ≤ r ∧ r ≤ 1) → (r = 1 ↔ GT (I (h + 1)) (I h 1) v0) → Q (some (vi r)) F I) : CallN G (d + 1) kX7_beginsWithReadings [vr h, vi v0] NP F I Q := by
  refine CallN_in (fun hok hA => CallN_out ?_)
  have iv0 : -2147483648 ≤ v0 ∧ v0 < 2147483648 := hok (vi v0) (by simp)
  refine Call_wp (lv := [some (vr h), some (vi v0), none, none]) (by decide) ckX7_beginsWithReadings [15] rfl rfl ?_
  refine ⟨⟨_, hh.1, (by have := hh.2.2.1; show _ < 254; omega)⟩, ?_⟩
  refine Call_wp (lv := [some (vr h), some (vi 0), some (vi v0)]) (by decide) ckX7_spans [] rfl rfl ?_
  refine ⟨fun c => absurd c (show (¬ ((0 : Int) < 0)) from by decide), fun _ => ?_⟩
  refine ⟨fun (c1 : ((v0 : Int) < 0)) => ?_, fun (c1 : (¬ ((v0 : Int) < 0))) => ?_⟩
  ·
    refine ⟨rfl, (by decide), ?_⟩
    refine ⟨fun c => absurd (show ((0 : Int) = 0) from by decide) c, fun _ => ?_⟩
    exact ⟨rfl, (by decide), fun hv hA' => hQ _ (hv _ rfl) (show 0 ≤ 0 ∧ 0 ≤ 1 from by decide) (⟨fun z => absurd z (by decide), fun z => absurd z.1 (by omega)⟩)⟩
  ·
    refine ⟨_, hh.1, (by have := hh.2.2.1; show _ < 254; omega), ?_⟩
    have r2 : 0 ≤ (I h 1) ∧ (I h 1) ≤ 24 := hR.h hh.1 (by have := hh.2.2.1; omega)
    refine ⟨fun (c4 : (((I h 1) : Int) < v0)) => ?_, fun (c4 : (¬ (((I h 1) : Int) < v0))) => ?_⟩
    ·
      refine ⟨rfl, (by decide), ?_⟩
      refine ⟨fun c => absurd (show ((0 : Int) = 0) from by decide) c, fun _ => ?_⟩
      exact ⟨rfl, (by decide), fun hv hA' => hQ _ (hv _ rfl) (show 0 ≤ 0 ∧ 0 ≤ 1 from by decide) (⟨fun z => absurd z (by decide), fun z => absurd z.1 (by omega)⟩)⟩
    ·
      refine ⟨_, hh.1, (by have := hh.2.2.1; show _ < 254; omega), ?_⟩
      have n5 : (wr ((I h 1) - v0)) = (I h 1) - v0 := wr_id (show -2147483648 ≤ ((I h 1) - v0 : Int) ∧ ((I h 1) - v0 : Int) < 2147483648 from by omega)
      refine ⟨fun (c6 : (((wr ((I h 1) - v0)) : Int) < 0)) => ?_, fun (c6 : (¬ (((wr ((I h 1) - v0)) : Int) < 0))) => ?_⟩
      ·
        refine ⟨rfl, (by decide), ?_⟩
        refine ⟨fun c => absurd (show ((0 : Int) = 0) from by decide) c, fun _ => ?_⟩
        exact ⟨rfl, (by decide), fun hv hA' => hQ _ (hv _ rfl) (show 0 ≤ 0 ∧ 0 ≤ 1 from by decide) (⟨fun z => absurd z (by decide), fun z => absurd z.1 (by omega)⟩)⟩
      ·
        refine ⟨rfl, (by decide), ?_⟩
        refine ⟨fun _ => ?_, fun c => absurd c (show (¬ (1 : Int) = 0) from by decide)⟩
        refine c_begR7_l hF hR hh (by omega) (by omega) (by omega) (fun r g3 g4 hv hA' => hQ _ (hv _ rfl) g3 (g4.trans ⟨fun z => ⟨by omega, z⟩, fun z => z.2⟩)) _ 0 0  (show (0 : Int) ≤ (0 : Int) from Int.le_refl _) (show (0 : Int) % 2 = 0 from by first | omega | (simp only [wr, wl] at *; omega)) (⟨fun _ => rfl, fun z => absurd z (by decide)⟩) (fun j hj => absurd hj (by omega)) (Nat.lt_succ_self _)
end TR
