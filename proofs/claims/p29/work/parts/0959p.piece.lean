/-! piece: when it is made, and what is answered. Own work (scripts laid by wip/pm/gen34.py). -/
section PI
variable {G : pG} {d : Nat} {F : pF} {I : pI} {Q : Option pV → pF → pI → Prop}
abbrev VA (a b c s n : Int) : Prop := (0 ≤ a ∧ a ≤ 5) ∧ (0 ≤ b ∧ b ≤ 3) ∧ (1 ≤ c ∧ c ≤ 99) ∧ (0 ≤ s ∧ s ≤ 3) ∧ (2 ≤ n ∧ n ≤ 12)
/-- r answered, N pieces where there were O -/
def PR (r N O : Int) (g : Prop) : Prop := (¬ g → r = -1000001 ∧ N = O) ∧ (g → O = 14 → r = -1000004 ∧ N = O) ∧ (g → O < 14 → r = O ∧ N = O + 1)
def PT (r N O : Int) (va : Prop) (b : Int) (g : Prop) : Prop := (¬ va → r = -1000001 ∧ N = O) ∧ (va → b = 0 → r = -1000002 ∧ N = O) ∧ (va → ¬ b = 0 → PR r N O g)
theorem PT_e {r N O r' N' O' b b' : Int} {va g g' : Prop} (h : PT r N O va b g) (h' : PT r' N' O' va b' g') (eO : O = O') (eb : va → b = b') (eg : va → (g ↔ g')) (hO : 0 ≤ O ∧ O ≤ 14) : r = r' ∧ N = N' := by
  subst eO
  by_cases v : va
  · obtain rfl := eb v
    by_cases c : b = 0
    · have x := h.2.1 v c
      have y := h'.2.1 v c
      omega
    · have x := h.2.2 v c
      have y := h'.2.2 v c
      by_cases k : g
      · have k' := (eg v).1 k
        by_cases f : O = 14
        · have p := x.2.1 k f
          have q := y.2.1 k' f
          omega
        · have p := x.2.2 k (by omega)
          have q := y.2.2 k' (by omega)
          omega
      · have p := x.1 k
        have q := y.1 (fun z => k ((eg v).2 z))
        omega
  · have x := h.1 v
    have y := h'.1 v
    omega
theorem piece_g {I J : pI} {s n : Int} (hH : LH I) (hN : LN I) (hs : 0 ≤ s ∧ s ≤ 3) (hn : n ≤ 24) (h4 : ∀ k j, 235 ≤ k → J k j = I k j) : GD (I (227 + 2 * Int.toNat s + 1)) (I (227 + 2 * Int.toNat s) 1) n 0 9999 ↔ GD (fun j => J 252 (24 * Int.toNat s + j)) (J 251 (Int.toNat s)) n 0 9999 := by
  have e := hH (Int.toNat s) (by omega)
  rw [h4 251 _ (by decide), ← e.2]
  refine GD_e hn (fun j hj => ?_)
  rw [h4 252 _ (by decide), ← hN (Int.toNat s) j (by omega) hj, show 228 + 2 * Int.toNat s = 227 + 2 * Int.toNat s + 1 from by omega]
theorem c_begins4_l (hF : FS F) (hR : Rg I) {v0 v1 v2 : Int} {h : Nat} (hh : HP F h) (hl : v0 ≤ I h 1) (hQ : ∀ (r : Int) , (0 ≤ r ∧ r ≤ 1) → (r = 1 ↔ ∀ j : Nat, (j : Int) < v0 → v1 ≤ I (h + 1) j ∧ I (h + 1) j ≤ v2) → Q (some (vi r)) F I) : ∀ (mz : Nat) (i : Int) , ((0 : Int) ≤ i) → (∀ j : Nat, (j : Int) < i → v1 ≤ I (h + 1) j ∧ I (h + 1) j ≤ v2) → (v0 - i).toNat < mz → GoN G (d + 1) kX7_begins NP NP 14 [some (vr h), some (vi v0), some (vi v1), some (vi v2), some (vi i)] [] F I Q := by
  intro mz
  induction mz with
  | zero => intro i _ _ h; exact absurd h (Nat.not_lt_zero _)
  | succ mz ih =>
    intro i c100 c101 hm
    refine GoN_in (fun hok hA => ?_)
    have iiv0 : -2147483648 ≤ v0 ∧ v0 < 2147483648 := hok 1 _ rfl
    have iiv1 : -2147483648 ≤ v1 ∧ v1 < 2147483648 := hok 2 _ rfl
    have iiv2 : -2147483648 ≤ v2 ∧ v2 < 2147483648 := hok 3 _ rfl
    have iii : -2147483648 ≤ i ∧ i < 2147483648 := hok 4 _ rfl
    have r1 : 0 ≤ (I h 1) ∧ (I h 1) ≤ 24 := hR.h hh.1 (by have := hh.2.2.1; omega)
    refine Go_wp (by decide) ckX7_begins [14] ?_
    refine ⟨fun (c3 : ((v0 : Int) ≤ i)) => ?_, fun (c3 : (¬ ((v0 : Int) ≤ i))) => ?_⟩
    ·
      exact ⟨rfl, (by decide), hQ _ (show 0 ≤ 1 ∧ 1 ≤ 1 from by decide) (⟨fun _ j hj => c101 j (by omega), fun _ => rfl⟩)⟩
    ·
      refine ⟨⟨_, hh.1, (by have := hh.2.2.1; show _ < 254; omega)⟩, ?_⟩
      refine Call_wp (lv := [some (vr h), some (vi i)]) (by decide) ckX7_numberAt [] rfl rfl ?_
      refine ⟨fun c => absurd c (show (¬ ((i : Int) < 0)) from by first | omega | (simp only [wr, wl] at *; omega)), fun _ => ?_⟩
      refine ⟨_, hh.1, (by have := hh.2.2.1; show _ < 254; omega), ?_⟩
      refine ⟨fun (c4 : (((I h 1) : Int) ≤ i)) => ?_, fun (c4 : (¬ (((I h 1) : Int) ≤ i))) => ?_⟩
      ·
        refine ⟨rfl, ?_⟩
        refine s_X11_within (fun (w5 : ((v1 : Int) ≤ 0 ∧ (0 : Int) ≤ v2)) => ?_) (fun (w5 : ¬ ((v1 : Int) ≤ 0 ∧ (0 : Int) ≤ v2)) => ?_)
        ·
          refine ⟨fun _ => ?_, fun c => absurd c (show (¬ (1 : Int) = 0) from by decide)⟩
          have n6 : (wr (i + 1)) = i + 1 := wr_id (show -2147483648 ≤ (i + 1 : Int) ∧ (i + 1 : Int) < 2147483648 from by omega)
          exact ih (wr (i + 1))  (show (0 : Int) ≤ (wr (i + 1)) from by first | with_reducible assumption | omega | (simp only [wr, wl] at *; omega)) (fun j hj => if e : j = Int.toNat i then (by rw [e]; omega) else c101 j (by omega)) (show (v0 - (wr (i + 1))).toNat < mz from by omega)
        ·
          refine ⟨fun c => absurd (show ((0 : Int) = 0) from by decide) c, fun _ => ?_⟩
          exact ⟨rfl, (by decide), hQ _ (show 0 ≤ 0 ∧ 0 ≤ 1 from by decide) (⟨fun z => absurd z (by decide), fun z => absurd (z (Int.toNat i) (by omega)) (by omega)⟩)⟩
      ·
        refine ⟨fun c => absurd c (show (¬ ((24 : Int) ≤ i)) from by first | omega | (simp only [wr, wl] at *; omega)), fun _ => ?_⟩
        refine ⟨_, hh.1, (by have := hh.2.2.1; show _ < 254; omega), ?_⟩
        refine fun w0 hw0 => ?_; obtain rfl : w0 = some (h + 1) := hw0.symm.trans hh.2.2.2
        refine ⟨_, hh.2.1, (by have := hh.2.2.1; show _ < 254; omega), (show (0 : Int) ≤ i from by first | with_reducible assumption | omega | (simp only [wr, wl] at *; omega)), (show i < (24 : Int) from by first | with_reducible assumption | omega | (simp only [wr, wl] at *; omega)), ?_⟩
        refine ⟨rfl, ?_⟩
        have a7 : -2147483648 ≤ (I (h + 1) (Int.toNat i)) ∧ (I (h + 1) (Int.toNat i)) < 2147483648 := hA.1 _ _
        refine s_X11_within (fun (w8 : ((v1 : Int) ≤ (I (h + 1) (Int.toNat i)) ∧ ((I (h + 1) (Int.toNat i)) : Int) ≤ v2)) => ?_) (fun (w8 : ¬ ((v1 : Int) ≤ (I (h + 1) (Int.toNat i)) ∧ ((I (h + 1) (Int.toNat i)) : Int) ≤ v2)) => ?_)
        ·
          refine ⟨fun _ => ?_, fun c => absurd c (show (¬ (1 : Int) = 0) from by decide)⟩
          have n9 : (wr (i + 1)) = i + 1 := wr_id (show -2147483648 ≤ (i + 1 : Int) ∧ (i + 1 : Int) < 2147483648 from by omega)
          exact ih (wr (i + 1))  (show (0 : Int) ≤ (wr (i + 1)) from by first | with_reducible assumption | omega | (simp only [wr, wl] at *; omega)) (fun j hj => if e : j = Int.toNat i then (by rw [e]; omega) else c101 j (by omega)) (show (v0 - (wr (i + 1))).toNat < mz from by omega)
        ·
          refine ⟨fun c => absurd (show ((0 : Int) = 0) from by decide) c, fun _ => ?_⟩
          exact ⟨rfl, (by decide), hQ _ (show 0 ≤ 0 ∧ 0 ≤ 1 from by decide) (⟨fun z => absurd z (by decide), fun z => absurd (z (Int.toNat i) (by omega)) (by omega)⟩)⟩
theorem c_begins4 (hF : FS F) (hR : Rg I) {v0 v1 v2 : Int} {h : Nat} (hh : HP F h) (hn : 0 ≤ v0) (hQ : ∀ r : Int, iR r → (0 ≤ r ∧ r ≤ 1) → (r = 1 ↔ GD (I (h + 1)) (I h 1) v0 v1 v2) → Q (some (vi r)) F I) : CallN G (d + 1) kX7_begins [vr h, vi v0, vi v1, vi v2] NP F I Q := by
  refine CallN_in (fun hok hA => CallN_out ?_)
  have iv0 : -2147483648 ≤ v0 ∧ v0 < 2147483648 := hok (vi v0) (by simp)
  have iv1 : -2147483648 ≤ v1 ∧ v1 < 2147483648 := hok (vi v1) (by simp)
  have iv2 : -2147483648 ≤ v2 ∧ v2 < 2147483648 := hok (vi v2) (by simp)
  refine Call_wp (lv := [some (vr h), some (vi v0), some (vi v1), some (vi v2), none]) (by decide) ckX7_begins [14] rfl rfl ?_
  refine ⟨⟨_, hh.1, (by have := hh.2.2.1; show _ < 254; omega)⟩, ?_⟩
  refine Call_wp (lv := [some (vr h), some (vi 0), some (vi v0)]) (by decide) ckX7_spans [] rfl rfl ?_
  refine ⟨fun c => absurd c (show (¬ ((0 : Int) < 0)) from by decide), fun _ => ?_⟩
  refine ⟨fun (c1 : ((v0 : Int) < 0)) => ?_, fun (c1 : (¬ ((v0 : Int) < 0))) => ?_⟩
  ·
    refine ⟨rfl, (by decide), ?_⟩
    refine ⟨fun c => absurd (show ((0 : Int) = 0) from by decide) c, fun _ => ?_⟩
    exact ⟨rfl, (by decide), fun hv hA' => hQ _ (hv _ rfl) (show 0 ≤ 0 ∧ 0 ≤ 1 from by decide) (⟨fun z => absurd z (by decide), fun z => absurd z.1 (by omega)⟩)⟩
  ·
    refine ⟨_, hh.1, (by have := hh.2.2.1; show _ < 254; omega), ?_⟩
    have r2 : 0 ≤ (I h 1) ∧ (I h 1) ≤ 24 := hR.h hh.1 (by have := hh.2.2.1; omega)
    refine ⟨fun (c4 : (((I h 1) : Int) < v0)) => ?_, fun (c4 : (¬ (((I h 1) : Int) < v0))) => ?_⟩
    ·
      refine ⟨rfl, (by decide), ?_⟩
      refine ⟨fun c => absurd (show ((0 : Int) = 0) from by decide) c, fun _ => ?_⟩
      exact ⟨rfl, (by decide), fun hv hA' => hQ _ (hv _ rfl) (show 0 ≤ 0 ∧ 0 ≤ 1 from by decide) (⟨fun z => absurd z (by decide), fun z => absurd z.1 (by omega)⟩)⟩
    ·
      refine ⟨_, hh.1, (by have := hh.2.2.1; show _ < 254; omega), ?_⟩
      have n5 : (wr ((I h 1) - v0)) = (I h 1) - v0 := wr_id (show -2147483648 ≤ ((I h 1) - v0 : Int) ∧ ((I h 1) - v0 : Int) < 2147483648 from by omega)
      refine ⟨fun (c6 : (((wr ((I h 1) - v0)) : Int) < 0)) => ?_, fun (c6 : (¬ (((wr ((I h 1) - v0)) : Int) < 0))) => ?_⟩
      ·
        refine ⟨rfl, (by decide), ?_⟩
        refine ⟨fun c => absurd (show ((0 : Int) = 0) from by decide) c, fun _ => ?_⟩
        exact ⟨rfl, (by decide), fun hv hA' => hQ _ (hv _ rfl) (show 0 ≤ 0 ∧ 0 ≤ 1 from by decide) (⟨fun z => absurd z (by decide), fun z => absurd z.1 (by omega)⟩)⟩
      ·
        refine ⟨rfl, (by decide), ?_⟩
        refine ⟨fun _ => ?_, fun c => absurd c (show (¬ (1 : Int) = 0) from by decide)⟩
        refine c_begins4_l hF hR hh (by omega) (fun r g3 g4 hv hA' => hQ _ (hv _ rfl) g3 (g4.trans ⟨fun z => ⟨by omega, z⟩, fun z => z.2⟩)) _ 0  (show (0 : Int) ≤ (0 : Int) from Int.le_refl _) (fun j hj => absurd hj (by omega)) (Nat.lt_succ_self _)
end PI
