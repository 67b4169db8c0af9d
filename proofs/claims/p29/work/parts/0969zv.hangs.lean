/-! hangs. Own work (scripts laid by wip/pm/gen34.py). -/
section HA11
variable {G : pG} {d : Nat} {F : pF} {I : pI} {Q : Option pV → pF → pI → Prop}
/-- whether a meter's chain goes over a: fuel f -/
def goF (O : Nat → Int) (a : Int) : Nat → Int → Int
  | 0, m => if m = a then 1 else 0
  | f + 1, m => if 0 < m then (if m = a then 1 else goF O a f (O (Int.toNat m))) else if m = a then 1 else 0
theorem goF_e {O : Nat → Int} {a : Int} {f : Nat} : goF O a f a = 1 := by
  cases f with
  | zero => exact if_pos rfl
  | succ f =>
    unfold goF
    by_cases c : 0 < a
    · rw [if_pos c, if_pos rfl]
    · rw [if_neg c, if_pos rfl]
theorem goF_z {O : Nat → Int} {a m : Int} {f : Nat} (h : ¬ 0 < m) (g : ¬ m = a) : goF O a f m = 0 := by
  cases f with
  | zero => exact if_neg g
  | succ f => unfold goF; rw [if_neg h, if_neg g]
theorem goF_s {O : Nat → Int} {a m : Int} {f : Nat} (h : 0 < m) (g : ¬ m = a) : goF O a (f + 1) m = goF O a f (O (Int.toNat m)) := by
  show (if 0 < m then (if m = a then 1 else goF O a f (O (Int.toNat m))) else if m = a then 1 else 0) = _
  rw [if_pos h, if_neg g]
/-- a chain goes down -/
def CHN (O : Nat → Int) : Prop := ∀ j : Nat, j < 6 → 0 ≤ O j ∧ (O j = 0 ∨ O j < (j : Int))
theorem goF_l {O : Nat → Int} (h : CHN O) {a : Int} : ∀ (f : Nat) (m : Int), 0 ≤ m → m ≤ 5 → m < a → goF O a f m = 0 := by
  intro f
  induction f with
  | zero => intro m _ _ h3; exact if_neg (by omega)
  | succ f ih =>
    intro m h1 h2 h3
    by_cases c : 0 < m
    · rw [goF_s c (by omega)]
      have b := h (Int.toNat m) (by omega)
      exact ih _ (by omega) (by omega) (by omega)
    · exact goF_z c (by omega)
theorem goF_f {O : Nat → Int} (h : CHN O) {a : Int} : ∀ (f : Nat) (m : Int), 0 ≤ m → m ≤ 5 → m ≤ f → goF O a f m = goF O a (f + 1) m := by
  intro f
  induction f with
  | zero =>
    intro m h1 h2 h3
    by_cases e : m = a
    · subst e; rw [goF_e, goF_e]
    · rw [goF_z (by omega) e, goF_z (by omega) e]
  | succ f ih =>
    intro m h1 h2 h3
    by_cases e : m = a
    · subst e; rw [goF_e, goF_e]
    · by_cases c : 0 < m
      · rw [goF_s c e, goF_s c e]
        have b := h (Int.toNat m) (by omega)
        exact ih _ (by omega) (by omega) (by omega)
      · rw [goF_z c e, goF_z c e]
theorem goF_d {O : Nat → Int} (h : CHN O) {a m : Int} (h1 : 0 < m) (h2 : m ≤ 5) (e : ¬ m = a) : goF O a 6 m = goF O a 6 (O (Int.toNat m)) := by
  have b := h (Int.toNat m) (by omega)
  rw [goF_s h1 e]
  exact goF_f h 5 _ (by first | decide | omega) (by omega) (by omega)
/-- the entries that hang on a -/
def hgF (O M : Nat → Int) (a : Int) : Nat → Int
  | 0 => 0
  | k + 1 => oI (hgF O M a k) (if goF O a 6 (M k) = 1 then slI 1 (k : Int) else 0)
theorem hgF_s {O M : Nat → Int} {a : Int} {k : Nat} : hgF O M a (k + 1) = oI (hgF O M a k) (if goF O a 6 (M k) = 1 then slI 1 (k : Int) else 0) := rfl
theorem goF_c {O O' : Nat → Int} (h : CHN O) (e : ∀ j, j < 6 → O j = O' j) {a : Int} : ∀ (f : Nat) (m : Int), 0 ≤ m → m ≤ 5 → goF O a f m = goF O' a f m := by
  intro f
  induction f with
  | zero => intro m _ _; rfl
  | succ f ih =>
    intro m h1 h2
    by_cases q : m = a
    · subst q; rw [goF_e, goF_e]
    · by_cases c : 0 < m
      · rw [goF_s c q, goF_s c q, ← e (Int.toNat m) (by omega)]
        have b := h (Int.toNat m) (by omega)
        exact ih _ (by omega) (by omega)
      · rw [goF_z c q, goF_z c q]
theorem hgF_c {O O' M M' : Nat → Int} (h : CHN O) (e : ∀ j, j < 6 → O j = O' j) {a : Int} : ∀ m : Nat, (∀ k, k < m → M k = M' k ∧ 0 ≤ M k ∧ M k ≤ 5) → hgF O M a m = hgF O' M' a m := by
  intro m
  induction m with
  | zero => intro _; rfl
  | succ m ih =>
    intro g
    have b := g m (by omega)
    rw [hgF_s, hgF_s, ih (fun k hk => g k (by omega)), ← b.1, goF_c h e 6 _ b.2.1 b.2.2]
theorem c_goes11_l (hF : FS F) (hR : Rg I) {v0 v1 : Int} (hch : CHN (fun j => I 8 j)) (hm : 0 ≤ v0 ∧ v0 ≤ 5) (hQ : ∀ (r : Int) , ((r = 1 ∧ goF (fun j => I 8 j) v1 6 v0 = 1) ∨ (r = 0 ∧ ¬ goF (fun j => I 8 j) v1 6 v0 = 1)) → Q (some (vi r)) F I) : ∀ (mz : Nat) (m i : Int) , ((0 : Int) ≤ m) → ((m : Int) ≤ 5) → ((0 : Int) ≤ i) → ((i : Int) ≤ 6) → (m ≤ 6 - i) → (goF (fun j => I 8 j) v1 (Int.toNat (6 - i)) m = goF (fun j => I 8 j) v1 6 v0) → (6 - i).toNat < mz → GoN G (d + 3) kX2_goesOver NP NP 5 [some (vr 7), some (vi v0), some (vi v1), some (vi m), some (vi i)] [] F I Q := by
  intro mz
  induction mz with
  | zero => intro m i _ _ _ _ _ _ h; exact absurd h (Nat.not_lt_zero _)
  | succ mz ih =>
    intro m i cc100 cc101 cc102 cc103 cc104 cc105 hm
    refine GoN_in (fun hok hA => ?_)
    have iiv0 : -2147483648 ≤ v0 ∧ v0 < 2147483648 := hok 1 _ rfl
    have iiv1 : -2147483648 ≤ v1 ∧ v1 < 2147483648 := hok 2 _ rfl
    have iim : -2147483648 ≤ m ∧ m < 2147483648 := hok 3 _ rfl
    have iii : -2147483648 ≤ i ∧ i < 2147483648 := hok 4 _ rfl
    have hb := hch (Int.toNat m) (by omega)
    refine Go_wp (by decide) ckX2_goesOver [5] ?_
    refine ⟨fun (c1 : ((6 : Int) ≤ i)) => ?_, fun (c1 : (¬ ((6 : Int) ≤ i))) => ?_⟩
    ·
      refine ⟨fun (c2 : (¬ (m : Int) = v1)) => ?_, fun (c2 : ((m : Int) = v1)) => ?_⟩
      ·
        exact ⟨rfl, (by decide), hQ _ ((by
                              have h := cc105
                              by_cases q : m = v1
                              · have g := goF_e (O := (fun j => I 8 j)) (a := v1) (f := Int.toNat (6 - i))
                                rw [q] at h
                                omega
                              · have g := goF_z (O := (fun j => I 8 j)) (a := v1) (m := m) (f := Int.toNat (6 - i)) (by omega) q
                                omega))⟩
      ·
        exact ⟨rfl, (by decide), hQ _ ((by
                              have h := cc105
                              by_cases q : m = v1
                              · have g := goF_e (O := (fun j => I 8 j)) (a := v1) (f := Int.toNat (6 - i))
                                rw [q] at h
                                omega
                              · have g := goF_z (O := (fun j => I 8 j)) (a := v1) (m := m) (f := Int.toNat (6 - i)) (by omega) q
                                omega))⟩
    ·
      refine ⟨fun (c3 : ((m : Int) ≤ 0)) => ?_, fun (c3 : (¬ ((m : Int) ≤ 0))) => ?_⟩
      ·
        refine ⟨fun (c4 : (¬ (m : Int) = v1)) => ?_, fun (c4 : ((m : Int) = v1)) => ?_⟩
        ·
          exact ⟨rfl, (by decide), hQ _ ((by
                              have h := cc105
                              by_cases q : m = v1
                              · have g := goF_e (O := (fun j => I 8 j)) (a := v1) (f := Int.toNat (6 - i))
                                rw [q] at h
                                omega
                              · have g := goF_z (O := (fun j => I 8 j)) (a := v1) (m := m) (f := Int.toNat (6 - i)) (by omega) q
                                omega))⟩
        ·
          exact ⟨rfl, (by decide), hQ _ ((by
                              have h := cc105
                              by_cases q : m = v1
                              · have g := goF_e (O := (fun j => I 8 j)) (a := v1) (f := Int.toNat (6 - i))
                                rw [q] at h
                                omega
                              · have g := goF_z (O := (fun j => I 8 j)) (a := v1) (m := m) (f := Int.toNat (6 - i)) (by omega) q
                                omega))⟩
      ·
        refine ⟨fun (c5 : (¬ (m : Int) = v1)) => ?_, fun (c5 : ((m : Int) = v1)) => ?_⟩
        ·
          refine ⟨⟨_, rfl, (by decide)⟩, ?_⟩
          refine Call_wp (lv := [some (vr 7), some (vi m)]) (by decide) ckX2_otherOf [] rfl rfl ?_
          refine s_X11_isMeter (fun _ => ?_) (fun hw => absurd (show ((0 : Int) ≤ m ∧ (m : Int) ≤ 5) from by first | omega | (simp only [wr, wl] at *; omega)) hw)
          refine ⟨fun c => absurd c (show (¬ ((1 : Int) = 0)) from by decide), fun _ => ?_⟩
          refine ⟨_, rfl, (by decide), ?_⟩
          refine fun w0 hw0 => ?_; obtain rfl : w0 = some 8 := hw0.symm.trans (FS.g hF rfl)
          refine ⟨_, rfl, (by decide), (show (0 : Int) ≤ m from by first | with_reducible assumption | omega | (simp only [wr, wl] at *; omega)), (show m < (6 : Int) from by first | with_reducible assumption | omega | (simp only [wr, wl] at *; omega)), ?_⟩
          refine ⟨rfl, ?_⟩
          have a6 : -2147483648 ≤ (I 8 (Int.toNat m)) ∧ (I 8 (Int.toNat m)) < 2147483648 := hA.1 _ _
          have n7 : (wr (i + 1)) = i + 1 := wr_id (show -2147483648 ≤ (i + 1 : Int) ∧ (i + 1 : Int) < 2147483648 from by omega)
          exact ih (I 8 (Int.toNat m)) (wr (i + 1))  (show (0 : Int) ≤ (I 8 (Int.toNat m)) from by first | with_reducible assumption | omega | (simp only [wr, wl] at *; omega)) (show ((I 8 (Int.toNat m)) : Int) ≤ 5 from by first | with_reducible assumption | omega | (simp only [wr, wl] at *; omega)) (show (0 : Int) ≤ (wr (i + 1)) from by first | with_reducible assumption | omega | (simp only [wr, wl] at *; omega)) (show ((wr (i + 1)) : Int) ≤ 6 from by first | with_reducible assumption | omega | (simp only [wr, wl] at *; omega)) (show (I 8 (Int.toNat m)) ≤ 6 - (wr (i + 1)) from by first | with_reducible assumption | omega | (simp only [wr, wl] at *; omega)) (show goF (fun j => I 8 j) v1 (Int.toNat (6 - (wr (i + 1)))) (I 8 (Int.toNat m)) = goF (fun j => I 8 j) v1 6 v0 from (by
                              have h := cc105
                              rw [show Int.toNat (6 - i) = Int.toNat (6 - (wr (i + 1))) + 1 from by omega, goF_s (by omega) (by omega)] at h
                              exact h)) (show (6 - (wr (i + 1))).toNat < mz from by omega)
        ·
          exact ⟨rfl, (by decide), hQ _ ((by
                              have h := cc105
                              by_cases q : m = v1
                              · have g := goF_e (O := (fun j => I 8 j)) (a := v1) (f := Int.toNat (6 - i))
                                rw [q] at h
                                omega
                              · have g := goF_z (O := (fun j => I 8 j)) (a := v1) (m := m) (f := Int.toNat (6 - i)) (by omega) q
                                omega))⟩
theorem c_goes11 (hF : FS F) (hR : Rg I) {v0 v1 : Int} (hch : CHN (fun j => I 8 j)) (hm : 0 ≤ v0 ∧ v0 ≤ 5) (hQ : ∀ r : Int, iR r → ((r = 1 ∧ goF (fun j => I 8 j) v1 6 v0 = 1) ∨ (r = 0 ∧ ¬ goF (fun j => I 8 j) v1 6 v0 = 1)) → Q (some (vi r)) F I) : CallN G (d + 3) kX2_goesOver [vr 7, vi v0, vi v1] NP F I Q := by
  refine CallN_in (fun hok hA => CallN_out ?_)
  have iv0 : -2147483648 ≤ v0 ∧ v0 < 2147483648 := hok (vi v0) (by simp)
  have iv1 : -2147483648 ≤ v1 ∧ v1 < 2147483648 := hok (vi v1) (by simp)
  refine Call_wp (lv := [some (vr 7), some (vi v0), some (vi v1), none, none]) (by decide) ckX2_goesOver [5] rfl rfl ?_
  refine c_goes11_l hF hR hch hm (fun r g3 hv hA' => hQ _ (hv _ rfl) g3) _ v0 0  (show (0 : Int) ≤ v0 from by first | with_reducible assumption | omega | (simp only [wr, wl] at *; omega)) (show (v0 : Int) ≤ 5 from by first | with_reducible assumption | omega | (simp only [wr, wl] at *; omega)) (show (0 : Int) ≤ (0 : Int) from Int.le_refl _) (show ((0 : Int) : Int) ≤ 6 from by first | with_reducible assumption | omega | (simp only [wr, wl] at *; omega)) (show v0 ≤ 6 - (0 : Int) from by first | with_reducible assumption | omega | (simp only [wr, wl] at *; omega)) (show goF (fun j => I 8 j) v1 (Int.toNat (6 - (0 : Int))) v0 = goF (fun j => I 8 j) v1 6 v0 from rfl) (Nat.lt_succ_self _)
theorem c_hang11_l (hF : FS F) (hR : Rg I) {v0 : Int} (hch : CHN (fun j => I 8 j)) (he : 0 ≤ I 12 6 ∧ I 12 6 ≤ 20) (hmt : ∀ j : Nat, (j : Int) < I 12 6 → 0 ≤ I 15 j ∧ I 15 j ≤ 5) (hQ : ∀ (r : Int) , (r = hgF (fun j => I 8 j) (fun j => I 15 j) v0 (Int.toNat (I 12 6))) → Q (some (vi r)) F I) : ∀ (mz : Nat) (b e : Int) , ((0 : Int) ≤ e) → ((e : Int) ≤ 20) → ((I 12 6) = I 12 6) → (e ≤ I 12 6) → (b = hgF (fun j => I 8 j) (fun j => I 15 j) v0 (Int.toNat e)) → (20 - e).toNat < mz → GoN G (d + 4) kX0_hanging NP NP 5 [some (vr 12), some (vi v0), some (vr 7), some (vi b), some (vi e)] [] F I Q := by
  intro mz
  induction mz with
  | zero => intro b e _ _ _ _ _ h; exact absurd h (Nat.not_lt_zero _)
  | succ mz ih =>
    intro b e cc100 cc101 cc102 cc103 cc104 hm
    refine GoN_in (fun hok hA => ?_)
    have iiv0 : -2147483648 ≤ v0 ∧ v0 < 2147483648 := hok 1 _ rfl
    have iib : -2147483648 ≤ b ∧ b < 2147483648 := hok 3 _ rfl
    have iie : -2147483648 ≤ e ∧ e < 2147483648 := hok 4 _ rfl
    have a1 : -2147483648 ≤ (I 12 6) ∧ (I 12 6) < 2147483648 := hA.1 _ _
    refine Go_wp (by decide) ckX0_hanging [5] ?_
    refine ⟨_, rfl, (by decide), ?_⟩
    refine ⟨fun (c2 : (((I 12 6) : Int) ≤ e)) => ?_, fun (c2 : (¬ (((I 12 6) : Int) ≤ e))) => ?_⟩
    ·
      exact ⟨rfl, hQ _ ((by
                              have h := cc104
                              rw [show Int.toNat (I 12 6) = Int.toNat e from by omega]
                              exact h))⟩
    ·
      refine ⟨fun (c3 : ((20 : Int) ≤ e)) => ?_, fun (c3 : (¬ ((20 : Int) ≤ e))) => ?_⟩
      ·
        exact ⟨rfl, hQ _ ((by
                              have h := cc104
                              rw [show Int.toNat (I 12 6) = Int.toNat e from by omega]
                              exact h))⟩
      ·
        refine ⟨_, rfl, (by decide), ?_⟩
        refine fun w0 hw0 => ?_; obtain rfl : w0 = some 15 := hw0.symm.trans (FS.g hF rfl)
        refine ⟨_, rfl, (by decide), (show (0 : Int) ≤ e from by first | with_reducible assumption | omega | (simp only [wr, wl] at *; omega)), (show e < (20 : Int) from by first | with_reducible assumption | omega | (simp only [wr, wl] at *; omega)), ?_⟩
        have z4 := hmt (Int.toNat e) (by omega)
        refine ⟨⟨_, rfl, (by decide)⟩, ?_⟩
        have a5 : -2147483648 ≤ (I 15 (Int.toNat e)) ∧ (I 15 (Int.toNat e)) < 2147483648 := hA.1 _ _
        refine c_goes11 (v0 := (I 15 (Int.toNat e))) (v1 := v0) hF hR hch (by omega) (fun vr6 hr7 qr8 => ?_)
        have hr7 : -2147483648 ≤ vr6 ∧ vr6 < 2147483648 := hr7
        refine ⟨fun (c9 : ((vr6 : Int) = 0)) => ?_, fun (c9 : (¬ ((vr6 : Int) = 0))) => ?_⟩
        ·
          have n10 : (wr (e + 1)) = e + 1 := wr_id (show -2147483648 ≤ (e + 1 : Int) ∧ (e + 1 : Int) < 2147483648 from by omega)
          exact ih (oI b 0) (wr (e + 1))  (show (0 : Int) ≤ (wr (e + 1)) from by first | with_reducible assumption | omega | (simp only [wr, wl] at *; omega)) (show ((wr (e + 1)) : Int) ≤ 20 from by first | with_reducible assumption | omega | (simp only [wr, wl] at *; omega)) (show (I 12 6) = I 12 6 from by first | omega | (simp only [wr, wl] at *; omega)) (show (wr (e + 1)) ≤ I 12 6 from by first | with_reducible assumption | omega | (simp only [wr, wl] at *; omega)) (show (oI b 0) = hgF (fun j => I 8 j) (fun j => I 15 j) v0 (Int.toNat (wr (e + 1))) from (by
                              have h := cc104
                              rw [show Int.toNat (wr (e + 1)) = Int.toNat e + 1 from by omega, hgF_s, ← h]
                              show _ = oI b (if goF (fun j => I 8 j) v0 6 (I 15 (Int.toNat e)) = 1 then slI 1 ((Int.toNat e : Nat) : Int) else 0)
                              first
                                | rw [if_pos (by omega), show ((Int.toNat e : Nat) : Int) = e from by omega]
                                | rw [if_neg (by omega)])) (show (20 - (wr (e + 1))).toNat < mz from by omega)
        ·
          have n11 : (wr (e + 1)) = e + 1 := wr_id (show -2147483648 ≤ (e + 1 : Int) ∧ (e + 1 : Int) < 2147483648 from by omega)
          exact ih (oI b (slI 1 e)) (wr (e + 1))  (show (0 : Int) ≤ (wr (e + 1)) from by first | with_reducible assumption | omega | (simp only [wr, wl] at *; omega)) (show ((wr (e + 1)) : Int) ≤ 20 from by first | with_reducible assumption | omega | (simp only [wr, wl] at *; omega)) (show (I 12 6) = I 12 6 from by first | omega | (simp only [wr, wl] at *; omega)) (show (wr (e + 1)) ≤ I 12 6 from by first | with_reducible assumption | omega | (simp only [wr, wl] at *; omega)) (show (oI b (slI 1 e)) = hgF (fun j => I 8 j) (fun j => I 15 j) v0 (Int.toNat (wr (e + 1))) from (by
                              have h := cc104
                              rw [show Int.toNat (wr (e + 1)) = Int.toNat e + 1 from by omega, hgF_s, ← h]
                              show _ = oI b (if goF (fun j => I 8 j) v0 6 (I 15 (Int.toNat e)) = 1 then slI 1 ((Int.toNat e : Nat) : Int) else 0)
                              first
                                | rw [if_pos (by omega), show ((Int.toNat e : Nat) : Int) = e from by omega]
                                | rw [if_neg (by omega)])) (show (20 - (wr (e + 1))).toNat < mz from by omega)
theorem c_hang11 (hF : FS F) (hR : Rg I) {v0 : Int} (hch : CHN (fun j => I 8 j)) (he : 0 ≤ I 12 6 ∧ I 12 6 ≤ 20) (hmt : ∀ j : Nat, (j : Int) < I 12 6 → 0 ≤ I 15 j ∧ I 15 j ≤ 5) (hQ : ∀ r : Int, iR r → (r = hgF (fun j => I 8 j) (fun j => I 15 j) v0 (Int.toNat (I 12 6))) → Q (some (vi r)) F I) : CallN G (d + 4) kX0_hanging [vr 12, vi v0, vr 7] NP F I Q := by
  refine CallN_in (fun hok hA => CallN_out ?_)
  have iv0 : -2147483648 ≤ v0 ∧ v0 < 2147483648 := hok (vi v0) (by simp)
  refine Call_wp (lv := [some (vr 12), some (vi v0), some (vr 7), none, none]) (by decide) ckX0_hanging [5] rfl rfl ?_
  have a1 : -2147483648 ≤ (I 12 6) ∧ (I 12 6) < 2147483648 := hA.1 _ _
  refine c_hang11_l hF hR hch he hmt (fun r g3 hv hA' => hQ _ (hv _ rfl) g3) _ 0 0  (show (0 : Int) ≤ (0 : Int) from Int.le_refl _) (show ((0 : Int) : Int) ≤ 20 from by first | with_reducible assumption | omega | (simp only [wr, wl] at *; omega)) (show (I 12 6) = I 12 6 from by first | omega | (simp only [wr, wl] at *; omega)) (show (0 : Int) ≤ I 12 6 from by first | with_reducible assumption | omega | (simp only [wr, wl] at *; omega)) (show (0 : Int) = hgF (fun j => I 8 j) (fun j => I 15 j) v0 (Int.toNat (0 : Int)) from rfl) (Nat.lt_succ_self _)
theorem c_hangs11 (hF : FS F) (hR : Rg I) {v0 : Int} (hch : CHN (fun j => I 8 j)) (he : 0 ≤ I 12 6 ∧ I 12 6 ≤ 20) (hmt : ∀ j : Nat, (j : Int) < I 12 6 → 0 ≤ I 15 j ∧ I 15 j ≤ 5) (hQ : ∀ (r : Int) (I' : pI), Rg I' → AR I' → iR r → (∀ k j, ¬ (k = 203) → I' k j = I k j) → ((¬ (0 ≤ v0 ∧ v0 ≤ 5) → r = -1000001) ∧ ((0 ≤ v0 ∧ v0 ≤ 5) → r = hgF (fun j => I 8 j) (fun j => I 15 j) v0 (Int.toNat (I 12 6)))) → Q (some (vi r)) F I') : CallN G (d + 5) kX11_hangs [vr 0, vi v0] NP F I Q := by
  refine CallN_in (fun hok hA => CallN_out ?_)
  have iv0 : -2147483648 ≤ v0 ∧ v0 < 2147483648 := hok (vi v0) (by simp)
  refine Call_wp (lv := [some (vr 0), some (vi v0)]) (by decide) ckX11_hangs [] rfl rfl ?_
  refine s_X11_isMeter (fun (w1 : ((0 : Int) ≤ v0 ∧ (v0 : Int) ≤ 5)) => ?_) (fun (w1 : ¬ ((0 : Int) ≤ v0 ∧ (v0 : Int) ≤ 5)) => ?_)
  ·
    refine ⟨fun _ => ?_, fun c => absurd c (show (¬ (1 : Int) = 0) from by decide)⟩
    refine ⟨_, rfl, (by decide), ?_⟩
    refine fun w0 hw0 => ?_; obtain rfl : w0 = some 1 := hw0.symm.trans (FS.g hF rfl)
    refine ⟨_, rfl, (by decide), ?_⟩
    refine fun w0 hw0 => ?_; obtain rfl : w0 = some 12 := hw0.symm.trans (FS.g hF rfl)
    refine ⟨_, rfl, (by decide), ?_⟩
    refine fun w0 hw0 => ?_; obtain rfl : w0 = some 1 := hw0.symm.trans (FS.g hF rfl)
    refine ⟨_, rfl, (by decide), ?_⟩
    refine fun w0 hw0 => ?_; obtain rfl : w0 = some 7 := hw0.symm.trans (FS.g hF rfl)
    refine ⟨⟨_, rfl, (by decide)⟩, ?_⟩
    refine c_hang11 (v0 := v0) hF hR hch he hmt (fun vr2 hr3 qr4 => ?_)
    have hr3 : -2147483648 ≤ vr2 ∧ vr2 < 2147483648 := hr3
    exact ⟨rfl, fun hv hA' => hQ _ _ hR hA' (hv _ rfl) (fun _ _ _ => rfl) (show (¬ (0 ≤ v0 ∧ v0 ≤ 5) → vr2 = -1000001) ∧ ((0 ≤ v0 ∧ v0 ≤ 5) → vr2 = hgF (fun j => I 8 j) (fun j => I 15 j) v0 (Int.toNat (I 12 6))) from by
                              refine ⟨fun z => ?_, fun z => ?_⟩
                              all_goals first | rfl | omega | (exfalso; omega))⟩
  ·
    refine ⟨fun c => absurd (show ((0 : Int) = 0) from by decide) c, fun _ => ?_⟩
    refine ⟨⟨_, rfl, (by decide)⟩, ?_⟩
    refine s_X11_refuse hF (e := 1) (by decide) ?_
    exact ⟨rfl, fun hv hA' => hQ _ _ (Rg.u hR (Pr_f rfl)) hA' (hv _ rfl) (fun ka ja hk => (uI_o (show ¬ (ka = 203 ∧ ja = 1) from by first | (intro e; obtain ⟨rfl, rfl⟩ := e; exact hk (by decide)) | omega))) (show (¬ (0 ≤ v0 ∧ v0 ≤ 5) → (-1000001) = -1000001) ∧ ((0 ≤ v0 ∧ v0 ≤ 5) → (-1000001) = hgF (fun j => I 8 j) (fun j => I 15 j) v0 (Int.toNat (I 12 6))) from by
                              refine ⟨fun z => ?_, fun z => ?_⟩
                              all_goals first | rfl | omega | (exfalso; omega))⟩
theorem r_hang11_l2 (hF : FS F) (hR : Rg I) {e s v0 : Int} (hch : CHN (fun j => I 236 (16 + 4 * j))) (hm : 0 ≤ v0 ∧ v0 ≤ 5) (hK : ∀ (m : Int) , ((0 : Int) ≤ m) → ((m : Int) ≤ 5) → (m ≤ v0) → (goF (fun j => I 236 (16 + 4 * j)) v0 6 m = goF (fun j => I 236 (16 + 4 * j)) v0 6 (I 236 (188 + 6 * Int.toNat e))) → GoN G (d + 1) kX12_hangs NP NP 54 [some (vr 235), some (vi v0), some (vi s), some (vi e), some (vi m)] [] F I Q) : ∀ (mz : Nat) (m : Int) , ((0 : Int) ≤ m) → ((m : Int) ≤ 5) → (goF (fun j => I 236 (16 + 4 * j)) v0 6 m = goF (fun j => I 236 (16 + 4 * j)) v0 6 (I 236 (188 + 6 * Int.toNat e))) → (m).toNat < mz → GoN G (d + 1) kX12_hangs NP NP 36 [some (vr 235), some (vi v0), some (vi s), some (vi e), some (vi m)] [] F I Q := by
  intro mz
  induction mz with
  | zero => intro m _ _ _ h; exact absurd h (Nat.not_lt_zero _)
  | succ mz ih =>
    intro m cc100 cc101 cc102 hm
    refine GoN_in (fun hok hA => ?_)
    have iiv0 : -2147483648 ≤ v0 ∧ v0 < 2147483648 := hok 1 _ rfl
    have iis : -2147483648 ≤ s ∧ s < 2147483648 := hok 2 _ rfl
    have iie : -2147483648 ≤ e ∧ e < 2147483648 := hok 3 _ rfl
    have iim : -2147483648 ≤ m ∧ m < 2147483648 := hok 4 _ rfl
    have hb := hch (Int.toNat m) (by omega)
    have hb2 : I 236 (16 + 4 * Int.toNat m) = (fun j => I 236 (16 + 4 * j)) (Int.toNat m) := rfl
    refine Go_wp (by decide) ckX12_hangs [36, 54] ?_
    refine ⟨fun (c1 : ((m : Int) ≤ v0)) => ?_, fun (c1 : (¬ ((m : Int) ≤ v0))) => ?_⟩
    ·
      exact hK m  (show (0 : Int) ≤ m from by first | with_reducible assumption | omega | (simp only [wr, wl] at *; omega)) (show (m : Int) ≤ 5 from by first | with_reducible assumption | omega | (simp only [wr, wl] at *; omega)) (show m ≤ v0 from by first | with_reducible assumption | omega | (simp only [wr, wl] at *; omega)) (show goF (fun j => I 236 (16 + 4 * j)) v0 6 m = goF (fun j => I 236 (16 + 4 * j)) v0 6 (I 236 (188 + 6 * Int.toNat e)) from cc102)
    ·
      refine ⟨⟨_, rfl, (by decide)⟩, ?_⟩
      refine Call_wp (lv := [some (vr 235), some (vi m), some (vi 0)]) (by decide) ckX12_meter [] rfl rfl ?_
      refine ⟨_, rfl, (by decide), ?_⟩
      refine fun w0 hw0 => ?_; obtain rfl : w0 = some 236 := hw0.symm.trans (FS.g hF rfl)
      have n2 : (wr (4 * m)) = 4 * m := wr_id (show -2147483648 ≤ (4 * m : Int) ∧ (4 * m : Int) < 2147483648 from by omega)
      have n3 : (wr (16 + (wr (4 * m)))) = 16 + (wr (4 * m)) := wr_id (show -2147483648 ≤ (16 + (wr (4 * m)) : Int) ∧ (16 + (wr (4 * m)) : Int) < 2147483648 from by omega)
      have n4 : (wr ((wr (16 + (wr (4 * m)))) + 0)) = (wr (16 + (wr (4 * m)))) + 0 := wr_id (show -2147483648 ≤ ((wr (16 + (wr (4 * m)))) + 0 : Int) ∧ ((wr (16 + (wr (4 * m)))) + 0 : Int) < 2147483648 from by omega)
      refine ⟨_, rfl, (by decide), (show (0 : Int) ≤ (wr ((wr (16 + (wr (4 * m)))) + 0)) from by first | with_reducible assumption | omega | (simp only [wr, wl] at *; omega)), (show (wr ((wr (16 + (wr (4 * m)))) + 0)) < (1340 : Int) from by first | with_reducible assumption | omega | (simp only [wr, wl] at *; omega)), ?_⟩
      have z5 : (I 236 (Int.toNat (wr ((wr (16 + (wr (4 * m)))) + 0)))) = I 236 (16 + 4 * Int.toNat m) := (rfl).trans (congrArg (I 236) (by omega))
      have r6 : (I 236 (Int.toNat (wr ((wr (16 + (wr (4 * m)))) + 0)))) = 0 ∨ (I 236 (Int.toNat (wr ((wr (16 + (wr (4 * m)))) + 0)))) < (Int.toNat m : Int) := Pn_mc (p := (Int.toNat m)) (by omega) (by omega) (hR.n (Int.toNat (wr ((wr (16 + (wr (4 * m)))) + 0))) (by omega))
      have r7 : 0 ≤ (I 236 (Int.toNat (wr ((wr (16 + (wr (4 * m)))) + 0)))) ∧ (I 236 (Int.toNat (wr ((wr (16 + (wr (4 * m)))) + 0)))) ≤ 5 := Pn_m0 (p := (Int.toNat m)) (by omega) (by omega) (hR.n (Int.toNat (wr ((wr (16 + (wr (4 * m)))) + 0))) (by omega))
      refine ⟨rfl, ?_⟩
      exact ih (I 236 (Int.toNat (wr ((wr (16 + (wr (4 * m)))) + 0))))  (show (0 : Int) ≤ (I 236 (Int.toNat (wr ((wr (16 + (wr (4 * m)))) + 0)))) from by first | with_reducible assumption | omega | (simp only [wr, wl] at *; omega)) (show ((I 236 (Int.toNat (wr ((wr (16 + (wr (4 * m)))) + 0)))) : Int) ≤ 5 from by first | with_reducible assumption | omega | (simp only [wr, wl] at *; omega)) (show goF (fun j => I 236 (16 + 4 * j)) v0 6 (I 236 (Int.toNat (wr ((wr (16 + (wr (4 * m)))) + 0)))) = goF (fun j => I 236 (16 + 4 * j)) v0 6 (I 236 (188 + 6 * Int.toNat e)) from (by
                              have h := cc102
                              rw [goF_d hch (by omega) (by omega) (by omega)] at h
                              rw [show (I 236 (Int.toNat (wr ((wr (16 + (wr (4 * m)))) + 0)))) = I 236 (16 + 4 * Int.toNat m) from by omega]
                              exact h)) (show ((I 236 (Int.toNat (wr ((wr (16 + (wr (4 * m)))) + 0))))).toNat < mz from by omega)
theorem r_hang11_l1 (hF : FS F) (hR : Rg I) {v0 : Int} (hch : CHN (fun j => I 236 (16 + 4 * j))) (hmt : ∀ j : Nat, (j : Int) < I 236 1 → 0 ≤ I 236 (188 + 6 * j) ∧ I 236 (188 + 6 * j) ≤ 5) (hm : 0 ≤ v0 ∧ v0 ≤ 5) (hQ : ∀ (r : Int) , ((¬ (0 ≤ v0 ∧ v0 ≤ 5) → r = -1000001) ∧ ((0 ≤ v0 ∧ v0 ≤ 5) → r = hgF (fun j => I 236 (16 + 4 * j)) (fun j => I 236 (188 + 6 * j)) v0 (Int.toNat (I 236 1)))) → Q (some (vi r)) F I) : ∀ (mz : Nat) (s e : Int) , ((0 : Int) ≤ e) → ((e : Int) ≤ 20) → ((I 236 1) = I 236 1) → (e ≤ I 236 1) → (s = hgF (fun j => I 236 (16 + 4 * j)) (fun j => I 236 (188 + 6 * j)) v0 (Int.toNat e)) → (20 - e).toNat < mz → GoN G (d + 1) kX12_hangs NP NP 18 [some (vr 235), some (vi v0), some (vi s), some (vi e), none] [] F I Q := by
  intro mz
  induction mz with
  | zero => intro s e _ _ _ _ _ h; exact absurd h (Nat.not_lt_zero _)
  | succ mz ih =>
    intro s e cc100 cc101 cc102 cc103 cc104 hm
    refine GoN_in (fun hok hA => ?_)
    have iiv0 : -2147483648 ≤ v0 ∧ v0 < 2147483648 := hok 1 _ rfl
    have iis : -2147483648 ≤ s ∧ s < 2147483648 := hok 2 _ rfl
    have iie : -2147483648 ≤ e ∧ e < 2147483648 := hok 3 _ rfl
    have r1 : 0 ≤ (I 236 1) ∧ (I 236 1) ≤ 20 := Rg.n1 hR
    refine Go_wp (by decide) ckX12_hangs [18, 36] ?_
    refine ⟨_, rfl, (by decide), ?_⟩
    refine fun w0 hw0 => ?_; obtain rfl : w0 = some 236 := hw0.symm.trans (FS.g hF rfl)
    refine ⟨_, rfl, (by decide), (by decide), (by decide), ?_⟩
    refine ⟨fun (c3 : (((I 236 1) : Int) ≤ e)) => ?_, fun (c3 : (¬ (((I 236 1) : Int) ≤ e))) => ?_⟩
    ·
      exact ⟨rfl, hQ _ (show (¬ (0 ≤ v0 ∧ v0 ≤ 5) → s = -1000001) ∧ ((0 ≤ v0 ∧ v0 ≤ 5) → s = hgF (fun j => I 236 (16 + 4 * j)) (fun j => I 236 (188 + 6 * j)) v0 (Int.toNat (I 236 1))) from by
                              have h := cc104
                              rw [show Int.toNat (I 236 1) = Int.toNat e from by omega]
                              exact ⟨fun z => absurd (by omega) z, fun _ => h⟩)⟩
    ·
      refine ⟨⟨_, rfl, (by decide)⟩, ?_⟩
      refine Call_wp (lv := [some (vr 235), some (vi e), some (vi 4)]) (by decide) ckX12_entry [] rfl rfl ?_
      refine ⟨_, rfl, (by decide), ?_⟩
      refine fun w0 hw0 => ?_; obtain rfl : w0 = some 236 := hw0.symm.trans (FS.g hF rfl)
      have n4 : (wr (6 * e)) = 6 * e := wr_id (show -2147483648 ≤ (6 * e : Int) ∧ (6 * e : Int) < 2147483648 from by omega)
      have n5 : (wr (184 + (wr (6 * e)))) = 184 + (wr (6 * e)) := wr_id (show -2147483648 ≤ (184 + (wr (6 * e)) : Int) ∧ (184 + (wr (6 * e)) : Int) < 2147483648 from by omega)
      have n6 : (wr ((wr (184 + (wr (6 * e)))) + 4)) = (wr (184 + (wr (6 * e)))) + 4 := wr_id (show -2147483648 ≤ ((wr (184 + (wr (6 * e)))) + 4 : Int) ∧ ((wr (184 + (wr (6 * e)))) + 4 : Int) < 2147483648 from by omega)
      refine ⟨_, rfl, (by decide), (show (0 : Int) ≤ (wr ((wr (184 + (wr (6 * e)))) + 4)) from by first | with_reducible assumption | omega | (simp only [wr, wl] at *; omega)), (show (wr ((wr (184 + (wr (6 * e)))) + 4)) < (1340 : Int) from by first | with_reducible assumption | omega | (simp only [wr, wl] at *; omega)), ?_⟩
      have z7 : (I 236 (Int.toNat (wr ((wr (184 + (wr (6 * e)))) + 4)))) = I 236 (188 + 6 * Int.toNat e) := (rfl).trans (congrArg (I 236) (by omega))
      have z8 := hmt (Int.toNat e) (by omega)
      have r9 : 0 ≤ (I 236 (Int.toNat (wr ((wr (184 + (wr (6 * e)))) + 4)))) ∧ (I 236 (Int.toNat (wr ((wr (184 + (wr (6 * e)))) + 4)))) ≤ 5 := Pn_e4 (p := (Int.toNat e)) (by omega) (by omega) (hR.n (Int.toNat (wr ((wr (184 + (wr (6 * e)))) + 4))) (by omega))
      refine ⟨rfl, ?_⟩
      refine r_hang11_l2 hF hR hch (by omega) (fun y11 c12 c13 c14 c15 => ?_) _ (I 236 (Int.toNat (wr ((wr (184 + (wr (6 * e)))) + 4))))  (show (0 : Int) ≤ (I 236 (Int.toNat (wr ((wr (184 + (wr (6 * e)))) + 4)))) from by first | with_reducible assumption | omega | (simp only [wr, wl] at *; omega)) (show ((I 236 (Int.toNat (wr ((wr (184 + (wr (6 * e)))) + 4)))) : Int) ≤ 5 from by first | with_reducible assumption | omega | (simp only [wr, wl] at *; omega)) (show goF (fun j => I 236 (16 + 4 * j)) v0 6 (I 236 (Int.toNat (wr ((wr (184 + (wr (6 * e)))) + 4)))) = goF (fun j => I 236 (16 + 4 * j)) v0 6 (I 236 (188 + 6 * Int.toNat e)) from (by
                              rw [show (I 236 (Int.toNat (wr ((wr (184 + (wr (6 * e)))) + 4)))) = I 236 (188 + 6 * Int.toNat e) from by omega])) (Nat.lt_succ_self _)
      refine GoN_in (fun hok16 hA17 => ?_)
      have i18 : -2147483648 ≤ y11 ∧ y11 < 2147483648 := hok16 4 _ rfl
      refine Go_wp (by decide) ckX12_hangs [18, 36] ?_
      refine ⟨fun (c19 : (¬ (y11 : Int) = v0)) => ?_, fun (c19 : ((y11 : Int) = v0)) => ?_⟩
      ·
        refine GoN_lv (lv' := [some (vr 235), some (vi v0), some (vi (oI s 0)), some (vi (wr (e + 1))), none]) (LvLe.k (LvLe.k (LvLe.k (LvLe.k (LvLe.d LvLe.n))))) ?_
        have n20 : (wr (e + 1)) = e + 1 := wr_id (show -2147483648 ≤ (e + 1 : Int) ∧ (e + 1 : Int) < 2147483648 from by omega)
        exact ih (oI s 0) (wr (e + 1))  (show (0 : Int) ≤ (wr (e + 1)) from by first | with_reducible assumption | omega | (simp only [wr, wl] at *; omega)) (show ((wr (e + 1)) : Int) ≤ 20 from by first | with_reducible assumption | omega | (simp only [wr, wl] at *; omega)) (show (I 236 1) = I 236 1 from by first | omega | (simp only [wr, wl] at *; omega)) (show (wr (e + 1)) ≤ I 236 1 from by first | with_reducible assumption | omega | (simp only [wr, wl] at *; omega)) (show (oI s 0) = hgF (fun j => I 236 (16 + 4 * j)) (fun j => I 236 (188 + 6 * j)) v0 (Int.toNat (wr (e + 1))) from (by
                              have h := cc104
                              have c := c15
                              have h5 := hmt (Int.toNat e) (by omega)
                              rw [show Int.toNat (wr (e + 1)) = Int.toNat e + 1 from by omega, hgF_s, ← h]
                              show _ = oI s (if goF (fun j => I 236 (16 + 4 * j)) v0 6 (I 236 (188 + 6 * Int.toNat e)) = 1 then slI 1 ((Int.toNat e : Nat) : Int) else 0)
                              by_cases q : y11 = v0
                              · rw [q, goF_e] at c
                                rw [if_pos c.symm, show ((Int.toNat e : Nat) : Int) = e from by omega]
                                all_goals first
                                  | rfl
                                  | exact absurd q (by omega)
                              · rw [goF_l hch 6 y11 (by omega) (by omega) (by omega)] at c
                                rw [if_neg (by omega)]
                                all_goals first
                                  | rfl
                                  | exact absurd (by omega) q)) (show (20 - (wr (e + 1))).toNat < mz from by omega)
      ·
        refine GoN_lv (lv' := [some (vr 235), some (vi v0), some (vi (oI s (slI 1 e))), some (vi (wr (e + 1))), none]) (LvLe.k (LvLe.k (LvLe.k (LvLe.k (LvLe.d LvLe.n))))) ?_
        have n21 : (wr (e + 1)) = e + 1 := wr_id (show -2147483648 ≤ (e + 1 : Int) ∧ (e + 1 : Int) < 2147483648 from by omega)
        exact ih (oI s (slI 1 e)) (wr (e + 1))  (show (0 : Int) ≤ (wr (e + 1)) from by first | with_reducible assumption | omega | (simp only [wr, wl] at *; omega)) (show ((wr (e + 1)) : Int) ≤ 20 from by first | with_reducible assumption | omega | (simp only [wr, wl] at *; omega)) (show (I 236 1) = I 236 1 from by first | omega | (simp only [wr, wl] at *; omega)) (show (wr (e + 1)) ≤ I 236 1 from by first | with_reducible assumption | omega | (simp only [wr, wl] at *; omega)) (show (oI s (slI 1 e)) = hgF (fun j => I 236 (16 + 4 * j)) (fun j => I 236 (188 + 6 * j)) v0 (Int.toNat (wr (e + 1))) from (by
                              have h := cc104
                              have c := c15
                              have h5 := hmt (Int.toNat e) (by omega)
                              rw [show Int.toNat (wr (e + 1)) = Int.toNat e + 1 from by omega, hgF_s, ← h]
                              show _ = oI s (if goF (fun j => I 236 (16 + 4 * j)) v0 6 (I 236 (188 + 6 * Int.toNat e)) = 1 then slI 1 ((Int.toNat e : Nat) : Int) else 0)
                              by_cases q : y11 = v0
                              · rw [q, goF_e] at c
                                rw [if_pos c.symm, show ((Int.toNat e : Nat) : Int) = e from by omega]
                                all_goals first
                                  | rfl
                                  | exact absurd q (by omega)
                              · rw [goF_l hch 6 y11 (by omega) (by omega) (by omega)] at c
                                rw [if_neg (by omega)]
                                all_goals first
                                  | rfl
                                  | exact absurd (by omega) q)) (show (20 - (wr (e + 1))).toNat < mz from by omega)
theorem r_hangs11 (hF : FS F) (hR : Rg I) {v0 : Int} (hch : CHN (fun j => I 236 (16 + 4 * j))) (hmt : ∀ j : Nat, (j : Int) < I 236 1 → 0 ≤ I 236 (188 + 6 * j) ∧ I 236 (188 + 6 * j) ≤ 5) (hQ : ∀ (r : Int) (I' : pI), Rg I' → AR I' → iR r → (∀ k j, ¬ (k = 238) → I' k j = I k j) → ((¬ (0 ≤ v0 ∧ v0 ≤ 5) → r = -1000001) ∧ ((0 ≤ v0 ∧ v0 ≤ 5) → r = hgF (fun j => I 236 (16 + 4 * j)) (fun j => I 236 (188 + 6 * j)) v0 (Int.toNat (I 236 1)))) → Q (some (vi r)) F I') : CallN G (d + 2) kX12_hangs [vr 235, vi v0] NP F I Q := by
  refine CallN_in (fun hok hA => CallN_out ?_)
  have iv0 : -2147483648 ≤ v0 ∧ v0 < 2147483648 := hok (vi v0) (by simp)
  refine Call_wp (lv := [some (vr 235), some (vi v0), none, none, none]) (by decide) ckX12_hangs [18] rfl rfl ?_
  refine s_X12_isMeter (fun (w1 : ((0 : Int) ≤ v0 ∧ (v0 : Int) ≤ 5)) => ?_) (fun (w1 : ¬ ((0 : Int) ≤ v0 ∧ (v0 : Int) ≤ 5)) => ?_)
  ·
    refine ⟨fun _ => ?_, fun c => absurd c (show (¬ (1 : Int) = 0) from by decide)⟩
    have r2 : 0 ≤ (I 236 1) ∧ (I 236 1) ≤ 20 := Rg.n1 hR
    refine r_hang11_l1 hF hR hch hmt (by omega) (fun r g3 hv hA' => hQ _ _ hR hA' (hv _ rfl) (fun _ _ _ => rfl) g3) _ 0 0  (show (0 : Int) ≤ (0 : Int) from Int.le_refl _) (show ((0 : Int) : Int) ≤ 20 from by first | with_reducible assumption | omega | (simp only [wr, wl] at *; omega)) (show (I 236 1) = I 236 1 from by first | omega | (simp only [wr, wl] at *; omega)) (show (0 : Int) ≤ I 236 1 from by first | with_reducible assumption | omega | (simp only [wr, wl] at *; omega)) (show (0 : Int) = hgF (fun j => I 236 (16 + 4 * j)) (fun j => I 236 (188 + 6 * j)) v0 (Int.toNat (0 : Int)) from rfl) (Nat.lt_succ_self _)
  ·
    refine ⟨fun c => absurd (show ((0 : Int) = 0) from by decide) c, fun _ => ?_⟩
    refine ⟨⟨_, rfl, (by decide)⟩, ?_⟩
    refine s_X12_finding hF (v := (-1000001)) (by decide) ?_
    exact ⟨rfl, fun hv hA' => hQ _ _ (Rg.u hR (Pr_f rfl)) hA' (hv _ rfl) (fun ka ja hk => (uI_o (show ¬ (ka = 238 ∧ ja = 1) from by first | (intro e; obtain ⟨rfl, rfl⟩ := e; exact hk (by decide)) | omega))) (show (¬ (0 ≤ v0 ∧ v0 ≤ 5) → (-1000001) = -1000001) ∧ ((0 ≤ v0 ∧ v0 ≤ 5) → (-1000001) = hgF (fun j => I 236 (16 + 4 * j)) (fun j => I 236 (188 + 6 * j)) v0 (Int.toNat (I 236 1))) from by
                              refine ⟨fun z => ?_, fun z => ?_⟩
                              · first | rfl | omega
                              · exfalso; omega)⟩
end HA11
def HGC (v0 r : Int) (I : pI) : Prop := (¬ (0 ≤ v0 ∧ v0 ≤ 5) → r = -1000001) ∧ ((0 ≤ v0 ∧ v0 ≤ 5) → r = hgF (fun j => I 8 j) (fun j => I 15 j) v0 (Int.toNat (I 12 6)))
def HGR (v0 r : Int) (K : pI) : Prop := (¬ (0 ≤ v0 ∧ v0 ≤ 5) → r = -1000001) ∧ ((0 ≤ v0 ∧ v0 ≤ 5) → r = hgF (fun j => K 236 (16 + 4 * j)) (fun j => K 236 (188 + 6 * j)) v0 (Int.toNat (K 236 1)))
theorem CHN_r {I : pI} (hR : Rg I) : CHN (fun j => I 236 (16 + 4 * j)) := fun j hj => by
  have a := Pn_m0 (p := j) (by omega) (by omega) (hR.n (16 + 4 * j) (by omega))
  have b := Pn_mc (p := j) (by omega) (by omega) (hR.n (16 + 4 * j) (by omega))
  show 0 ≤ I 236 (16 + 4 * j) ∧ (I 236 (16 + 4 * j) = 0 ∨ I 236 (16 + 4 * j) < (j : Int))
  omega
theorem CHN_t {O O' : Nat → Int} (h : CHN O) (e : ∀ j, j < 6 → O' j = O j) : CHN O' := fun j hj => by
  rw [e j hj]; exact h j hj
theorem MT_r {I : pI} (hR : Rg I) : ∀ j : Nat, (j : Int) < I 236 1 → 0 ≤ I 236 (188 + 6 * j) ∧ I 236 (188 + 6 * j) ≤ 5 := fun j hj => by
  have a := Rg.n1 hR
  exact Pn_e4 (p := j) (by omega) (by omega) (hR.n (188 + 6 * j) (by omega))
theorem hg_e {I K : pI} {v0 r r' : Int} (hR : Rg K) (e : I 12 6 = K 236 1) (h15 : ∀ j : Nat, j < 20 → I 15 j = K 236 (188 + 6 * j)) (h8 : ∀ j : Nat, j < 6 → I 8 j = K 236 (16 + 4 * j)) (c : HGC v0 r I) (d : HGR v0 r' K) : r = r' := by
  unfold HGC at c
  unfold HGR at d
  rw [← e] at d
  have b := Rg.n1 hR
  have q := hgF_c (O := fun j => K 236 (16 + 4 * j)) (O' := fun j => I 8 j) (M := fun j => K 236 (188 + 6 * j)) (M' := fun j => I 15 j) (CHN_r hR) (fun j hj => (h8 j hj).symm) (a := v0) (Int.toNat (I 12 6)) (fun k hk => ⟨(h15 k (by omega)).symm, MT_r hR k (by omega)⟩)
  rw [q] at d
  by_cases v : 0 ≤ v0 ∧ v0 ≤ 5
  · exact (c.2 v).trans (d.2 v).symm
  · exact (c.1 v).trans (d.1 v).symm
