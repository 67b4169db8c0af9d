/-! what led answers, what prove writes. Own work (scripts laid by wip/pm/gen34.py). -/
section LD
variable {G : pG} {d : Nat} {F : pF} {I : pI} {Q : Option pV → pF → pI → Prop}
def minN (x : Int) : Int := if 2000000000 ≤ x then 2000000000 else x
def stL (u d x : Int) : Int := minN (wl (Int.tdiv (wl (x * u)) d))
/-- a number led to the house along the chain -/
def lgF (o u d : Nat → Int) : Nat → Int → Int → Int
  | 0, _, x => x
  | k + 1, m, x => if 0 < m then lgF o u d k (o m.toNat) (stL (u m.toNat) (d m.toNat) x) else x
def dbF (o u d b : Nat → Int) : Nat → Int → Int → Int
  | 0, _, a => a
  | k + 1, m, a => if 0 < m then dbF o u d b k (o m.toNat) (wl (a + wr (lgF o u d 6 m (b m.toNat)))) else a
theorem lgF_s {o u d : Nat → Int} {k : Nat} {m x : Int} (h : 0 < m) : lgF o u d (k + 1) m x = lgF o u d k (o m.toNat) (stL (u m.toNat) (d m.toNat) x) := by
  show (if 0 < m then _ else _) = _
  rw [if_pos h]
theorem lgF_e {o u d : Nat → Int} {k : Nat} {m x : Int} (h : k = 0 ∨ ¬ 0 < m) : lgF o u d k m x = x := by
  cases k with
  | zero => rfl
  | succ k =>
    show (if 0 < m then _ else _) = _
    rw [if_neg (by omega)]
theorem dbF_s {o u d b : Nat → Int} {k : Nat} {m a : Int} (h : 0 < m) : dbF o u d b (k + 1) m a = dbF o u d b k (o m.toNat) (wl (a + wr (lgF o u d 6 m (b m.toNat)))) := by
  show (if 0 < m then _ else _) = _
  rw [if_pos h]
theorem dbF_e {o u d b : Nat → Int} {k : Nat} {m a : Int} (h : k = 0 ∨ ¬ 0 < m) : dbF o u d b k m a = a := by
  cases k with
  | zero => rfl
  | succ k =>
    show (if 0 < m then _ else _) = _
    rw [if_neg (by omega)]
theorem lgF_k {o u d : Nat → Int} (hd : ∀ j : Nat, 0 < j → j < 6 → 0 ≤ o j ∧ o j < j) : ∀ (k : Nat) (m x : Int), m < 6 → m.toNat ≤ k → lgF o u d k m x = lgF o u d (k + 1) m x := by
  intro k
  induction k with
  | zero => intro m x _ h; rw [lgF_e (Or.inl rfl), lgF_e (Or.inr (by omega))]
  | succ k ih =>
    intro m x h1 h2
    by_cases h : 0 < m
    · have z := hd m.toNat (by omega) (by omega)
      rw [lgF_s h, lgF_s h]
      exact ih _ _ (by omega) (by omega)
    · rw [lgF_e (Or.inr h), lgF_e (Or.inr h)]
theorem dbF_k {o u d b : Nat → Int} (hd : ∀ j : Nat, 0 < j → j < 6 → 0 ≤ o j ∧ o j < j) : ∀ (k : Nat) (m x : Int), m < 6 → m.toNat ≤ k → dbF o u d b k m x = dbF o u d b (k + 1) m x := by
  intro k
  induction k with
  | zero => intro m x _ h; rw [dbF_e (Or.inl rfl), dbF_e (Or.inr (by omega))]
  | succ k ih =>
    intro m x h1 h2
    by_cases h : 0 < m
    · have z := hd m.toNat (by omega) (by omega)
      rw [dbF_s h, dbF_s h]
      exact ih _ _ (by omega) (by omega)
    · rw [dbF_e (Or.inr h), dbF_e (Or.inr h)]
theorem lgF_c {o u d o2 u2 d2 : Nat → Int} (h0 : ∀ j : Nat, j < 6 → o j < 6) (h1 : ∀ j : Nat, j < 6 → o j = o2 j) (h2 : ∀ j : Nat, j < 6 → u j = u2 j) (h3 : ∀ j : Nat, j < 6 → d j = d2 j) : ∀ (k : Nat) (m x : Int), m < 6 → lgF o u d k m x = lgF o2 u2 d2 k m x := by
  intro k
  induction k with
  | zero => intro m x _; rfl
  | succ k ih =>
    intro m x hm
    by_cases h : 0 < m
    · rw [lgF_s h, lgF_s h, ← h1 m.toNat (by omega), ← h2 m.toNat (by omega), ← h3 m.toNat (by omega)]
      exact ih _ _ (h0 _ (by omega))
    · rw [lgF_e (Or.inr h), lgF_e (Or.inr h)]
theorem dbF_c {o u d b o2 u2 d2 b2 : Nat → Int} (h0 : ∀ j : Nat, j < 6 → o j < 6) (h1 : ∀ j : Nat, j < 6 → o j = o2 j) (h2 : ∀ j : Nat, j < 6 → u j = u2 j) (h3 : ∀ j : Nat, j < 6 → d j = d2 j) (h4 : ∀ j : Nat, j < 6 → b j = b2 j) : ∀ (k : Nat) (m x : Int), m < 6 → dbF o u d b k m x = dbF o2 u2 d2 b2 k m x := by
  intro k
  induction k with
  | zero => intro m x _; rfl
  | succ k ih =>
    intro m x hm
    by_cases h : 0 < m
    · rw [dbF_s h, dbF_s h, ← h1 m.toNat (by omega), ← h4 m.toNat (by omega), ← lgF_c h0 h1 h2 h3 6 _ _ hm]
      exact ih _ _ (h0 _ (by omega))
    · rw [dbF_e (Or.inr h), dbF_e (Or.inr h)]
theorem mt_dec {I : pI} (hR : Rg I) : ∀ j : Nat, 0 < j → j < 6 → 0 ≤ I 236 (16 + 4 * j) ∧ I 236 (16 + 4 * j) < j := fun j h1 h2 => by
  have a := Pn_m0 (p := j) (by omega) (by omega) (hR.n (16 + 4 * j) (by omega))
  have b := Pn_mc (p := j) (by omega) (by omega) (hR.n (16 + 4 * j) (by omega))
  omega
theorem c_ledOnce8 (hF : FS F) (hR : Rg I) {v0 v1 : Int} (hp : 0 ≤ v0 ∧ v0 ≤ 5) (hd : ∀ j : Nat, j < 6 → 1 ≤ I 10 j ∧ I 10 j ≤ 99) (hQ : ∀ r : Int, lR r → (r = stL (I 9 (Int.toNat v0)) (I 10 (Int.toNat v0)) v1) → Q (some (vl r)) F I) : CallN G (d + 2) kX2_ledOnce [vr 7, vi v0, vl v1] NP F I Q := by
  refine CallN_in (fun hok hA => CallN_out ?_)
  have iv0 : -2147483648 ≤ v0 ∧ v0 < 2147483648 := hok (vi v0) (by simp)
  have iv1 : -9223372036854775808 ≤ v1 ∧ v1 < 9223372036854775808 := hok (vl v1) (by simp)
  refine Call_wp (lv := [some (vr 7), some (vi v0), some (vl v1), none]) (by decide) ckX2_ledOnce [] rfl rfl ?_
  refine s_X11_isMeter (fun _ => ?_) (fun hw => absurd (show ((0 : Int) ≤ v0 ∧ (v0 : Int) ≤ 5) from by first | omega | (simp only [wr, wl] at *; omega)) hw)
  refine ⟨fun c => absurd c (show (¬ ((1 : Int) = 0)) from by decide), fun _ => ?_⟩
  refine ⟨_, rfl, (by decide), ?_⟩
  refine fun w0 hw0 => ?_; obtain rfl : w0 = some 10 := hw0.symm.trans (FS.g hF rfl)
  refine ⟨_, rfl, (by decide), (show (0 : Int) ≤ v0 from by first | omega | (simp only [wr, wl] at *; omega)), (show v0 < (6 : Int) from by first | omega | (simp only [wr, wl] at *; omega)), ?_⟩
  have r1 : 1 ≤ (I 10 (Int.toNat v0)) ∧ (I 10 (Int.toNat v0)) ≤ 99 := hd _ (by omega)
  have a2 : -2147483648 ≤ (I 10 (Int.toNat v0)) ∧ (I 10 (Int.toNat v0)) < 2147483648 := hA.1 _ _
  refine ⟨fun _ => ?_, fun c => absurd (show ((1 : Int) ≤ (I 10 (Int.toNat v0))) from by first | omega | (simp only [wr, wl] at *; omega)) c⟩
  refine ⟨_, rfl, (by decide), ?_⟩
  refine fun w0 hw0 => ?_; obtain rfl : w0 = some 9 := hw0.symm.trans (FS.g hF rfl)
  refine ⟨_, rfl, (by decide), (show (0 : Int) ≤ v0 from by first | omega | (simp only [wr, wl] at *; omega)), (show v0 < (6 : Int) from by first | omega | (simp only [wr, wl] at *; omega)), ?_⟩
  refine ⟨_, rfl, (by decide), ?_⟩
  refine fun w0 hw0 => ?_; obtain rfl : w0 = some 10 := hw0.symm.trans (FS.g hF rfl)
  refine ⟨_, rfl, (by decide), (show (0 : Int) ≤ v0 from by first | omega | (simp only [wr, wl] at *; omega)), (show v0 < (6 : Int) from by first | omega | (simp only [wr, wl] at *; omega)), ?_⟩
  refine ⟨(show ¬ ((I 10 (Int.toNat v0)) : Int) = 0 from by first | omega | (simp only [wr, wl] at *; omega)), ?_⟩
  have a3 : -2147483648 ≤ (I 9 (Int.toNat v0)) ∧ (I 9 (Int.toNat v0)) < 2147483648 := hA.1 _ _
  refine j_minL (fun w4 h5 h6 h7 => ?_)
  exact ⟨rfl, fun hv hA' => hQ _ (hv _ rfl) ((by unfold stL minN; split <;> omega))⟩
theorem c_ledTo8_l (hF : FS F) (hR : Rg I) {v0 v1 : Int} (hp : 0 ≤ v0 ∧ v0 ≤ 5) (ho : ∀ j : Nat, j < 6 → 0 ≤ I 8 j ∧ I 8 j ≤ 5) (hd : ∀ j : Nat, j < 6 → 1 ≤ I 10 j ∧ I 10 j ≤ 99) (hQ : ∀ (r : Int) , (r = wr (lgF (I 8) (I 9) (I 10) 6 v0 v1)) → Q (some (vi r)) F I) : ∀ (mz : Nat) (le m i : Int) , ((0 : Int) ≤ m) → ((m : Int) ≤ 5) → ((0 : Int) ≤ i) → ((i : Int) ≤ 6) → (lgF (I 8) (I 9) (I 10) (6 - Int.toNat i) m le = lgF (I 8) (I 9) (I 10) 6 v0 v1) → (6 - i).toNat < mz → GoN G (d + 3) kX2_ledToHouse NP NP 9 [some (vr 7), some (vi v0), some (vi v1), some (vl le), none, some (vi m), some (vi i)] [] F I Q := by
  intro mz
  induction mz with
  | zero => intro le m i _ _ _ _ _ h; exact absurd h (Nat.not_lt_zero _)
  | succ mz ih =>
    intro le m i c100 c101 c102 c103 c104 hm
    refine GoN_in (fun hok hA => ?_)
    have iiv0 : -2147483648 ≤ v0 ∧ v0 < 2147483648 := hok 1 _ rfl
    have iiv1 : -2147483648 ≤ v1 ∧ v1 < 2147483648 := hok 2 _ rfl
    have iile : -9223372036854775808 ≤ le ∧ le < 9223372036854775808 := hok 3 _ rfl
    have iim : -2147483648 ≤ m ∧ m < 2147483648 := hok 5 _ rfl
    have iii : -2147483648 ≤ i ∧ i < 2147483648 := hok 6 _ rfl
    refine Go_wp (by decide) ckX2_ledToHouse [9] ?_
    refine ⟨fun (c1 : ((6 : Int) ≤ i)) => ?_, fun (c1 : (¬ ((6 : Int) ≤ i))) => ?_⟩
    ·
      exact ⟨rfl, hQ _ ((congrArg wr ((lgF_e (by omega)).symm.trans c104)))⟩
    ·
      refine ⟨fun (c2 : ((m : Int) ≤ 0)) => ?_, fun (c2 : (¬ ((m : Int) ≤ 0))) => ?_⟩
      ·
        exact ⟨rfl, hQ _ ((congrArg wr ((lgF_e (by omega)).symm.trans c104)))⟩
      ·
        refine ⟨⟨_, rfl, (by decide)⟩, ?_⟩
        refine c_ledOnce8 (v0 := m) (v1 := le) hF hR (by omega) hd (fun vr3 hr4 qr5 => ?_)
        have hr4 : -9223372036854775808 ≤ vr3 ∧ vr3 < 9223372036854775808 := hr4
        refine ⟨⟨_, rfl, (by decide)⟩, ?_⟩
        refine Call_wp (lv := [some (vr 7), some (vi m)]) (by decide) ckX2_otherOf [] rfl rfl ?_
        refine s_X11_isMeter (fun _ => ?_) (fun hw => absurd (show ((0 : Int) ≤ m ∧ (m : Int) ≤ 5) from by first | omega | (simp only [wr, wl] at *; omega)) hw)
        refine ⟨fun c => absurd c (show (¬ ((1 : Int) = 0)) from by decide), fun _ => ?_⟩
        refine ⟨_, rfl, (by decide), ?_⟩
        refine fun w0 hw0 => ?_; obtain rfl : w0 = some 8 := hw0.symm.trans (FS.g hF rfl)
        refine ⟨_, rfl, (by decide), (show (0 : Int) ≤ m from by first | omega | (simp only [wr, wl] at *; omega)), (show m < (6 : Int) from by first | omega | (simp only [wr, wl] at *; omega)), ?_⟩
        have r6 : 0 ≤ (I 8 (Int.toNat m)) ∧ (I 8 (Int.toNat m)) ≤ 5 := ho _ (by omega)
        refine ⟨rfl, ?_⟩
        have a7 : -2147483648 ≤ (I 8 (Int.toNat m)) ∧ (I 8 (Int.toNat m)) < 2147483648 := hA.1 _ _
        have n8 : (wr (i + 1)) = i + 1 := wr_id (show -2147483648 ≤ (i + 1 : Int) ∧ (i + 1 : Int) < 2147483648 from by omega)
        exact ih vr3 (I 8 (Int.toNat m)) (wr (i + 1))  (show (0 : Int) ≤ (I 8 (Int.toNat m)) from by first | omega | (simp only [wr, wl] at *; omega)) (show ((I 8 (Int.toNat m)) : Int) ≤ 5 from by first | omega | (simp only [wr, wl] at *; omega)) (show (0 : Int) ≤ (wr (i + 1)) from by first | omega | (simp only [wr, wl] at *; omega)) (show ((wr (i + 1)) : Int) ≤ 6 from by first | omega | (simp only [wr, wl] at *; omega)) ((by
                              have z := c104
                              rw [show 6 - Int.toNat i = (5 - Int.toNat i) + 1 from by omega, lgF_s (by omega), ← qr5] at z
                              rw [show 6 - Int.toNat (wr (i + 1)) = 5 - Int.toNat i from by omega]
                              exact z)) (show (6 - (wr (i + 1))).toNat < mz from by omega)
theorem c_ledTo8 (hF : FS F) (hR : Rg I) {v0 v1 : Int} (hp : 0 ≤ v0 ∧ v0 ≤ 5) (ho : ∀ j : Nat, j < 6 → 0 ≤ I 8 j ∧ I 8 j ≤ 5) (hd : ∀ j : Nat, j < 6 → 1 ≤ I 10 j ∧ I 10 j ≤ 99) (hQ : ∀ r : Int, iR r → (r = wr (lgF (I 8) (I 9) (I 10) 6 v0 v1)) → Q (some (vi r)) F I) : CallN G (d + 3) kX2_ledToHouse [vr 7, vi v0, vi v1] NP F I Q := by
  refine CallN_in (fun hok hA => CallN_out ?_)
  have iv0 : -2147483648 ≤ v0 ∧ v0 < 2147483648 := hok (vi v0) (by simp)
  have iv1 : -2147483648 ≤ v1 ∧ v1 < 2147483648 := hok (vi v1) (by simp)
  refine Call_wp (lv := [some (vr 7), some (vi v0), some (vi v1), none, none, none, none]) (by decide) ckX2_ledToHouse [9] rfl rfl ?_
  refine c_ledTo8_l hF hR (by omega) ho hd (fun r g3 hv hA' => hQ _ (hv _ rfl) g3) _ v1 v0 0  (show (0 : Int) ≤ v0 from by first | omega | (simp only [wr, wl] at *; omega)) (show (v0 : Int) ≤ 5 from by first | omega | (simp only [wr, wl] at *; omega)) (show (0 : Int) ≤ (0 : Int) from by first | omega | (simp only [wr, wl] at *; omega)) (show ((0 : Int) : Int) ≤ 6 from by first | omega | (simp only [wr, wl] at *; omega)) (rfl) (Nat.lt_succ_self _)
theorem c_doubt8_l (hF : FS F) (hR : Rg I) {v0 : Int} (hp : 0 ≤ v0 ∧ v0 ≤ 5) (ho : ∀ j : Nat, j < 6 → 0 ≤ I 8 j ∧ I 8 j ≤ 5) (hd : ∀ j : Nat, j < 6 → 1 ≤ I 10 j ∧ I 10 j ≤ 99) (hQ : ∀ (r : Int) , (r = wr (minN (dbF (I 8) (I 9) (I 10) (I 11) 6 v0 0))) → Q (some (vi r)) F I) : ∀ (mz : Nat) (al m i : Int) , ((0 : Int) ≤ m) → ((m : Int) ≤ 5) → ((0 : Int) ≤ i) → ((i : Int) ≤ 6) → (dbF (I 8) (I 9) (I 10) (I 11) (6 - Int.toNat i) m al = dbF (I 8) (I 9) (I 10) (I 11) 6 v0 0) → (6 - i).toNat < mz → GoN G (d + 4) kX2_doubtOf NP NP 8 [some (vr 7), some (vi v0), some (vl al), none, some (vi m), some (vi i)] [] F I Q := by
  intro mz
  induction mz with
  | zero => intro al m i _ _ _ _ _ h; exact absurd h (Nat.not_lt_zero _)
  | succ mz ih =>
    intro al m i c100 c101 c102 c103 c104 hm
    refine GoN_in (fun hok hA => ?_)
    have iiv0 : -2147483648 ≤ v0 ∧ v0 < 2147483648 := hok 1 _ rfl
    have iial : -9223372036854775808 ≤ al ∧ al < 9223372036854775808 := hok 2 _ rfl
    have iim : -2147483648 ≤ m ∧ m < 2147483648 := hok 4 _ rfl
    have iii : -2147483648 ≤ i ∧ i < 2147483648 := hok 5 _ rfl
    refine Go_wp (by decide) ckX2_doubtOf [8] ?_
    refine ⟨fun (c1 : ((6 : Int) ≤ i)) => ?_, fun (c1 : (¬ ((6 : Int) ≤ i))) => ?_⟩
    ·
      refine j_minL (fun w2 h3 h4 h5 => ?_)
      exact ⟨rfl, hQ _ ((congrArg wr (by
                              show w2 = _
                              rw [show dbF (I 8) (I 9) (I 10) (I 11) 6 v0 0 = al from c104.symm.trans (dbF_e (by omega))]
                              unfold minN; split <;> omega)))⟩
    ·
      refine ⟨fun (c6 : ((m : Int) ≤ 0)) => ?_, fun (c6 : (¬ ((m : Int) ≤ 0))) => ?_⟩
      ·
        refine j_minL (fun w7 h8 h9 h10 => ?_)
        exact ⟨rfl, hQ _ ((congrArg wr (by
                              show w7 = _
                              rw [show dbF (I 8) (I 9) (I 10) (I 11) 6 v0 0 = al from c104.symm.trans (dbF_e (by omega))]
                              unfold minN; split <;> omega)))⟩
      ·
        refine s_X11_isMeter (fun _ => ?_) (fun hw => absurd (show ((0 : Int) ≤ m ∧ (m : Int) ≤ 5) from by first | omega | (simp only [wr, wl] at *; omega)) hw)
        refine ⟨fun c => absurd c (show (¬ ((1 : Int) = 0)) from by decide), fun _ => ?_⟩
        refine ⟨_, rfl, (by decide), ?_⟩
        refine fun w0 hw0 => ?_; obtain rfl : w0 = some 11 := hw0.symm.trans (FS.g hF rfl)
        refine ⟨_, rfl, (by decide), (show (0 : Int) ≤ m from by first | omega | (simp only [wr, wl] at *; omega)), (show m < (6 : Int) from by first | omega | (simp only [wr, wl] at *; omega)), ?_⟩
        refine ⟨⟨_, rfl, (by decide)⟩, ?_⟩
        have a11 : -2147483648 ≤ (I 11 (Int.toNat m)) ∧ (I 11 (Int.toNat m)) < 2147483648 := hA.1 _ _
        refine c_ledTo8 (v0 := m) (v1 := (I 11 (Int.toNat m))) hF hR (by omega) ho hd (fun vr12 hr13 qr14 => ?_)
        have hr13 : -2147483648 ≤ vr12 ∧ vr12 < 2147483648 := hr13
        refine ⟨⟨_, rfl, (by decide)⟩, ?_⟩
        refine Call_wp (lv := [some (vr 7), some (vi m)]) (by decide) ckX2_otherOf [] rfl rfl ?_
        refine s_X11_isMeter (fun _ => ?_) (fun hw => absurd (show ((0 : Int) ≤ m ∧ (m : Int) ≤ 5) from by first | omega | (simp only [wr, wl] at *; omega)) hw)
        refine ⟨fun c => absurd c (show (¬ ((1 : Int) = 0)) from by decide), fun _ => ?_⟩
        refine ⟨_, rfl, (by decide), ?_⟩
        refine fun w0 hw0 => ?_; obtain rfl : w0 = some 8 := hw0.symm.trans (FS.g hF rfl)
        refine ⟨_, rfl, (by decide), (show (0 : Int) ≤ m from by first | omega | (simp only [wr, wl] at *; omega)), (show m < (6 : Int) from by first | omega | (simp only [wr, wl] at *; omega)), ?_⟩
        have r15 : 0 ≤ (I 8 (Int.toNat m)) ∧ (I 8 (Int.toNat m)) ≤ 5 := ho _ (by omega)
        refine ⟨rfl, ?_⟩
        have a16 : -2147483648 ≤ (I 8 (Int.toNat m)) ∧ (I 8 (Int.toNat m)) < 2147483648 := hA.1 _ _
        have n17 : (wr (i + 1)) = i + 1 := wr_id (show -2147483648 ≤ (i + 1 : Int) ∧ (i + 1 : Int) < 2147483648 from by omega)
        exact ih (wl (al + vr12)) (I 8 (Int.toNat m)) (wr (i + 1))  (show (0 : Int) ≤ (I 8 (Int.toNat m)) from by first | omega | (simp only [wr, wl] at *; omega)) (show ((I 8 (Int.toNat m)) : Int) ≤ 5 from by first | omega | (simp only [wr, wl] at *; omega)) (show (0 : Int) ≤ (wr (i + 1)) from by first | omega | (simp only [wr, wl] at *; omega)) (show ((wr (i + 1)) : Int) ≤ 6 from by first | omega | (simp only [wr, wl] at *; omega)) ((by
                              have z := c104
                              rw [show 6 - Int.toNat i = (5 - Int.toNat i) + 1 from by omega, dbF_s (by omega), ← qr14] at z
                              rw [show 6 - Int.toNat (wr (i + 1)) = 5 - Int.toNat i from by omega]
                              exact z)) (show (6 - (wr (i + 1))).toNat < mz from by omega)
theorem c_doubt8 (hF : FS F) (hR : Rg I) {v0 : Int} (hp : 0 ≤ v0 ∧ v0 ≤ 5) (ho : ∀ j : Nat, j < 6 → 0 ≤ I 8 j ∧ I 8 j ≤ 5) (hd : ∀ j : Nat, j < 6 → 1 ≤ I 10 j ∧ I 10 j ≤ 99) (hQ : ∀ r : Int, iR r → (r = wr (minN (dbF (I 8) (I 9) (I 10) (I 11) 6 v0 0))) → Q (some (vi r)) F I) : CallN G (d + 4) kX2_doubtOf [vr 7, vi v0] NP F I Q := by
  refine CallN_in (fun hok hA => CallN_out ?_)
  have iv0 : -2147483648 ≤ v0 ∧ v0 < 2147483648 := hok (vi v0) (by simp)
  refine Call_wp (lv := [some (vr 7), some (vi v0), none, none, none, none]) (by decide) ckX2_doubtOf [8] rfl rfl ?_
  refine c_doubt8_l hF hR (by omega) ho hd (fun r g3 hv hA' => hQ _ (hv _ rfl) g3) _ 0 v0 0  (show (0 : Int) ≤ v0 from by first | omega | (simp only [wr, wl] at *; omega)) (show (v0 : Int) ≤ 5 from by first | omega | (simp only [wr, wl] at *; omega)) (show (0 : Int) ≤ (0 : Int) from by first | omega | (simp only [wr, wl] at *; omega)) (show ((0 : Int) : Int) ≤ 6 from by first | omega | (simp only [wr, wl] at *; omega)) (rfl) (Nat.lt_succ_self _)
theorem c_led8 (hF : FS F) (hR : Rg I) {v0 v1 v2 : Int} (ho : ∀ j : Nat, j < 6 → 0 ≤ I 8 j ∧ I 8 j ≤ 5) (hd : ∀ j : Nat, j < 6 → 1 ≤ I 10 j ∧ I 10 j ≤ 99) (hQ : ∀ (r : Int) (I' : pI), Rg I' → AR I' → iR r → (∀ k j, ¬ (k = 203) → I' k j = I k j) → ((¬ ((0 ≤ v0 ∧ v0 ≤ 5) ∧ (0 ≤ v1 ∧ v1 ≤ 99999) ∧ 0 ≤ v2 ∧ v2 ≤ 1) → r = -1000001) ∧ (((0 ≤ v0 ∧ v0 ≤ 5) ∧ (0 ≤ v1 ∧ v1 ≤ 99999) ∧ 0 ≤ v2 ∧ v2 ≤ 1) → (v2 = 0 → r = wr (lgF (I 8) (I 9) (I 10) 6 v0 v1)) ∧ (¬ v2 = 0 → r = wr (minN (dbF (I 8) (I 9) (I 10) (I 11) 6 v0 0))))) → Q (some (vi r)) F I') : CallN G (d + 5) kX11_led [vr 0, vi v0, vi v1, vi v2] NP F I Q := by
  refine CallN_in (fun hok hA => CallN_out ?_)
  have iv0 : -2147483648 ≤ v0 ∧ v0 < 2147483648 := hok (vi v0) (by simp)
  have iv1 : -2147483648 ≤ v1 ∧ v1 < 2147483648 := hok (vi v1) (by simp)
  have iv2 : -2147483648 ≤ v2 ∧ v2 < 2147483648 := hok (vi v2) (by simp)
  refine Call_wp (lv := [some (vr 0), some (vi v0), some (vi v1), some (vi v2)]) (by decide) ckX11_led [] rfl rfl ?_
  refine s_X11_isMeter (fun (w1 : ((0 : Int) ≤ v0 ∧ (v0 : Int) ≤ 5)) => ?_) (fun (w1 : ¬ ((0 : Int) ≤ v0 ∧ (v0 : Int) ≤ 5)) => ?_)
  ·
    refine ⟨fun c => absurd c (show (¬ ((1 : Int) = 0)) from by decide), fun _ => ?_⟩
    refine s_X11_within (fun (w2 : ((0 : Int) ≤ v1 ∧ (v1 : Int) ≤ 99999)) => ?_) (fun (w2 : ¬ ((0 : Int) ≤ v1 ∧ (v1 : Int) ≤ 99999)) => ?_)
    ·
      refine ⟨fun c => absurd c (show (¬ ((1 : Int) = 0)) from by decide), fun _ => ?_⟩
      refine s_X11_within (fun (w3 : ((0 : Int) ≤ v2 ∧ (v2 : Int) ≤ 1)) => ?_) (fun (w3 : ¬ ((0 : Int) ≤ v2 ∧ (v2 : Int) ≤ 1)) => ?_)
      ·
        refine ⟨fun _ => ?_, fun c => absurd c (show (¬ (1 : Int) = 0) from by decide)⟩
        refine ⟨fun (c4 : (¬ (v2 : Int) = 0)) => ?_, fun (c4 : ((v2 : Int) = 0)) => ?_⟩
        ·
          refine ⟨_, rfl, (by decide), ?_⟩
          refine fun w0 hw0 => ?_; obtain rfl : w0 = some 1 := hw0.symm.trans (FS.g hF rfl)
          refine ⟨_, rfl, (by decide), ?_⟩
          refine fun w0 hw0 => ?_; obtain rfl : w0 = some 7 := hw0.symm.trans (FS.g hF rfl)
          refine ⟨⟨_, rfl, (by decide)⟩, ?_⟩
          refine c_doubt8 (v0 := v0) hF hR (by omega) ho hd (fun vr5 hr6 qr7 => ?_)
          have hr6 : -2147483648 ≤ vr5 ∧ vr5 < 2147483648 := hr6
          exact ⟨rfl, fun hv hA' => hQ _ _ hR hA' (hv _ rfl) (fun _ _ _ => rfl) (⟨fun z => absurd (by omega) z, fun _ => ⟨fun z => absurd z (by omega), fun z => qr7⟩⟩)⟩
        ·
          refine ⟨_, rfl, (by decide), ?_⟩
          refine fun w0 hw0 => ?_; obtain rfl : w0 = some 1 := hw0.symm.trans (FS.g hF rfl)
          refine ⟨_, rfl, (by decide), ?_⟩
          refine fun w0 hw0 => ?_; obtain rfl : w0 = some 7 := hw0.symm.trans (FS.g hF rfl)
          refine ⟨⟨_, rfl, (by decide)⟩, ?_⟩
          refine c_ledTo8 (v0 := v0) (v1 := v1) hF hR (by omega) ho hd (fun vr8 hr9 qr10 => ?_)
          have hr9 : -2147483648 ≤ vr8 ∧ vr8 < 2147483648 := hr9
          exact ⟨rfl, fun hv hA' => hQ _ _ hR hA' (hv _ rfl) (fun _ _ _ => rfl) (⟨fun z => absurd (by omega) z, fun _ => ⟨fun z => qr10, fun z => absurd (by omega) z⟩⟩)⟩
      ·
        refine ⟨fun c => absurd (show ((0 : Int) = 0) from by decide) c, fun _ => ?_⟩
        refine ⟨⟨_, rfl, (by decide)⟩, ?_⟩
        refine s_X11_refuse hF (e := 1) (by decide) ?_
        exact ⟨rfl, fun hv hA' => hQ _ _ (Rg.u hR (Pr_f rfl)) hA' (hv _ rfl) (fun ka ja hk => (uI_o (show ¬ (ka = 203 ∧ ja = 1) from by omega))) (⟨fun _ => rfl, fun z => absurd z (by omega)⟩)⟩
    ·
      refine ⟨fun _ => ?_, fun c => absurd (show ((0 : Int) = 0) from by decide) c⟩
      refine ⟨⟨_, rfl, (by decide)⟩, ?_⟩
      refine s_X11_refuse hF (e := 1) (by decide) ?_
      exact ⟨rfl, fun hv hA' => hQ _ _ (Rg.u hR (Pr_f rfl)) hA' (hv _ rfl) (fun ka ja hk => (uI_o (show ¬ (ka = 203 ∧ ja = 1) from by omega))) (⟨fun _ => rfl, fun z => absurd z (by omega)⟩)⟩
  ·
    refine ⟨fun _ => ?_, fun c => absurd (show ((0 : Int) = 0) from by decide) c⟩
    refine ⟨⟨_, rfl, (by decide)⟩, ?_⟩
    refine s_X11_refuse hF (e := 1) (by decide) ?_
    exact ⟨rfl, fun hv hA' => hQ _ _ (Rg.u hR (Pr_f rfl)) hA' (hv _ rfl) (fun ka ja hk => (uI_o (show ¬ (ka = 203 ∧ ja = 1) from by omega))) (⟨fun _ => rfl, fun z => absurd z (by omega)⟩)⟩
theorem r_ledOf8_l (hF : FS F) (hR : Rg I) {v0 v1 : Int} (hp : 0 ≤ v0 ∧ v0 ≤ 5) (hQ : ∀ (r : Int) , (r = wr (lgF (fun j => I 236 (16 + 4 * j)) (fun j => I 236 (17 + 4 * j)) (fun j => I 236 (18 + 4 * j)) 6 v0 v1)) → Q (some (vi r)) F I) : ∀ (mz : Nat) (le m : Int) , ((0 : Int) ≤ m) → ((m : Int) ≤ 5) → (lgF (fun j => I 236 (16 + 4 * j)) (fun j => I 236 (17 + 4 * j)) (fun j => I 236 (18 + 4 * j)) 6 m le = lgF (fun j => I 236 (16 + 4 * j)) (fun j => I 236 (17 + 4 * j)) (fun j => I 236 (18 + 4 * j)) 6 v0 v1) → (m).toNat < mz → GoN G (d + 1) kX12_ledOf NP NP 6 [some (vr 235), some (vi v0), some (vi v1), some (vl le), none, some (vi m)] [] F I Q := by
  intro mz
  induction mz with
  | zero => intro le m _ _ _ h; exact absurd h (Nat.not_lt_zero _)
  | succ mz ih =>
    intro le m c100 c101 c102 hm
    refine GoN_in (fun hok hA => ?_)
    have iiv0 : -2147483648 ≤ v0 ∧ v0 < 2147483648 := hok 1 _ rfl
    have iiv1 : -2147483648 ≤ v1 ∧ v1 < 2147483648 := hok 2 _ rfl
    have iile : -9223372036854775808 ≤ le ∧ le < 9223372036854775808 := hok 3 _ rfl
    have iim : -2147483648 ≤ m ∧ m < 2147483648 := hok 5 _ rfl
    refine Go_wp (by decide) ckX12_ledOf [6] ?_
    refine ⟨fun (c1 : ((m : Int) ≤ 0)) => ?_, fun (c1 : (¬ ((m : Int) ≤ 0))) => ?_⟩
    ·
      exact ⟨rfl, hQ _ ((congrArg wr ((lgF_e (by omega)).symm.trans c102)))⟩
    ·
      refine ⟨⟨_, rfl, (by decide)⟩, ?_⟩
      refine r_meter (p := m) (f := 1) hF (j := (Int.toNat (17 + 4 * m))) (by omega) (by omega) (by omega) (fun w2 hw3 => ?_)
      have hw3 : w2 = (I 236 (Int.toNat (17 + 4 * m))) := hw3
      refine ⟨⟨_, rfl, (by decide)⟩, ?_⟩
      refine r_meter (p := m) (f := 2) hF (j := (Int.toNat (18 + 4 * m))) (by omega) (by omega) (by omega) (fun w4 hw5 => ?_)
      have r6 : 1 ≤ (I 236 (Int.toNat (18 + 4 * m))) ∧ (I 236 (Int.toNat (18 + 4 * m))) ≤ 99 := Pn_m2 (p := (Int.toNat m)) (by omega) (by omega) (hR.n (Int.toNat (18 + 4 * m)) (by omega))
      have hw5 : w4 = (I 236 (Int.toNat (18 + 4 * m))) := hw5
      have a7 : -2147483648 ≤ (I 236 (Int.toNat (18 + 4 * m))) ∧ (I 236 (Int.toNat (18 + 4 * m))) < 2147483648 := hA.1 _ _
      refine ⟨(show ¬ (w4 : Int) = 0 from by first | omega | (simp only [wr, wl] at *; omega)), ?_⟩
      have a8 : -2147483648 ≤ (I 236 (Int.toNat (17 + 4 * m))) ∧ (I 236 (Int.toNat (17 + 4 * m))) < 2147483648 := hA.1 _ _
      refine j_minL (fun w9 h10 h11 h12 => ?_)
      refine ⟨⟨_, rfl, (by decide)⟩, ?_⟩
      refine r_meter (p := m) (f := 0) hF (j := (Int.toNat (16 + 4 * m))) (by omega) (by omega) (by omega) (fun w13 hw14 => ?_)
      have r15 : (I 236 (Int.toNat (16 + 4 * m))) = 0 ∨ (I 236 (Int.toNat (16 + 4 * m))) < (Int.toNat m : Int) := Pn_mc (p := (Int.toNat m)) (by omega) (by omega) (hR.n (Int.toNat (16 + 4 * m)) (by omega))
      have r16 : 0 ≤ (I 236 (Int.toNat (16 + 4 * m))) ∧ (I 236 (Int.toNat (16 + 4 * m))) ≤ 5 := Pn_m0 (p := (Int.toNat m)) (by omega) (by omega) (hR.n (Int.toNat (16 + 4 * m)) (by omega))
      have hw14 : w13 = (I 236 (Int.toNat (16 + 4 * m))) := hw14
      have a17 : -2147483648 ≤ (I 236 (Int.toNat (16 + 4 * m))) ∧ (I 236 (Int.toNat (16 + 4 * m))) < 2147483648 := hA.1 _ _
      exact ih w9 w13  (show (0 : Int) ≤ w13 from by first | omega | (simp only [wr, wl] at *; omega)) (show (w13 : Int) ≤ 5 from by first | omega | (simp only [wr, wl] at *; omega)) ((by
                              have e0 : I 236 (16 + 4 * m.toNat) = w13 := (congrArg (I 236) (by omega)).trans hw14.symm
                              have e1 : I 236 (17 + 4 * m.toNat) = w2 := (congrArg (I 236) (by omega)).trans hw3.symm
                              have e2 : I 236 (18 + 4 * m.toNat) = w4 := (congrArg (I 236) (by omega)).trans hw5.symm
                              have hz := mt_dec hR m.toNat (by omega) (by omega)
                              rw [e0] at hz
                              have z : lgF (fun j => I 236 (16 + 4 * j)) (fun j => I 236 (17 + 4 * j)) (fun j => I 236 (18 + 4 * j)) (5 + 1) m le = _ := c102
                              rw [lgF_s (by omega)] at z
                              have y : stL (I 236 (17 + 4 * m.toNat)) (I 236 (18 + 4 * m.toNat)) le = w9 := by rw [e1, e2]; unfold stL minN; split <;> omega
                              have z2 : lgF (fun j => I 236 (16 + 4 * j)) (fun j => I 236 (17 + 4 * j)) (fun j => I 236 (18 + 4 * j)) 5 (I 236 (16 + 4 * m.toNat)) (stL (I 236 (17 + 4 * m.toNat)) (I 236 (18 + 4 * m.toNat)) le) = _ := z
                              rw [y, e0] at z2
                              exact (lgF_k (mt_dec hR) 5 _ _ (by omega) (by omega)).symm.trans z2)) (show (w13).toNat < mz from by omega)
theorem r_ledOf8 (hF : FS F) (hR : Rg I) {v0 v1 : Int} (hp : 0 ≤ v0 ∧ v0 ≤ 5) (hQ : ∀ r : Int, iR r → (r = wr (lgF (fun j => I 236 (16 + 4 * j)) (fun j => I 236 (17 + 4 * j)) (fun j => I 236 (18 + 4 * j)) 6 v0 v1)) → Q (some (vi r)) F I) : CallN G (d + 1) kX12_ledOf [vr 235, vi v0, vi v1] NP F I Q := by
  refine CallN_in (fun hok hA => CallN_out ?_)
  have iv0 : -2147483648 ≤ v0 ∧ v0 < 2147483648 := hok (vi v0) (by simp)
  have iv1 : -2147483648 ≤ v1 ∧ v1 < 2147483648 := hok (vi v1) (by simp)
  refine Call_wp (lv := [some (vr 235), some (vi v0), some (vi v1), none, none, none]) (by decide) ckX12_ledOf [6] rfl rfl ?_
  refine r_ledOf8_l hF hR (by omega) (fun r g3 hv hA' => hQ _ (hv _ rfl) g3) _ v1 v0  (show (0 : Int) ≤ v0 from by first | omega | (simp only [wr, wl] at *; omega)) (show (v0 : Int) ≤ 5 from by first | omega | (simp only [wr, wl] at *; omega)) (rfl) (Nat.lt_succ_self _)
theorem r_led8_l (hF : FS F) (hR : Rg I) {v0 v1 v2 : Int} (hp : 0 ≤ v0 ∧ v0 ≤ 5) (hv1 : 0 ≤ v1 ∧ v1 ≤ 99999) (hv2 : 0 ≤ v2 ∧ v2 ≤ 1) (hQ : ∀ (r : Int) , ((¬ ((0 ≤ v0 ∧ v0 ≤ 5) ∧ (0 ≤ v1 ∧ v1 ≤ 99999) ∧ 0 ≤ v2 ∧ v2 ≤ 1) → r = -1000001) ∧ (((0 ≤ v0 ∧ v0 ≤ 5) ∧ (0 ≤ v1 ∧ v1 ≤ 99999) ∧ 0 ≤ v2 ∧ v2 ≤ 1) → (v2 = 0 → r = wr (lgF (fun j => I 236 (16 + 4 * j)) (fun j => I 236 (17 + 4 * j)) (fun j => I 236 (18 + 4 * j)) 6 v0 v1)) ∧ (¬ v2 = 0 → r = wr (minN (dbF (fun j => I 236 (16 + 4 * j)) (fun j => I 236 (17 + 4 * j)) (fun j => I 236 (18 + 4 * j)) (fun j => I 236 (19 + 4 * j)) 6 v0 0))))) → Q (some (vi r)) F I) : ∀ (mz : Nat) (db m : Int) , ((0 : Int) ≤ m) → ((m : Int) ≤ 5) → (dbF (fun j => I 236 (16 + 4 * j)) (fun j => I 236 (17 + 4 * j)) (fun j => I 236 (18 + 4 * j)) (fun j => I 236 (19 + 4 * j)) 6 m db = dbF (fun j => I 236 (16 + 4 * j)) (fun j => I 236 (17 + 4 * j)) (fun j => I 236 (18 + 4 * j)) (fun j => I 236 (19 + 4 * j)) 6 v0 0) → (m).toNat < mz → GoN G (d + 2) kX12_led NP NP 39 [some (vr 235), some (vi v0), some (vi v1), some (vi v2), some (vl db), none, some (vi m)] [] F I Q := by
  intro mz
  induction mz with
  | zero => intro db m _ _ _ h; exact absurd h (Nat.not_lt_zero _)
  | succ mz ih =>
    intro db m c100 c101 c102 hm
    refine GoN_in (fun hok hA => ?_)
    have iiv0 : -2147483648 ≤ v0 ∧ v0 < 2147483648 := hok 1 _ rfl
    have iiv1 : -2147483648 ≤ v1 ∧ v1 < 2147483648 := hok 2 _ rfl
    have iiv2 : -2147483648 ≤ v2 ∧ v2 < 2147483648 := hok 3 _ rfl
    have iidb : -9223372036854775808 ≤ db ∧ db < 9223372036854775808 := hok 4 _ rfl
    have iim : -2147483648 ≤ m ∧ m < 2147483648 := hok 6 _ rfl
    refine Go_wp (by decide) ckX12_led [39] ?_
    refine ⟨fun (c1 : ((m : Int) ≤ 0)) => ?_, fun (c1 : (¬ ((m : Int) ≤ 0))) => ?_⟩
    ·
      refine ⟨fun (c2 : (¬ (v2 : Int) = 0)) => ?_, fun (c2 : ((v2 : Int) = 0)) => ?_⟩
      ·
        refine j_minL (fun w3 h4 h5 h6 => ?_)
        exact ⟨rfl, hQ _ (⟨fun z => absurd (by omega) z, fun _ => ⟨fun z => absurd z (by omega), fun z => (congrArg wr (by
                              show w3 = _
                              rw [show dbF (fun j => I 236 (16 + 4 * j)) (fun j => I 236 (17 + 4 * j)) (fun j => I 236 (18 + 4 * j)) (fun j => I 236 (19 + 4 * j)) 6 v0 0 = db from c102.symm.trans (dbF_e (by omega))]
                              unfold minN; split <;> omega))⟩⟩)⟩
      ·
        refine ⟨⟨_, rfl, (by decide)⟩, ?_⟩
        refine r_ledOf8 (v0 := v0) (v1 := v1) hF hR (by omega) (fun vr7 hr8 qr9 => ?_)
        have hr8 : -2147483648 ≤ vr7 ∧ vr7 < 2147483648 := hr8
        exact ⟨rfl, hQ _ (⟨fun z => absurd (by omega) z, fun _ => ⟨fun z => qr9, fun z => absurd (by omega) z⟩⟩)⟩
    ·
      refine ⟨⟨_, rfl, (by decide)⟩, ?_⟩
      refine r_meter (p := m) (f := 3) hF (j := (Int.toNat (19 + 4 * m))) (by omega) (by omega) (by omega) (fun w10 hw11 => ?_)
      have hw11 : w10 = (I 236 (Int.toNat (19 + 4 * m))) := hw11
      refine ⟨⟨_, rfl, (by decide)⟩, ?_⟩
      have a12 : -2147483648 ≤ (I 236 (Int.toNat (19 + 4 * m))) ∧ (I 236 (Int.toNat (19 + 4 * m))) < 2147483648 := hA.1 _ _
      refine r_ledOf8 (v0 := m) (v1 := w10) hF hR (by omega) (fun vr13 hr14 qr15 => ?_)
      have hr14 : -2147483648 ≤ vr13 ∧ vr13 < 2147483648 := hr14
      refine ⟨⟨_, rfl, (by decide)⟩, ?_⟩
      refine r_meter (p := m) (f := 0) hF (j := (Int.toNat (16 + 4 * m))) (by omega) (by omega) (by omega) (fun w16 hw17 => ?_)
      have r18 : (I 236 (Int.toNat (16 + 4 * m))) = 0 ∨ (I 236 (Int.toNat (16 + 4 * m))) < (Int.toNat m : Int) := Pn_mc (p := (Int.toNat m)) (by omega) (by omega) (hR.n (Int.toNat (16 + 4 * m)) (by omega))
      have r19 : 0 ≤ (I 236 (Int.toNat (16 + 4 * m))) ∧ (I 236 (Int.toNat (16 + 4 * m))) ≤ 5 := Pn_m0 (p := (Int.toNat m)) (by omega) (by omega) (hR.n (Int.toNat (16 + 4 * m)) (by omega))
      have hw17 : w16 = (I 236 (Int.toNat (16 + 4 * m))) := hw17
      have a20 : -2147483648 ≤ (I 236 (Int.toNat (16 + 4 * m))) ∧ (I 236 (Int.toNat (16 + 4 * m))) < 2147483648 := hA.1 _ _
      exact ih (wl (db + vr13)) w16  (show (0 : Int) ≤ w16 from by first | omega | (simp only [wr, wl] at *; omega)) (show (w16 : Int) ≤ 5 from by first | omega | (simp only [wr, wl] at *; omega)) ((by
                              have e0 : I 236 (16 + 4 * m.toNat) = w16 := (congrArg (I 236) (by omega)).trans hw17.symm
                              have e3 : I 236 (19 + 4 * m.toNat) = w10 := (congrArg (I 236) (by omega)).trans hw11.symm
                              have hz := mt_dec hR m.toNat (by omega) (by omega)
                              rw [e0] at hz
                              have z : dbF (fun j => I 236 (16 + 4 * j)) (fun j => I 236 (17 + 4 * j)) (fun j => I 236 (18 + 4 * j)) (fun j => I 236 (19 + 4 * j)) (5 + 1) m db = _ := c102
                              rw [dbF_s (by omega)] at z
                              have z2 : dbF (fun j => I 236 (16 + 4 * j)) (fun j => I 236 (17 + 4 * j)) (fun j => I 236 (18 + 4 * j)) (fun j => I 236 (19 + 4 * j)) 5 (I 236 (16 + 4 * m.toNat)) (wl (db + wr (lgF (fun j => I 236 (16 + 4 * j)) (fun j => I 236 (17 + 4 * j)) (fun j => I 236 (18 + 4 * j)) 6 m (I 236 (19 + 4 * m.toNat))))) = _ := z
                              rw [e3, ← qr15, e0] at z2
                              exact (dbF_k (mt_dec hR) 5 _ _ (by omega) (by omega)).symm.trans z2)) (show (w16).toNat < mz from by omega)
theorem r_led8 (hF : FS F) (hR : Rg I) {v0 v1 v2 : Int}  (hQ : ∀ (r : Int) (I' : pI), Rg I' → AR I' → iR r → (∀ k j, ¬ (k = 238) → I' k j = I k j) → ((¬ ((0 ≤ v0 ∧ v0 ≤ 5) ∧ (0 ≤ v1 ∧ v1 ≤ 99999) ∧ 0 ≤ v2 ∧ v2 ≤ 1) → r = -1000001) ∧ (((0 ≤ v0 ∧ v0 ≤ 5) ∧ (0 ≤ v1 ∧ v1 ≤ 99999) ∧ 0 ≤ v2 ∧ v2 ≤ 1) → (v2 = 0 → r = wr (lgF (fun j => I 236 (16 + 4 * j)) (fun j => I 236 (17 + 4 * j)) (fun j => I 236 (18 + 4 * j)) 6 v0 v1)) ∧ (¬ v2 = 0 → r = wr (minN (dbF (fun j => I 236 (16 + 4 * j)) (fun j => I 236 (17 + 4 * j)) (fun j => I 236 (18 + 4 * j)) (fun j => I 236 (19 + 4 * j)) 6 v0 0))))) → Q (some (vi r)) F I') : CallN G (d + 2) kX12_led [vr 235, vi v0, vi v1, vi v2] NP F I Q := by
  refine CallN_in (fun hok hA => CallN_out ?_)
  have iv0 : -2147483648 ≤ v0 ∧ v0 < 2147483648 := hok (vi v0) (by simp)
  have iv1 : -2147483648 ≤ v1 ∧ v1 < 2147483648 := hok (vi v1) (by simp)
  have iv2 : -2147483648 ≤ v2 ∧ v2 < 2147483648 := hok (vi v2) (by simp)
  refine Call_wp (lv := [some (vr 235), some (vi v0), some (vi v1), some (vi v2), none, none, none]) (by decide) ckX12_led [39] rfl rfl ?_
  refine s_X12_isMeter (fun (w1 : ((0 : Int) ≤ v0 ∧ (v0 : Int) ≤ 5)) => ?_) (fun (w1 : ¬ ((0 : Int) ≤ v0 ∧ (v0 : Int) ≤ 5)) => ?_)
  ·
    refine ⟨fun c => absurd c (show (¬ ((1 : Int) = 0)) from by decide), fun _ => ?_⟩
    refine s_X12_within (fun (w2 : ((0 : Int) ≤ v1 ∧ (v1 : Int) ≤ 99999)) => ?_) (fun (w2 : ¬ ((0 : Int) ≤ v1 ∧ (v1 : Int) ≤ 99999)) => ?_)
    ·
      refine ⟨fun c => absurd c (show (¬ ((1 : Int) = 0)) from by decide), fun _ => ?_⟩
      refine s_X12_within (fun (w3 : ((0 : Int) ≤ v2 ∧ (v2 : Int) ≤ 1)) => ?_) (fun (w3 : ¬ ((0 : Int) ≤ v2 ∧ (v2 : Int) ≤ 1)) => ?_)
      ·
        refine ⟨fun _ => ?_, fun c => absurd c (show (¬ (1 : Int) = 0) from by decide)⟩
        refine r_led8_l hF hR (by omega) (by omega) (by omega) (fun r g3 hv hA' => hQ _ _ hR hA' (hv _ rfl) (fun _ _ _ => rfl) g3) _ 0 v0  (show (0 : Int) ≤ v0 from by first | omega | (simp only [wr, wl] at *; omega)) (show (v0 : Int) ≤ 5 from by first | omega | (simp only [wr, wl] at *; omega)) (rfl) (Nat.lt_succ_self _)
      ·
        refine ⟨fun c => absurd (show ((0 : Int) = 0) from by decide) c, fun _ => ?_⟩
        refine ⟨⟨_, rfl, (by decide)⟩, ?_⟩
        refine s_X12_finding hF (v := (-1000001)) (by decide) ?_
        exact ⟨rfl, fun hv hA' => hQ _ _ (Rg.u hR (Pr_f rfl)) hA' (hv _ rfl) (fun ka ja hk => (uI_o (show ¬ (ka = 238 ∧ ja = 1) from by omega))) (⟨fun _ => rfl, fun z => absurd z (by omega)⟩)⟩
    ·
      refine ⟨fun _ => ?_, fun c => absurd (show ((0 : Int) = 0) from by decide) c⟩
      refine ⟨⟨_, rfl, (by decide)⟩, ?_⟩
      refine s_X12_finding hF (v := (-1000001)) (by decide) ?_
      exact ⟨rfl, fun hv hA' => hQ _ _ (Rg.u hR (Pr_f rfl)) hA' (hv _ rfl) (fun ka ja hk => (uI_o (show ¬ (ka = 238 ∧ ja = 1) from by omega))) (⟨fun _ => rfl, fun z => absurd z (by omega)⟩)⟩
  ·
    refine ⟨fun _ => ?_, fun c => absurd (show ((0 : Int) = 0) from by decide) c⟩
    refine ⟨⟨_, rfl, (by decide)⟩, ?_⟩
    refine s_X12_finding hF (v := (-1000001)) (by decide) ?_
    exact ⟨rfl, fun hv hA' => hQ _ _ (Rg.u hR (Pr_f rfl)) hA' (hv _ rfl) (fun ka ja hk => (uI_o (show ¬ (ka = 238 ∧ ja = 1) from by omega))) (⟨fun _ => rfl, fun z => absurd z (by omega)⟩)⟩
abbrev VPR (m o f t : Int) : Prop := (1 ≤ m ∧ m ≤ 5) ∧ (0 ≤ o ∧ o ≤ 5) ∧ (101 ≤ f ∧ f ≤ 9999) ∧ 0 < f % 100 ∧ (0 ≤ t ∧ t ≤ 99) ∧ o < m
theorem uJ_eqi {I : pI} {q b j : Nat} {v : Int} (h : j = b) : uI I q b v q j = v := by subst h; exact uJ_eq
theorem c_prove8 (hF : FS F) (hR : Rg I) {v0 v1 v2 v3 : Int}  (hQ : ∀ (r : Int) (I' : pI), Rg I' → AR I' → iR r → (∀ k j, ¬ (k = 203 ∨ (8 ≤ k ∧ k < 12)) → I' k j = I k j) → ((∀ j : Nat, j < 6 → I' 8 (j + 0) = if VPR v0 v1 v2 v3 ∧ (j : Int) = v0 then v1 else I 8 (j + 0)) ∧ (∀ j : Nat, j < 6 → I' 9 (j + 0) = if VPR v0 v1 v2 v3 ∧ (j : Int) = v0 then v2 / 100 else I 9 (j + 0)) ∧ (∀ j : Nat, j < 6 → I' 10 (j + 0) = if VPR v0 v1 v2 v3 ∧ (j : Int) = v0 then v2 % 100 else I 10 (j + 0)) ∧ (∀ j : Nat, j < 6 → I' 11 (j + 0) = if VPR v0 v1 v2 v3 ∧ (j : Int) = v0 then v3 else I 11 (j + 0))) → Q (some (vi r)) F I') : CallN G (d + 3) kX11_prove [vr 0, vi v0, vi v1, vi v2, vi v3] NP F I Q := by
  refine CallN_in (fun hok hA => CallN_out ?_)
  have iv0 : -2147483648 ≤ v0 ∧ v0 < 2147483648 := hok (vi v0) (by simp)
  have iv1 : -2147483648 ≤ v1 ∧ v1 < 2147483648 := hok (vi v1) (by simp)
  have iv2 : -2147483648 ≤ v2 ∧ v2 < 2147483648 := hok (vi v2) (by simp)
  have iv3 : -2147483648 ≤ v3 ∧ v3 < 2147483648 := hok (vi v3) (by simp)
  have tq := td100 v2
  refine Call_wp (lv := [some (vr 0), some (vi v0), some (vi v1), some (vi v2), some (vi v3), none, none]) (by decide) ckX11_prove [] rfl rfl ?_
  refine ⟨(by decide), ?_⟩
  refine ⟨(by decide), ?_⟩
  refine s_X11_within (fun (w1 : ((1 : Int) ≤ v0 ∧ (v0 : Int) ≤ 5)) => ?_) (fun (w1 : ¬ ((1 : Int) ≤ v0 ∧ (v0 : Int) ≤ 5)) => ?_)
  ·
    refine ⟨fun c => absurd c (show (¬ ((1 : Int) = 0)) from by decide), fun _ => ?_⟩
    refine s_X11_isMeter (fun (w2 : ((0 : Int) ≤ v1 ∧ (v1 : Int) ≤ 5)) => ?_) (fun (w2 : ¬ ((0 : Int) ≤ v1 ∧ (v1 : Int) ≤ 5)) => ?_)
    ·
      refine ⟨fun c => absurd c (show (¬ ((1 : Int) = 0)) from by decide), fun _ => ?_⟩
      have n3 : -21474836 ≤ (Int.tdiv v2 100) ∧ (Int.tdiv v2 100) ≤ 21474836 := td_b (by decide) (by decide) (by omega) (by omega)
      have n4 : (wr (Int.tdiv v2 100)) = (Int.tdiv v2 100) := wr_id (show -2147483648 ≤ ((Int.tdiv v2 100) : Int) ∧ ((Int.tdiv v2 100) : Int) < 2147483648 from by omega)
      refine s_X11_within (fun (w5 : ((1 : Int) ≤ (wr (Int.tdiv v2 100)) ∧ ((wr (Int.tdiv v2 100)) : Int) ≤ 99)) => ?_) (fun (w5 : ¬ ((1 : Int) ≤ (wr (Int.tdiv v2 100)) ∧ ((wr (Int.tdiv v2 100)) : Int) ≤ 99)) => ?_)
      ·
        refine ⟨fun c => absurd c (show (¬ ((1 : Int) = 0)) from by decide), fun _ => ?_⟩
        have n6 : -100 < (Int.tmod v2 100) ∧ (Int.tmod v2 100) < 100 := tm_b (by decide)
        refine s_X11_within (fun (w7 : ((1 : Int) ≤ (Int.tmod v2 100) ∧ ((Int.tmod v2 100) : Int) ≤ 99)) => ?_) (fun (w7 : ¬ ((1 : Int) ≤ (Int.tmod v2 100) ∧ ((Int.tmod v2 100) : Int) ≤ 99)) => ?_)
        ·
          refine ⟨fun c => absurd c (show (¬ ((1 : Int) = 0)) from by decide), fun _ => ?_⟩
          refine s_X11_within (fun (w8 : ((0 : Int) ≤ v3 ∧ (v3 : Int) ≤ 99)) => ?_) (fun (w8 : ¬ ((0 : Int) ≤ v3 ∧ (v3 : Int) ≤ 99)) => ?_)
          ·
            refine ⟨fun _ => ?_, fun c => absurd c (show (¬ (1 : Int) = 0) from by decide)⟩
            refine ⟨fun (c9 : ((v1 : Int) < v0)) => ?_, fun (c9 : (¬ ((v1 : Int) < v0))) => ?_⟩
            ·
              refine ⟨_, rfl, (by decide), ?_⟩
              refine fun w0 hw0 => ?_; obtain rfl : w0 = some 1 := hw0.symm.trans (FS.g hF rfl)
              refine ⟨_, rfl, (by decide), ?_⟩
              refine fun w0 hw0 => ?_; obtain rfl : w0 = some 7 := hw0.symm.trans (FS.g hF rfl)
              refine ⟨⟨_, rfl, (by decide)⟩, ?_⟩
              refine Call_wp (lv := [some (vr 7), some (vi v0), some (vi v1), some (vi (wr (Int.tdiv v2 100))), some (vi (Int.tmod v2 100)), some (vi v3)]) (by decide) ckX2_set [] rfl rfl ?_
              refine s_X11_isMeter (fun _ => ?_) (fun hw => absurd (show ((0 : Int) ≤ v0 ∧ (v0 : Int) ≤ 5) from by first | omega | (simp only [wr, wl] at *; omega)) hw)
              refine ⟨fun c => absurd c (show (¬ ((1 : Int) = 0)) from by decide), fun _ => ?_⟩
              refine ⟨_, rfl, (by decide), ?_⟩
              refine fun w0 hw0 => ?_; obtain rfl : w0 = some 8 := hw0.symm.trans (FS.g hF rfl)
              refine ⟨_, rfl, (by decide), (show (0 : Int) ≤ v0 from by first | omega | (simp only [wr, wl] at *; omega)), (show v0 < (6 : Int) from by first | omega | (simp only [wr, wl] at *; omega)), ?_⟩
              refine ⟨_, rfl, (by decide), ?_⟩
              refine fun w0 hw0 => ?_; obtain rfl : w0 = some 9 := hw0.symm.trans (FS.g hF rfl)
              refine ⟨_, rfl, (by decide), (show (0 : Int) ≤ v0 from by first | omega | (simp only [wr, wl] at *; omega)), (show v0 < (6 : Int) from by first | omega | (simp only [wr, wl] at *; omega)), ?_⟩
              refine ⟨_, rfl, (by decide), ?_⟩
              refine fun w0 hw0 => ?_; obtain rfl : w0 = some 10 := hw0.symm.trans (FS.g hF rfl)
              refine ⟨_, rfl, (by decide), (show (0 : Int) ≤ v0 from by first | omega | (simp only [wr, wl] at *; omega)), (show v0 < (6 : Int) from by first | omega | (simp only [wr, wl] at *; omega)), ?_⟩
              refine ⟨_, rfl, (by decide), ?_⟩
              refine fun w0 hw0 => ?_; obtain rfl : w0 = some 11 := hw0.symm.trans (FS.g hF rfl)
              refine ⟨_, rfl, (by decide), (show (0 : Int) ≤ v0 from by first | omega | (simp only [wr, wl] at *; omega)), (show v0 < (6 : Int) from by first | omega | (simp only [wr, wl] at *; omega)), ?_⟩
              refine ⟨rfl, ?_⟩
              exact ⟨rfl, fun hv hA' => hQ _ _ (Rg.u (Rg.u (Rg.u (Rg.u hR (Pr_p (k := 8) rfl _ _)) (Pr_p (k := 9) rfl _ _)) (Pr_p (k := 10) rfl _ _)) (Pr_p (k := 11) rfl _ _)) hA' (hv _ rfl) (fun ka ja hk => ((uI_o (show ¬ (ka = 11 ∧ ja = (Int.toNat v0)) from by omega))).trans (((uI_o (show ¬ (ka = 10 ∧ ja = (Int.toNat v0)) from by omega))).trans (((uI_o (show ¬ (ka = 9 ∧ ja = (Int.toNat v0)) from by omega))).trans ((uI_o (show ¬ (ka = 8 ∧ ja = (Int.toNat v0)) from by omega)))))) (⟨fun j hj => (by
                              by_cases e : (j : Int) = v0
                              · rw [if_pos ⟨show VPR v0 v1 v2 v3 from by unfold VPR; omega, e⟩]
                                exact (uI_o (fun e => absurd e.1 (by decide))).trans ((uI_o (fun e => absurd e.1 (by decide))).trans ((uI_o (fun e => absurd e.1 (by decide))).trans ((uJ_eqi (by omega)).trans (show v1 = v1 from by omega))))
                              · rw [if_neg (fun h => e h.2)]
                                exact (uI_o (fun e => absurd e.1 (by decide))).trans ((uI_o (fun e => absurd e.1 (by decide))).trans ((uI_o (fun e => absurd e.1 (by decide))).trans (uJ_ne (by omega))))), fun j hj => (by
                              by_cases e : (j : Int) = v0
                              · rw [if_pos ⟨show VPR v0 v1 v2 v3 from by unfold VPR; omega, e⟩]
                                exact (uI_o (fun e => absurd e.1 (by decide))).trans ((uI_o (fun e => absurd e.1 (by decide))).trans ((uJ_eqi (by omega)).trans (show (wr (Int.tdiv v2 100)) = v2 / 100 from by omega)))
                              · rw [if_neg (fun h => e h.2)]
                                exact (uI_o (fun e => absurd e.1 (by decide))).trans ((uI_o (fun e => absurd e.1 (by decide))).trans ((uJ_ne (by omega)).trans (uI_o (fun e => absurd e.1 (by decide)))))), fun j hj => (by
                              by_cases e : (j : Int) = v0
                              · rw [if_pos ⟨show VPR v0 v1 v2 v3 from by unfold VPR; omega, e⟩]
                                exact (uI_o (fun e => absurd e.1 (by decide))).trans ((uJ_eqi (by omega)).trans (show (Int.tmod v2 100) = v2 % 100 from by omega))
                              · rw [if_neg (fun h => e h.2)]
                                exact (uI_o (fun e => absurd e.1 (by decide))).trans ((uJ_ne (by omega)).trans ((uI_o (fun e => absurd e.1 (by decide))).trans (uI_o (fun e => absurd e.1 (by decide)))))), fun j hj => (by
                              by_cases e : (j : Int) = v0
                              · rw [if_pos ⟨show VPR v0 v1 v2 v3 from by unfold VPR; omega, e⟩]
                                exact (uJ_eqi (by omega)).trans (show v3 = v3 from by omega)
                              · rw [if_neg (fun h => e h.2)]
                                exact (uJ_ne (by omega)).trans ((uI_o (fun e => absurd e.1 (by decide))).trans ((uI_o (fun e => absurd e.1 (by decide))).trans (uI_o (fun e => absurd e.1 (by decide))))))⟩)⟩
            ·
              refine ⟨⟨_, rfl, (by decide)⟩, ?_⟩
              refine s_X11_refuse hF (e := 3) (by decide) ?_
              exact ⟨rfl, fun hv hA' => hQ _ _ (Rg.u hR (Pr_f rfl)) hA' (hv _ rfl) (fun ka ja hk => (uI_o (show ¬ (ka = 203 ∧ ja = 3) from by omega))) (⟨fun j hj => (uI_o (fun e => absurd e.1 (by decide))).trans (if_neg (fun h => absurd h.1 (by unfold VPR; omega))).symm, fun j hj => (uI_o (fun e => absurd e.1 (by decide))).trans (if_neg (fun h => absurd h.1 (by unfold VPR; omega))).symm, fun j hj => (uI_o (fun e => absurd e.1 (by decide))).trans (if_neg (fun h => absurd h.1 (by unfold VPR; omega))).symm, fun j hj => (uI_o (fun e => absurd e.1 (by decide))).trans (if_neg (fun h => absurd h.1 (by unfold VPR; omega))).symm⟩)⟩
          ·
            refine ⟨fun c => absurd (show ((0 : Int) = 0) from by decide) c, fun _ => ?_⟩
            refine ⟨⟨_, rfl, (by decide)⟩, ?_⟩
            refine s_X11_refuse hF (e := 1) (by decide) ?_
            exact ⟨rfl, fun hv hA' => hQ _ _ (Rg.u hR (Pr_f rfl)) hA' (hv _ rfl) (fun ka ja hk => (uI_o (show ¬ (ka = 203 ∧ ja = 1) from by omega))) (⟨fun j hj => (uI_o (fun e => absurd e.1 (by decide))).trans (if_neg (fun h => absurd h.1 (by unfold VPR; omega))).symm, fun j hj => (uI_o (fun e => absurd e.1 (by decide))).trans (if_neg (fun h => absurd h.1 (by unfold VPR; omega))).symm, fun j hj => (uI_o (fun e => absurd e.1 (by decide))).trans (if_neg (fun h => absurd h.1 (by unfold VPR; omega))).symm, fun j hj => (uI_o (fun e => absurd e.1 (by decide))).trans (if_neg (fun h => absurd h.1 (by unfold VPR; omega))).symm⟩)⟩
        ·
          refine ⟨fun _ => ?_, fun c => absurd (show ((0 : Int) = 0) from by decide) c⟩
          refine ⟨⟨_, rfl, (by decide)⟩, ?_⟩
          refine s_X11_refuse hF (e := 1) (by decide) ?_
          exact ⟨rfl, fun hv hA' => hQ _ _ (Rg.u hR (Pr_f rfl)) hA' (hv _ rfl) (fun ka ja hk => (uI_o (show ¬ (ka = 203 ∧ ja = 1) from by omega))) (⟨fun j hj => (uI_o (fun e => absurd e.1 (by decide))).trans (if_neg (fun h => absurd h.1 (by unfold VPR; omega))).symm, fun j hj => (uI_o (fun e => absurd e.1 (by decide))).trans (if_neg (fun h => absurd h.1 (by unfold VPR; omega))).symm, fun j hj => (uI_o (fun e => absurd e.1 (by decide))).trans (if_neg (fun h => absurd h.1 (by unfold VPR; omega))).symm, fun j hj => (uI_o (fun e => absurd e.1 (by decide))).trans (if_neg (fun h => absurd h.1 (by unfold VPR; omega))).symm⟩)⟩
      ·
        refine ⟨fun _ => ?_, fun c => absurd (show ((0 : Int) = 0) from by decide) c⟩
        refine ⟨⟨_, rfl, (by decide)⟩, ?_⟩
        refine s_X11_refuse hF (e := 1) (by decide) ?_
        exact ⟨rfl, fun hv hA' => hQ _ _ (Rg.u hR (Pr_f rfl)) hA' (hv _ rfl) (fun ka ja hk => (uI_o (show ¬ (ka = 203 ∧ ja = 1) from by omega))) (⟨fun j hj => (uI_o (fun e => absurd e.1 (by decide))).trans (if_neg (fun h => absurd h.1 (by unfold VPR; omega))).symm, fun j hj => (uI_o (fun e => absurd e.1 (by decide))).trans (if_neg (fun h => absurd h.1 (by unfold VPR; omega))).symm, fun j hj => (uI_o (fun e => absurd e.1 (by decide))).trans (if_neg (fun h => absurd h.1 (by unfold VPR; omega))).symm, fun j hj => (uI_o (fun e => absurd e.1 (by decide))).trans (if_neg (fun h => absurd h.1 (by unfold VPR; omega))).symm⟩)⟩
    ·
      refine ⟨fun _ => ?_, fun c => absurd (show ((0 : Int) = 0) from by decide) c⟩
      refine ⟨⟨_, rfl, (by decide)⟩, ?_⟩
      refine s_X11_refuse hF (e := 1) (by decide) ?_
      exact ⟨rfl, fun hv hA' => hQ _ _ (Rg.u hR (Pr_f rfl)) hA' (hv _ rfl) (fun ka ja hk => (uI_o (show ¬ (ka = 203 ∧ ja = 1) from by omega))) (⟨fun j hj => (uI_o (fun e => absurd e.1 (by decide))).trans (if_neg (fun h => absurd h.1 (by unfold VPR; omega))).symm, fun j hj => (uI_o (fun e => absurd e.1 (by decide))).trans (if_neg (fun h => absurd h.1 (by unfold VPR; omega))).symm, fun j hj => (uI_o (fun e => absurd e.1 (by decide))).trans (if_neg (fun h => absurd h.1 (by unfold VPR; omega))).symm, fun j hj => (uI_o (fun e => absurd e.1 (by decide))).trans (if_neg (fun h => absurd h.1 (by unfold VPR; omega))).symm⟩)⟩
  ·
    refine ⟨fun _ => ?_, fun c => absurd (show ((0 : Int) = 0) from by decide) c⟩
    refine ⟨⟨_, rfl, (by decide)⟩, ?_⟩
    refine s_X11_refuse hF (e := 1) (by decide) ?_
    exact ⟨rfl, fun hv hA' => hQ _ _ (Rg.u hR (Pr_f rfl)) hA' (hv _ rfl) (fun ka ja hk => (uI_o (show ¬ (ka = 203 ∧ ja = 1) from by omega))) (⟨fun j hj => (uI_o (fun e => absurd e.1 (by decide))).trans (if_neg (fun h => absurd h.1 (by unfold VPR; omega))).symm, fun j hj => (uI_o (fun e => absurd e.1 (by decide))).trans (if_neg (fun h => absurd h.1 (by unfold VPR; omega))).symm, fun j hj => (uI_o (fun e => absurd e.1 (by decide))).trans (if_neg (fun h => absurd h.1 (by unfold VPR; omega))).symm, fun j hj => (uI_o (fun e => absurd e.1 (by decide))).trans (if_neg (fun h => absurd h.1 (by unfold VPR; omega))).symm⟩)⟩
theorem r_prove8 (hF : FS F) (hR : Rg I) {v0 v1 v2 v3 : Int}  (hQ : ∀ (r : Int) (I' : pI), Rg I' → AR I' → iR r → (∀ k j, ¬ (k = 238 ∨ (k = 236 ∧ 16 ≤ j ∧ j < 40)) → I' k j = I k j) → ((∀ j : Nat, j < 6 → I' 236 (16 + 4 * j) = if VPR v0 v1 v2 v3 ∧ (j : Int) = v0 then v1 else I 236 (16 + 4 * j)) ∧ (∀ j : Nat, j < 6 → I' 236 (17 + 4 * j) = if VPR v0 v1 v2 v3 ∧ (j : Int) = v0 then v2 / 100 else I 236 (17 + 4 * j)) ∧ (∀ j : Nat, j < 6 → I' 236 (18 + 4 * j) = if VPR v0 v1 v2 v3 ∧ (j : Int) = v0 then v2 % 100 else I 236 (18 + 4 * j)) ∧ (∀ j : Nat, j < 6 → I' 236 (19 + 4 * j) = if VPR v0 v1 v2 v3 ∧ (j : Int) = v0 then v3 else I 236 (19 + 4 * j))) → Q (some (vi r)) F I') : CallN G (d + 2) kX12_prove [vr 235, vi v0, vi v1, vi v2, vi v3] NP F I Q := by
  refine CallN_in (fun hok hA => CallN_out ?_)
  have iv0 : -2147483648 ≤ v0 ∧ v0 < 2147483648 := hok (vi v0) (by simp)
  have iv1 : -2147483648 ≤ v1 ∧ v1 < 2147483648 := hok (vi v1) (by simp)
  have iv2 : -2147483648 ≤ v2 ∧ v2 < 2147483648 := hok (vi v2) (by simp)
  have iv3 : -2147483648 ≤ v3 ∧ v3 < 2147483648 := hok (vi v3) (by simp)
  have tq := td100 v2
  refine Call_wp (lv := [some (vr 235), some (vi v0), some (vi v1), some (vi v2), some (vi v3), none]) (by decide) ckX12_prove [] rfl rfl ?_
  refine s_X12_within (fun (w1 : ((1 : Int) ≤ v0 ∧ (v0 : Int) ≤ 5)) => ?_) (fun (w1 : ¬ ((1 : Int) ≤ v0 ∧ (v0 : Int) ≤ 5)) => ?_)
  ·
    refine ⟨fun c => absurd c (show (¬ ((1 : Int) = 0)) from by decide), fun _ => ?_⟩
    refine s_X12_isMeter (fun (w2 : ((0 : Int) ≤ v1 ∧ (v1 : Int) ≤ 5)) => ?_) (fun (w2 : ¬ ((0 : Int) ≤ v1 ∧ (v1 : Int) ≤ 5)) => ?_)
    ·
      refine ⟨fun c => absurd c (show (¬ ((1 : Int) = 0)) from by decide), fun _ => ?_⟩
      refine s_X12_within (fun (w3 : ((101 : Int) ≤ v2 ∧ (v2 : Int) ≤ 9999)) => ?_) (fun (w3 : ¬ ((101 : Int) ≤ v2 ∧ (v2 : Int) ≤ 9999)) => ?_)
      ·
        refine ⟨fun c => absurd c (show (¬ ((1 : Int) = 0)) from by decide), fun _ => ?_⟩
        refine ⟨(by decide), ?_⟩
        have n4 : (Int.tmod v2 100) = (v2 : Int) % 100 := Int.tmod_eq_emod_of_nonneg (by omega)
        refine ⟨fun (c5 : (((Int.tmod v2 100) : Int) ≤ 0)) => ?_, fun (c5 : (¬ (((Int.tmod v2 100) : Int) ≤ 0))) => ?_⟩
        ·
          refine ⟨fun c => absurd (show ((0 : Int) = 0) from by decide) c, fun _ => ?_⟩
          refine ⟨⟨_, rfl, (by decide)⟩, ?_⟩
          refine s_X12_finding hF (v := (-1000001)) (by decide) ?_
          exact ⟨rfl, fun hv hA' => hQ _ _ (Rg.u hR (Pr_f rfl)) hA' (hv _ rfl) (fun ka ja hk => (uI_o (show ¬ (ka = 238 ∧ ja = 1) from by omega))) (⟨fun j hj => (uI_o (fun e => absurd e.1 (by decide))).trans (if_neg (fun h => absurd h.1 (by unfold VPR; omega))).symm, fun j hj => (uI_o (fun e => absurd e.1 (by decide))).trans (if_neg (fun h => absurd h.1 (by unfold VPR; omega))).symm, fun j hj => (uI_o (fun e => absurd e.1 (by decide))).trans (if_neg (fun h => absurd h.1 (by unfold VPR; omega))).symm, fun j hj => (uI_o (fun e => absurd e.1 (by decide))).trans (if_neg (fun h => absurd h.1 (by unfold VPR; omega))).symm⟩)⟩
        ·
          refine s_X12_within (fun (w6 : ((0 : Int) ≤ v3 ∧ (v3 : Int) ≤ 99)) => ?_) (fun (w6 : ¬ ((0 : Int) ≤ v3 ∧ (v3 : Int) ≤ 99)) => ?_)
          ·
            refine ⟨fun c => absurd c (show (¬ ((1 : Int) = 0)) from by decide), fun _ => ?_⟩
            refine ⟨fun _ => ?_, fun c => absurd c (show (¬ (1 : Int) = 0) from by decide)⟩
            refine ⟨fun (c7 : ((v1 : Int) < v0)) => ?_, fun (c7 : (¬ ((v1 : Int) < v0))) => ?_⟩
            ·
              refine ⟨_, rfl, (by decide), ?_⟩
              refine fun w0 hw0 => ?_; obtain rfl : w0 = some 236 := hw0.symm.trans (FS.g hF rfl)
              have n8 : (wr (4 * v0)) = 4 * v0 := wr_id (show -2147483648 ≤ (4 * v0 : Int) ∧ (4 * v0 : Int) < 2147483648 from by omega)
              have n9 : (wr (16 + (wr (4 * v0)))) = 16 + (wr (4 * v0)) := wr_id (show -2147483648 ≤ (16 + (wr (4 * v0)) : Int) ∧ (16 + (wr (4 * v0)) : Int) < 2147483648 from by omega)
              refine ⟨_, rfl, (by decide), (show (0 : Int) ≤ (wr (16 + (wr (4 * v0)))) from by first | omega | (simp only [wr, wl] at *; omega)), (show (wr (16 + (wr (4 * v0)))) < (1340 : Int) from by first | omega | (simp only [wr, wl] at *; omega)), ?_⟩
              have p10 : Pn (Int.toNat (wr (16 + (wr (4 * v0))))) v1 := by apply Pn_w <;> omega
              refine ⟨_, rfl, (by decide), ?_⟩
              refine fun w0 hw0 => ?_; obtain rfl : w0 = some 236 := hw0.symm.trans (FS.g hF rfl)
              refine ⟨(by decide), ?_⟩
              have n11 : (wr ((wr (16 + (wr (4 * v0)))) + 1)) = (wr (16 + (wr (4 * v0)))) + 1 := wr_id (show -2147483648 ≤ ((wr (16 + (wr (4 * v0)))) + 1 : Int) ∧ ((wr (16 + (wr (4 * v0)))) + 1 : Int) < 2147483648 from by omega)
              refine ⟨_, rfl, (by decide), (show (0 : Int) ≤ (wr ((wr (16 + (wr (4 * v0)))) + 1)) from by first | omega | (simp only [wr, wl] at *; omega)), (show (wr ((wr (16 + (wr (4 * v0)))) + 1)) < (1340 : Int) from by first | omega | (simp only [wr, wl] at *; omega)), ?_⟩
              have n12 : (Int.tdiv v2 100) = (v2 : Int) / 100 := Int.tdiv_eq_ediv_of_nonneg (by omega)
              have n13 : (wr (Int.tdiv v2 100)) = (Int.tdiv v2 100) := wr_id (show -2147483648 ≤ ((Int.tdiv v2 100) : Int) ∧ ((Int.tdiv v2 100) : Int) < 2147483648 from by omega)
              have p14 : Pn (Int.toNat (wr ((wr (16 + (wr (4 * v0)))) + 1))) (wr (Int.tdiv v2 100)) := by apply Pn_w <;> omega
              refine ⟨_, rfl, (by decide), ?_⟩
              refine fun w0 hw0 => ?_; obtain rfl : w0 = some 236 := hw0.symm.trans (FS.g hF rfl)
              refine ⟨(by decide), ?_⟩
              have n15 : (wr ((wr (16 + (wr (4 * v0)))) + 2)) = (wr (16 + (wr (4 * v0)))) + 2 := wr_id (show -2147483648 ≤ ((wr (16 + (wr (4 * v0)))) + 2 : Int) ∧ ((wr (16 + (wr (4 * v0)))) + 2 : Int) < 2147483648 from by omega)
              refine ⟨_, rfl, (by decide), (show (0 : Int) ≤ (wr ((wr (16 + (wr (4 * v0)))) + 2)) from by first | omega | (simp only [wr, wl] at *; omega)), (show (wr ((wr (16 + (wr (4 * v0)))) + 2)) < (1340 : Int) from by first | omega | (simp only [wr, wl] at *; omega)), ?_⟩
              have p16 : Pn (Int.toNat (wr ((wr (16 + (wr (4 * v0)))) + 2))) (Int.tmod v2 100) := by apply Pn_w <;> omega
              refine ⟨_, rfl, (by decide), ?_⟩
              refine fun w0 hw0 => ?_; obtain rfl : w0 = some 236 := hw0.symm.trans (FS.g hF rfl)
              have n17 : (wr ((wr (16 + (wr (4 * v0)))) + 3)) = (wr (16 + (wr (4 * v0)))) + 3 := wr_id (show -2147483648 ≤ ((wr (16 + (wr (4 * v0)))) + 3 : Int) ∧ ((wr (16 + (wr (4 * v0)))) + 3 : Int) < 2147483648 from by omega)
              refine ⟨_, rfl, (by decide), (show (0 : Int) ≤ (wr ((wr (16 + (wr (4 * v0)))) + 3)) from by first | omega | (simp only [wr, wl] at *; omega)), (show (wr ((wr (16 + (wr (4 * v0)))) + 3)) < (1340 : Int) from by first | omega | (simp only [wr, wl] at *; omega)), ?_⟩
              have p18 : Pn (Int.toNat (wr ((wr (16 + (wr (4 * v0)))) + 3))) v3 := by apply Pn_w <;> omega
              exact ⟨rfl, fun hv hA' => hQ _ _ (Rg.u (Rg.u (Rg.u (Rg.u hR (Pr_n p10)) (Pr_n p14)) (Pr_n p16)) (Pr_n p18)) hA' (hv _ rfl) (fun ka ja hk => ((uI_o (show ¬ (ka = 236 ∧ ja = (Int.toNat (wr ((wr (16 + (wr (4 * v0)))) + 3)))) from by omega))).trans (((uI_o (show ¬ (ka = 236 ∧ ja = (Int.toNat (wr ((wr (16 + (wr (4 * v0)))) + 2)))) from by omega))).trans (((uI_o (show ¬ (ka = 236 ∧ ja = (Int.toNat (wr ((wr (16 + (wr (4 * v0)))) + 1)))) from by omega))).trans ((uI_o (show ¬ (ka = 236 ∧ ja = (Int.toNat (wr (16 + (wr (4 * v0)))))) from by omega)))))) (⟨fun j hj => (by
                              by_cases e : (j : Int) = v0
                              · rw [if_pos ⟨show VPR v0 v1 v2 v3 from by unfold VPR; omega, e⟩]
                                exact (uJ_ne (by omega)).trans ((uJ_ne (by omega)).trans ((uJ_ne (by omega)).trans ((uJ_eqi (by omega)).trans (show v1 = v1 from by omega))))
                              · rw [if_neg (fun h => e h.2)]
                                exact (uJ_ne (by omega)).trans ((uJ_ne (by omega)).trans ((uJ_ne (by omega)).trans (uJ_ne (by omega))))), fun j hj => (by
                              by_cases e : (j : Int) = v0
                              · rw [if_pos ⟨show VPR v0 v1 v2 v3 from by unfold VPR; omega, e⟩]
                                exact (uJ_ne (by omega)).trans ((uJ_ne (by omega)).trans ((uJ_eqi (by omega)).trans (show (wr (Int.tdiv v2 100)) = v2 / 100 from by omega)))
                              · rw [if_neg (fun h => e h.2)]
                                exact (uJ_ne (by omega)).trans ((uJ_ne (by omega)).trans ((uJ_ne (by omega)).trans (uJ_ne (by omega))))), fun j hj => (by
                              by_cases e : (j : Int) = v0
                              · rw [if_pos ⟨show VPR v0 v1 v2 v3 from by unfold VPR; omega, e⟩]
                                exact (uJ_ne (by omega)).trans ((uJ_eqi (by omega)).trans (show (Int.tmod v2 100) = v2 % 100 from by omega))
                              · rw [if_neg (fun h => e h.2)]
                                exact (uJ_ne (by omega)).trans ((uJ_ne (by omega)).trans ((uJ_ne (by omega)).trans (uJ_ne (by omega))))), fun j hj => (by
                              by_cases e : (j : Int) = v0
                              · rw [if_pos ⟨show VPR v0 v1 v2 v3 from by unfold VPR; omega, e⟩]
                                exact (uJ_eqi (by omega)).trans (show v3 = v3 from by omega)
                              · rw [if_neg (fun h => e h.2)]
                                exact (uJ_ne (by omega)).trans ((uJ_ne (by omega)).trans ((uJ_ne (by omega)).trans (uJ_ne (by omega)))))⟩)⟩
            ·
              refine ⟨⟨_, rfl, (by decide)⟩, ?_⟩
              refine s_X12_finding hF (v := (-1000003)) (by decide) ?_
              exact ⟨rfl, fun hv hA' => hQ _ _ (Rg.u hR (Pr_f rfl)) hA' (hv _ rfl) (fun ka ja hk => (uI_o (show ¬ (ka = 238 ∧ ja = 3) from by omega))) (⟨fun j hj => (uI_o (fun e => absurd e.1 (by decide))).trans (if_neg (fun h => absurd h.1 (by unfold VPR; omega))).symm, fun j hj => (uI_o (fun e => absurd e.1 (by decide))).trans (if_neg (fun h => absurd h.1 (by unfold VPR; omega))).symm, fun j hj => (uI_o (fun e => absurd e.1 (by decide))).trans (if_neg (fun h => absurd h.1 (by unfold VPR; omega))).symm, fun j hj => (uI_o (fun e => absurd e.1 (by decide))).trans (if_neg (fun h => absurd h.1 (by unfold VPR; omega))).symm⟩)⟩
          ·
            refine ⟨fun _ => ?_, fun c => absurd (show ((0 : Int) = 0) from by decide) c⟩
            refine ⟨fun c => absurd (show ((0 : Int) = 0) from by decide) c, fun _ => ?_⟩
            refine ⟨⟨_, rfl, (by decide)⟩, ?_⟩
            refine s_X12_finding hF (v := (-1000001)) (by decide) ?_
            exact ⟨rfl, fun hv hA' => hQ _ _ (Rg.u hR (Pr_f rfl)) hA' (hv _ rfl) (fun ka ja hk => (uI_o (show ¬ (ka = 238 ∧ ja = 1) from by omega))) (⟨fun j hj => (uI_o (fun e => absurd e.1 (by decide))).trans (if_neg (fun h => absurd h.1 (by unfold VPR; omega))).symm, fun j hj => (uI_o (fun e => absurd e.1 (by decide))).trans (if_neg (fun h => absurd h.1 (by unfold VPR; omega))).symm, fun j hj => (uI_o (fun e => absurd e.1 (by decide))).trans (if_neg (fun h => absurd h.1 (by unfold VPR; omega))).symm, fun j hj => (uI_o (fun e => absurd e.1 (by decide))).trans (if_neg (fun h => absurd h.1 (by unfold VPR; omega))).symm⟩)⟩
      ·
        refine ⟨fun _ => ?_, fun c => absurd (show ((0 : Int) = 0) from by decide) c⟩
        refine ⟨fun c => absurd (show ((0 : Int) = 0) from by decide) c, fun _ => ?_⟩
        refine ⟨⟨_, rfl, (by decide)⟩, ?_⟩
        refine s_X12_finding hF (v := (-1000001)) (by decide) ?_
        exact ⟨rfl, fun hv hA' => hQ _ _ (Rg.u hR (Pr_f rfl)) hA' (hv _ rfl) (fun ka ja hk => (uI_o (show ¬ (ka = 238 ∧ ja = 1) from by omega))) (⟨fun j hj => (uI_o (fun e => absurd e.1 (by decide))).trans (if_neg (fun h => absurd h.1 (by unfold VPR; omega))).symm, fun j hj => (uI_o (fun e => absurd e.1 (by decide))).trans (if_neg (fun h => absurd h.1 (by unfold VPR; omega))).symm, fun j hj => (uI_o (fun e => absurd e.1 (by decide))).trans (if_neg (fun h => absurd h.1 (by unfold VPR; omega))).symm, fun j hj => (uI_o (fun e => absurd e.1 (by decide))).trans (if_neg (fun h => absurd h.1 (by unfold VPR; omega))).symm⟩)⟩
    ·
      refine ⟨fun _ => ?_, fun c => absurd (show ((0 : Int) = 0) from by decide) c⟩
      refine ⟨fun c => absurd (show ((0 : Int) = 0) from by decide) c, fun _ => ?_⟩
      refine ⟨⟨_, rfl, (by decide)⟩, ?_⟩
      refine s_X12_finding hF (v := (-1000001)) (by decide) ?_
      exact ⟨rfl, fun hv hA' => hQ _ _ (Rg.u hR (Pr_f rfl)) hA' (hv _ rfl) (fun ka ja hk => (uI_o (show ¬ (ka = 238 ∧ ja = 1) from by omega))) (⟨fun j hj => (uI_o (fun e => absurd e.1 (by decide))).trans (if_neg (fun h => absurd h.1 (by unfold VPR; omega))).symm, fun j hj => (uI_o (fun e => absurd e.1 (by decide))).trans (if_neg (fun h => absurd h.1 (by unfold VPR; omega))).symm, fun j hj => (uI_o (fun e => absurd e.1 (by decide))).trans (if_neg (fun h => absurd h.1 (by unfold VPR; omega))).symm, fun j hj => (uI_o (fun e => absurd e.1 (by decide))).trans (if_neg (fun h => absurd h.1 (by unfold VPR; omega))).symm⟩)⟩
  ·
    refine ⟨fun _ => ?_, fun c => absurd (show ((0 : Int) = 0) from by decide) c⟩
    refine ⟨fun c => absurd (show ((0 : Int) = 0) from by decide) c, fun _ => ?_⟩
    refine ⟨⟨_, rfl, (by decide)⟩, ?_⟩
    refine s_X12_finding hF (v := (-1000001)) (by decide) ?_
    exact ⟨rfl, fun hv hA' => hQ _ _ (Rg.u hR (Pr_f rfl)) hA' (hv _ rfl) (fun ka ja hk => (uI_o (show ¬ (ka = 238 ∧ ja = 1) from by omega))) (⟨fun j hj => (uI_o (fun e => absurd e.1 (by decide))).trans (if_neg (fun h => absurd h.1 (by unfold VPR; omega))).symm, fun j hj => (uI_o (fun e => absurd e.1 (by decide))).trans (if_neg (fun h => absurd h.1 (by unfold VPR; omega))).symm, fun j hj => (uI_o (fun e => absurd e.1 (by decide))).trans (if_neg (fun h => absurd h.1 (by unfold VPR; omega))).symm, fun j hj => (uI_o (fun e => absurd e.1 (by decide))).trans (if_neg (fun h => absurd h.1 (by unfold VPR; omega))).symm⟩)⟩
end LD
theorem led_h {I : pI} (hR : Rg I) (h0 : LA 8 0 6 16 4 I) (h2 : LA 10 0 6 18 4 I) : (∀ j : Nat, j < 6 → 0 ≤ I 8 j ∧ I 8 j ≤ 5) ∧ ∀ j : Nat, j < 6 → 1 ≤ I 10 j ∧ I 10 j ≤ 99 := by
  refine ⟨fun j hj => ?_, fun j hj => ?_⟩
  · have a := Pn_m0 (p := j) (by omega) (by omega) (hR.n (16 + 4 * j) (by omega))
    have b : I 8 j = I 236 (16 + 4 * j) := h0 j hj
    omega
  · have a := Pn_m2 (p := j) (by omega) (by omega) (hR.n (18 + 4 * j) (by omega))
    have b : I 10 j = I 236 (18 + 4 * j) := h2 j hj
    omega
theorem led_e {I J : pI} {m x w r r' : Int} (hR : Rg I) (h0 : LA 8 0 6 16 4 I) (h1 : LA 9 0 6 17 4 I) (h2 : LA 10 0 6 18 4 I) (h3 : LA 11 0 6 19 4 I) (h4 : ∀ j, 16 ≤ j → j < 40 → J 236 j = I 236 j)
    (c : (¬ ((0 ≤ m ∧ m ≤ 5) ∧ (0 ≤ x ∧ x ≤ 99999) ∧ 0 ≤ w ∧ w ≤ 1) → r = -1000001) ∧ (((0 ≤ m ∧ m ≤ 5) ∧ (0 ≤ x ∧ x ≤ 99999) ∧ 0 ≤ w ∧ w ≤ 1) → (w = 0 → r = wr (lgF (I 8) (I 9) (I 10) 6 m x)) ∧ (¬ w = 0 → r = wr (minN (dbF (I 8) (I 9) (I 10) (I 11) 6 m 0))))) (d : (¬ ((0 ≤ m ∧ m ≤ 5) ∧ (0 ≤ x ∧ x ≤ 99999) ∧ 0 ≤ w ∧ w ≤ 1) → r' = -1000001) ∧ (((0 ≤ m ∧ m ≤ 5) ∧ (0 ≤ x ∧ x ≤ 99999) ∧ 0 ≤ w ∧ w ≤ 1) → (w = 0 → r' = wr (lgF (fun j => J 236 (16 + 4 * j)) (fun j => J 236 (17 + 4 * j)) (fun j => J 236 (18 + 4 * j)) 6 m x)) ∧ (¬ w = 0 → r' = wr (minN (dbF (fun j => J 236 (16 + 4 * j)) (fun j => J 236 (17 + 4 * j)) (fun j => J 236 (18 + 4 * j)) (fun j => J 236 (19 + 4 * j)) 6 m 0))))) : r = r' := by
  have ho := led_h hR h0 h2
  have g0 : ∀ j : Nat, j < 6 → I 8 j = (fun j => J 236 (16 + 4 * j)) j := fun j hj => (h0 j hj).trans (h4 _ (by omega) (by omega)).symm
  have g1 : ∀ j : Nat, j < 6 → I 9 j = (fun j => J 236 (17 + 4 * j)) j := fun j hj => (h1 j hj).trans (h4 _ (by omega) (by omega)).symm
  have g2 : ∀ j : Nat, j < 6 → I 10 j = (fun j => J 236 (18 + 4 * j)) j := fun j hj => (h2 j hj).trans (h4 _ (by omega) (by omega)).symm
  have g3 : ∀ j : Nat, j < 6 → I 11 j = (fun j => J 236 (19 + 4 * j)) j := fun j hj => (h3 j hj).trans (h4 _ (by omega) (by omega)).symm
  by_cases k : ((0 ≤ m ∧ m ≤ 5) ∧ (0 ≤ x ∧ x ≤ 99999) ∧ 0 ≤ w ∧ w ≤ 1)
  · have c1 := c.2 k
    have d1 := d.2 k
    have f := fun j hj => show I 8 j < 6 from by have := (ho.1 j hj); omega
    rw [← lgF_c f g0 g1 g2 6 m x (by omega), ← dbF_c f g0 g1 g2 g3 6 m 0 (by omega)] at d1
    by_cases z : w = 0
    · exact (c1.1 z).trans (d1.1 z).symm
    · exact (c1.2 z).trans (d1.2 z).symm
  · exact (c.1 k).trans (d.1 k).symm
