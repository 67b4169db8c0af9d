/-! drift, from any state. Own work (scripts laid by wip/pm/gen32.py, gen22.py, gen23.py). -/
def lvF : List (Option pV) → List (Option pV) → Prop
  | [], [] => True
  | none :: t', _ :: t => lvF t' t
  | some v :: t', x :: t => x = some v ∧ lvF t' t
  | _, _ => False
theorem lvF_len : ∀ (a b : List (Option pV)), lvF a b → b.length = a.length ∧ ∀ (i : Nat) (v : pV), a[i]? = some (some v) → b[i]? = some (some v)
  | [], [], _ => ⟨rfl, fun i v h => by simp at h⟩
  | none :: t', x :: t, h => by
    obtain ⟨h1, h2⟩ := lvF_len t' t h
    refine ⟨by simp [h1], fun i v hv => ?_⟩
    cases i with
    | zero => simp at hv
    | succ i => simpa using h2 i v (by simpa using hv)
  | some w :: t', x :: t, h => by
    obtain ⟨h0, h⟩ := h
    obtain ⟨h1, h2⟩ := lvF_len t' t h
    refine ⟨by simp [h1], fun i v hv => ?_⟩
    cases i with
    | zero => rw [h0]; simpa using hv
    | succ i => simpa using h2 i v (by simpa using hv)
  | [], _ :: _, h => h.elim
  | none :: _, [], h => h.elim
  | some _ :: _, [], h => h.elim
/-- what a local holds may be forgotten -/
theorem GoN_forget {G : pG} {d k n0 n pc : Nat} {lv' lv : List (Option pV)} {st : List pV} {F : pF} {I : pI} {Q : Option pV → pF → pI → Prop} (h : lvF lv' lv) (g : GoN G d k n0 n pc lv' st F I Q) : GoN G d k n0 n pc lv st F I Q := by
  obtain ⟨g⟩ := g
  obtain ⟨h1, h2⟩ := lvF_len _ _ h
  exact ⟨fun p e s m args below meth c H locs ls hC hH hS => g p e s m args below meth c H locs ls hC ⟨hH.1, hH.2.1, h1.symm.trans hH.2.2.1, fun i v hv => hH.2.2.2 i v (h2 i v hv)⟩ hS⟩
def bc0 (x : Int) : Int := wr (x - bI (suI x 1) 1431655765)
def bc1 (y : Int) : Int := wr (bI y 858993459 + bI (suI y 2) 858993459)
def bc2 (y : Int) : Int := bI (wr (y + suI y 4)) 252645135
def bc3 (y : Int) : Int := wr (y + suI y 8)
def bc4 (y : Int) : Int := wr (y + suI y 16)
def bcI (x : Int) : Int := bI (bc4 (bc3 (bc2 (bc1 (bc0 x))))) 63
/-- how many of the first m bits from bit i on -/
def bsN (k : Nat) : Nat → Nat → Nat → Nat
  | 0, _, s => s
  | m + 1, i, s => bsN k m (i + 1) (s + (k >>> i &&& 1))
theorem bc_all : (List.range 4096).all (fun k => bcI k == bsN k 24 0 0) = true := by decide +kernel
theorem bc_e {k : Int} (hk : 0 ≤ k ∧ k < 4096) : bcI k = bsN k.toNat 24 0 0 := by
  have a := List.all_eq_true.mp bc_all k.toNat (List.mem_range.mpr (by omega))
  rw [show ((k.toNat : Nat) : Int) = k by omega] at a
  simpa using a
theorem and1 (n : Nat) : n &&& 1 = 0 ∨ n &&& 1 = 1 := by rw [Nat.and_one_is_mod]; omega
/-- bit i of k -/
def bt (k i : Int) : Int := bI (srI k i) 1
theorem bt_n {k i : Int} (hk : 0 ≤ k ∧ k < 4096) (hi : 0 ≤ i ∧ i < 24) : bt k i = ((k.toNat >>> i.toNat &&& 1 : Nat) : Int) := by
  unfold bt
  rw [srI_n (by omega) (by omega)]
  have h1 := Nat.shiftRight_le k.toNat i.toNat
  generalize k.toNat >>> i.toNat = z at h1 ⊢
  rw [bI_n (by omega) (by decide)]
  rfl
theorem bt_01 {k i : Int} (hk : 0 ≤ k ∧ k < 4096) (hi : 0 ≤ i ∧ i < 24) : bt k i = 0 ∨ bt k i = 1 := by
  rw [bt_n hk hi]
  rcases and1 (k.toNat >>> i.toNat) with h | h <;> rw [h] <;> simp
def absI (x : Int) : Int := if 0 ≤ x then x else wr (-x)
/-- the sum from number i on -/
def suL (k : Int) : Nat → Int → Int → Int
  | 0, _, s => s
  | m + 1, i, s => suL k m (i + 1) (if bt k i = 0 then s - (i + 1) else s + (i + 1))
def suF (k n : Int) : Int := absI (suL k n.toNat 0 0)
def drL (n : Int) : Nat → Int → Int → Int → Int
  | 0, _, best, _ => best
  | m + 1, k, best, least => if bcI k = n / 2 ∧ suF k n < least then drL n m (k + 1) k (suF k n) else drL n m (k + 1) best least
def fx_drift (n : Int) : Int := if 2 ≤ n ∧ n ≤ 12 then drL n (2 ^ n.toNat) 0 0 2000000000 else -1000001
def fx_driftm (n : Int) : Int := if 2 ≤ n ∧ n ≤ 12 then drL n (2 ^ n.toNat) 0 0 1000 else -1000001
theorem suL_b {k : Int} : ∀ (m : Nat) (i s : Int), 0 ≤ i → i + m ≤ 12 → -(13 * i) ≤ s ∧ s ≤ 13 * i → -156 ≤ suL k m i s ∧ suL k m i s ≤ 156 := by
  intro m
  induction m with
  | zero => intro i s h0 h1 h2; unfold suL; omega
  | succ m ih =>
    intro i s h0 h1 h2
    unfold suL
    refine ih (i + 1) _ (by omega) (by omega) ?_
    split <;> omega
theorem suF_b {k n : Int} (hn : 0 ≤ n ∧ n ≤ 12) : 0 ≤ suF k n ∧ suF k n ≤ 156 := by
  have := suL_b (k := k) n.toNat 0 0 (by decide) (by omega) (by decide)
  unfold suF absI
  split
  · omega
  · unfold wr; omega
theorem drL_e {n : Int} (hn : 0 ≤ n ∧ n ≤ 12) : ∀ (m : Nat) (k best a b : Int), 156 < a → 156 < b → drL n m k best a = drL n m k best b := by
  intro m
  induction m with
  | zero => intro k best a b _ _; rfl
  | succ m ih =>
    intro k best a b ha hb
    have := suF_b (k := k) hn
    unfold drL
    by_cases h : bcI k = n / 2
    · rw [if_pos ⟨h, by omega⟩, if_pos ⟨h, by omega⟩]
    · rw [if_neg (fun e => h e.1), if_neg (fun e => h e.1)]
      exact ih _ _ _ _ ha hb
theorem drift_e (n : Int) : fx_drift n = fx_driftm n := by
  unfold fx_drift fx_driftm
  split
  · exact drL_e (by omega) _ _ _ _ _ (by decide) (by decide)
  · rfl
theorem slI_p {n : Int} (hn : 0 ≤ n ∧ n ≤ 12) : slI 1 n = ((2 ^ n.toNat : Nat) : Int) := by
  have := slI1 ⟨n.toNat, by omega⟩
  rw [← this]
  congr 1
  simp; omega
theorem pow_b {n : Int} (hn : 0 ≤ n ∧ n ≤ 12) : 1 ≤ 2 ^ n.toNat ∧ 2 ^ n.toNat ≤ 4096 := by
  have h : ∀ k : Fin 13, 1 ≤ 2 ^ k.val ∧ 2 ^ k.val ≤ 4096 := by decide
  exact h ⟨n.toNat, by omega⟩
section DR
variable {G : pG} {d : Nat} {F : pF} {I : pI} {Q : Option pV → pF → pI → Prop}
theorem s_J6_bitCount {k : Int} (hQ : Q (some (vi (bcI k))) F I) : CallN G d kJ6_bitCount_0f7a4 [vi k] NP F I Q := by
  refine Call_wp (lv := [some (vi k)]) (by decide) ckJ6_bitCount_0f7a4 [] rfl rfl ?_
  exact ⟨rfl, hQ⟩
theorem s_J9_abs {x : Int} (hQ : Q (some (vi (absI x))) F I) : CallN G d kJ9_abs_0f7a4 [vi x] NP F I Q := by
  refine Call_wp (lv := [some (vi x)]) (by decide) ckJ9_abs_0f7a4 [] rfl rfl ?_
  refine ⟨fun (c1 : ((0 : Int) ≤ x)) => ?_, fun (c1 : (¬ ((0 : Int) ≤ x))) => ?_⟩
  ·
    have e : absI x = x := by unfold absI; first | rw [if_pos (by omega)] | rw [if_neg (by omega)]
    rw [e] at hQ
    exact ⟨rfl, hQ⟩
  ·
    have e : absI x = (wr (- x)) := by unfold absI; first | rw [if_pos (by omega)] | rw [if_neg (by omega)]
    rw [e] at hQ
    exact ⟨rfl, hQ⟩
theorem s_sum_loop {k n : Int} (hk : 0 ≤ k ∧ k < 4096) (hn : 0 ≤ n ∧ n ≤ 12) : ∀ (m : Nat) (i s : Int), 0 ≤ i → i + m = n → -(13 * i) ≤ s ∧ s ≤ 13 * i → Q (some (vi (absI (suL k m i s)))) F I → GoN G (d + 3) kX11_sumsApart NP NP 4 [some (vi k), some (vi n), some (vi s), some (vi i)] [] F I Q := by
  intro m
  induction m with
  | zero =>
    intro i s hi hm hs hN
    refine Go_wp (by decide) ckX11_sumsApart [4] ?_
    refine ⟨fun _ => ?_, fun c => absurd (show ((n : Int) ≤ i) from by first | omega | (simp only [wr, wl] at *; omega)) c⟩
    refine s_J9_abs (x := s) ?_
    exact ⟨rfl, hN⟩
  | succ m ih =>
    intro i s hi hm hs hN
    have h01 := bt_01 (i := i) hk (by omega)
    unfold bt at h01
    refine Go_wp (by decide) ckX11_sumsApart [4] ?_
    refine ⟨fun c => absurd c (show (¬ ((n : Int) ≤ i)) from by first | omega | (simp only [wr, wl] at *; omega)), fun _ => ?_⟩
    refine ⟨fun (c1 : (((bI (srI k i) 1) : Int) = 0)) => ?_, fun (c1 : (¬ (((bI (srI k i) 1) : Int) = 0))) => ?_⟩
    ·
      have eq1 : (wr (i + 1)) = i + 1 := by unfold wr; omega
      have eq2 : (wr (s + (wr (- (wr (i + 1)))))) = (if bt k i = 0 then s - (i + 1) else s + (i + 1)) := by
        unfold bt
        first
          | (rw [if_pos (by omega)]; unfold wr; omega)
          | (rw [if_neg (by omega)]; unfold wr; omega)
      refine GoN_forget (lv' := [some (vi k), some (vi n), some (vi _), some (vi (i + 1))]) ?_ (ih (i + 1) _ (by omega) (by omega) ?_ hN)
      · repeat (first | exact trivial | refine ⟨rfl, ?_⟩ | refine ⟨congrArg (fun z => some (vi z)) eq1, ?_⟩ | refine ⟨congrArg (fun z => some (vi z)) eq2, ?_⟩)
      · split <;> omega
    ·
      have eq1 : (wr (i + 1)) = i + 1 := by unfold wr; omega
      have eq2 : (wr (s + (wr (i + 1)))) = (if bt k i = 0 then s - (i + 1) else s + (i + 1)) := by
        unfold bt
        first
          | (rw [if_pos (by omega)]; unfold wr; omega)
          | (rw [if_neg (by omega)]; unfold wr; omega)
      refine GoN_forget (lv' := [some (vi k), some (vi n), some (vi _), some (vi (i + 1))]) ?_ (ih (i + 1) _ (by omega) (by omega) ?_ hN)
      · repeat (first | exact trivial | refine ⟨rfl, ?_⟩ | refine ⟨congrArg (fun z => some (vi z)) eq1, ?_⟩ | refine ⟨congrArg (fun z => some (vi z)) eq2, ?_⟩)
      · split <;> omega
theorem s_X11_sumsApart {k n : Int} (hk : 0 ≤ k ∧ k < 4096) (hn : 0 ≤ n ∧ n ≤ 12) (hQ : Q (some (vi (suF k n))) F I) : CallN G (d + 3) kX11_sumsApart [vi k, vi n] NP F I Q := by
  refine Call_wp (lv := [some (vi k), some (vi n), none, none]) (by decide) ckX11_sumsApart [4] rfl rfl ?_
  exact s_sum_loop hk hn n.toNat 0 0 (by decide) (by omega) (by decide) hQ
theorem s_drift_loop {n : Int} (hn : 2 ≤ n ∧ n ≤ 12) : ∀ (m : Nat) (k best least : Int), 0 ≤ k → k + m = slI 1 n → Q (some (vi (drL n m k best least))) F I → GoN G (d + 8) kX11_drift NP NP 25 [some (vr 0), some (vi n), some (vi best), some (vi least), some (vi k)] [] F I Q := by
  intro m
  have hpw := pow_b (n := n) (by omega)
  have hsl := slI_p (n := n) (by omega)
  induction m with
  | zero =>
    intro k best least hk hm hN
    refine Go_wp (by decide) ckX11_drift [25] ?_
    refine ⟨fun _ => ?_, fun c => absurd (show (((slI 1 n) : Int) ≤ k) from by first | omega | (simp only [wr, wl] at *; omega)) c⟩
    exact ⟨rfl, hN⟩
  | succ m ih =>
    intro k best least hk hm hN
    have hdv : wr (Int.tdiv n 2) = n / 2 := by rw [Int.tdiv_eq_ediv_of_nonneg (by omega)]; unfold wr; omega
    have hsb := suF_b (k := k) (n := n) (by omega)
    refine Go_wp (by decide) ckX11_drift [25] ?_
    refine ⟨fun c => absurd c (show (¬ (((slI 1 n) : Int) ≤ k)) from by first | omega | (simp only [wr, wl] at *; omega)), fun _ => ?_⟩
    refine s_J6_bitCount (k := k) ?_
    refine ⟨(by decide), ?_⟩
    refine ⟨fun (c1 : (¬ ((bcI k) : Int) = (wr (Int.tdiv n 2)))) => ?_, fun (c1 : (((bcI k) : Int) = (wr (Int.tdiv n 2)))) => ?_⟩
    ·
      have eq1 : (wr (k + 1)) = k + 1 := by unfold wr; omega
      have eq2 := eq1
      unfold drL at hN
      first
        | (rw [if_pos ⟨by omega, by omega⟩] at hN; refine GoN_forget (lv' := [some (vr 0), some (vi n), some (vi best), some (vi least), some (vi (k + 1))]) ?_ (ih (k + 1) _ _ (by omega) (by omega) hN))
        | (rw [if_neg (fun e => by have := e.1; have := e.2; omega)] at hN; refine GoN_forget (lv' := [some (vr 0), some (vi n), some (vi best), some (vi least), some (vi (k + 1))]) ?_ (ih (k + 1) _ _ (by omega) (by omega) hN))
      repeat (first | exact trivial | refine ⟨rfl, ?_⟩ | refine ⟨congrArg (fun z => some (vi z)) eq1, ?_⟩ | refine ⟨congrArg (fun z => some (vi z)) eq2, ?_⟩)
    ·
      refine s_X11_sumsApart (k := k) (n := n) (by omega) (by omega) ?_
      refine ⟨fun (c2 : ((least : Int) ≤ (suF k n))) => ?_, fun (c2 : (¬ ((least : Int) ≤ (suF k n)))) => ?_⟩
      ·
        have eq1 : (wr (k + 1)) = k + 1 := by unfold wr; omega
        have eq2 := eq1
        unfold drL at hN
        first
          | (rw [if_pos ⟨by omega, by omega⟩] at hN; refine GoN_forget (lv' := [some (vr 0), some (vi n), some (vi best), some (vi least), some (vi (k + 1))]) ?_ (ih (k + 1) _ _ (by omega) (by omega) hN))
          | (rw [if_neg (fun e => by have := e.1; have := e.2; omega)] at hN; refine GoN_forget (lv' := [some (vr 0), some (vi n), some (vi best), some (vi least), some (vi (k + 1))]) ?_ (ih (k + 1) _ _ (by omega) (by omega) hN))
        repeat (first | exact trivial | refine ⟨rfl, ?_⟩ | refine ⟨congrArg (fun z => some (vi z)) eq1, ?_⟩ | refine ⟨congrArg (fun z => some (vi z)) eq2, ?_⟩)
      ·
        refine s_X11_sumsApart (k := k) (n := n) (by omega) (by omega) ?_
        have eq1 : (wr (k + 1)) = k + 1 := by unfold wr; omega
        have eq2 := eq1
        unfold drL at hN
        first
          | (rw [if_pos ⟨by omega, by omega⟩] at hN; refine GoN_forget (lv' := [some (vr 0), some (vi n), some (vi k), some (vi (suF k n)), some (vi (k + 1))]) ?_ (ih (k + 1) _ _ (by omega) (by omega) hN))
          | (rw [if_neg (fun e => by have := e.1; have := e.2; omega)] at hN; refine GoN_forget (lv' := [some (vr 0), some (vi n), some (vi k), some (vi (suF k n)), some (vi (k + 1))]) ?_ (ih (k + 1) _ _ (by omega) (by omega) hN))
        repeat (first | exact trivial | refine ⟨rfl, ?_⟩ | refine ⟨congrArg (fun z => some (vi z)) eq1, ?_⟩ | refine ⟨congrArg (fun z => some (vi z)) eq2, ?_⟩)
theorem c_drift2 (hF : FS F) (hR : Rg I) {v0 : Int}  (hQ : ∀ (r : Int) (I' : pI), Rg I' → AR I' → iR r → (∀ k j, ¬ (k = 203) → I' k j = I k j) → (r = fx_drift v0) → Q (some (vi r)) F I') : CallN G (d + 8) kX11_drift [vr 0, vi v0] NP F I Q := by
  refine CallN_in (fun hok hA => CallN_out ?_)
  have iv0 : -2147483648 ≤ v0 ∧ v0 < 2147483648 := hok (vi v0) (by simp)
  refine Call_wp (lv := [some (vr 0), some (vi v0), none, none, none]) (by decide) ckX11_drift [25] rfl rfl ?_
  refine s_X11_within (fun (w1 : ((2 : Int) ≤ v0 ∧ (v0 : Int) ≤ 12)) => ?_) (fun (w1 : ¬ ((2 : Int) ≤ v0 ∧ (v0 : Int) ≤ 12)) => ?_)
  ·
    refine ⟨fun _ => ?_, fun c => absurd c (show (¬ (1 : Int) = 0) from by decide)⟩
    have hsl := slI_p (n := v0) (by omega)
    refine s_drift_loop (by omega) (2 ^ v0.toNat) 0 0 2000000000 (by decide) (by omega) ?_
    exact fun hv hA' => hQ _ _ hR hA' (hv _ rfl) (fun _ _ _ => rfl) (by unfold fx_drift; rw [if_pos (by omega)])
  ·
    refine ⟨fun c => absurd (show ((0 : Int) = 0) from by decide) c, fun _ => ?_⟩
    refine ⟨⟨_, rfl, (by decide)⟩, ?_⟩
    refine s_X11_refuse hF (e := 1) (by decide) ?_
    exact ⟨rfl, fun hv hA' => hQ _ _ (Rg.u hR (Pr_f rfl)) hA' (hv _ rfl) (fun ka ja hk => (uI_o (show ¬ (ka = 203 ∧ ja = 1) from by omega))) (show (-1000001) = fx_drift v0 from by (unfold fx_drift; first | rw [if_pos (by omega)] | rw [if_neg (by omega)]))⟩
end DR
section DM
variable {G : pG} {d : Nat} {F : pF} {I : pI} {Q : Option pV → pF → pI → Prop}
theorem m_bits_loop {k : Int} (hk : 0 ≤ k ∧ k < 4096) : ∀ (m : Nat) (i s : Int), 0 ≤ i → i + m = 24 → 0 ≤ s ∧ s ≤ i → Q (some (vi ((bsN k.toNat m i.toNat s.toNat : Nat) : Int))) F I → GoN G d kX12_bits NP NP 4 [some (vi k), some (vi s), some (vi i)] [] F I Q := by
  intro m
  induction m with
  | zero =>
    intro i s hi hm hs hN
    refine Go_wp (by decide) ckX12_bits [4] ?_
    refine ⟨fun _ => ?_, fun c => absurd (show ((24 : Int) ≤ i) from by first | omega | (simp only [wr, wl] at *; omega)) c⟩
    have e : ((bsN k.toNat 0 i.toNat s.toNat : Nat) : Int) = s := by show ((s.toNat : Nat) : Int) = _; omega
    rw [e] at hN
    exact ⟨rfl, hN⟩
  | succ m ih =>
    intro i s hi hm hs hN
    have h01 := bt_01 (i := i) hk (by omega)
    have hbt := bt_n (i := i) hk (by omega)
    unfold bt at h01
    refine Go_wp (by decide) ckX12_bits [4] ?_
    refine ⟨fun c => absurd c (show (¬ ((24 : Int) ≤ i)) from by first | omega | (simp only [wr, wl] at *; omega)), fun _ => ?_⟩
    have eq1 : (wr (i + 1)) = i + 1 := by unfold wr; omega
    have eq2 : (wr (s + (bI (srI k i) 1))) = s + bt k i := by unfold bt wr; omega
    have h02 : 0 ≤ bt k i ∧ bt k i ≤ 1 := by unfold bt; omega
    refine GoN_forget (lv' := [some (vi k), some (vi (s + bt k i)), some (vi (i + 1))]) ?_ (ih (i + 1) (s + bt k i) (by omega) (by omega) (by omega) ?_)
    · repeat (first | exact trivial | refine ⟨rfl, ?_⟩ | refine ⟨congrArg (fun z => some (vi z)) eq1, ?_⟩ | refine ⟨congrArg (fun z => some (vi z)) eq2, ?_⟩)
    · have e : bsN k.toNat (m + 1) i.toNat s.toNat = bsN k.toNat m (i + 1).toNat (s + bt k i).toNat := by
        show bsN k.toNat m (i.toNat + 1) (s.toNat + (k.toNat >>> i.toNat &&& 1)) = _
        rw [show (i + 1).toNat = i.toNat + 1 by omega]
        congr 1
        rw [hbt] at h02 ⊢
        generalize (k.toNat >>> i.toNat &&& 1) = z at *
        omega
      rw [← e]
      exact hN
theorem m_X12_bits {k : Int} (hk : 0 ≤ k ∧ k < 4096) (hQ : Q (some (vi (bcI k))) F I) : CallN G d kX12_bits [vi k] NP F I Q := by
  refine Call_wp (lv := [some (vi k), none, none]) (by decide) ckX12_bits [4] rfl rfl ?_
  refine m_bits_loop hk 24 0 0 (by decide) (by decide) (by decide) ?_
  have e := bc_e hk
  rw [e] at hQ
  exact hQ
theorem m_off_loop {k n best least : Int} (hk : 0 ≤ k ∧ k < 4096) (hn : 0 ≤ n ∧ n ≤ 12) : ∀ (m : Nat) (i s : Int), 0 ≤ i → i + m = n → -(13 * i) ≤ s ∧ s ≤ 13 * i → GoN G (d + 3) kX12_drift NP NP 79 [some (vr 235), some (vi n), some (vi best), some (vi least), some (vi k), some (vi (suL k m i s)), none] [] F I Q → GoN G (d + 3) kX12_drift NP NP 40 [some (vr 235), some (vi n), some (vi best), some (vi least), some (vi k), some (vi s), some (vi i)] [] F I Q := by
  intro m
  induction m with
  | zero =>
    intro i s hi hm hs hN
    refine Go_wp (by decide) ckX12_drift [40, 79] ?_
    refine ⟨fun _ => ?_, fun c => absurd (show ((n : Int) ≤ i) from by first | omega | (simp only [wr, wl] at *; omega)) c⟩
    refine GoN_forget (lv' := [some (vr 235), some (vi n), some (vi best), some (vi least), some (vi k), some (vi s), none]) ?_ hN
    repeat (first | exact trivial | refine ⟨rfl, ?_⟩ | refine ⟨congrArg (fun z => some (vi z)) eq1, ?_⟩ | refine ⟨congrArg (fun z => some (vi z)) eq2, ?_⟩)
  | succ m ih =>
    intro i s hi hm hs hN
    have h01 := bt_01 (i := i) hk (by omega)
    unfold bt at h01
    refine Go_wp (by decide) ckX12_drift [40, 79] ?_
    refine ⟨fun c => absurd c (show (¬ ((n : Int) ≤ i)) from by first | omega | (simp only [wr, wl] at *; omega)), fun _ => ?_⟩
    refine Call_wp (lv := [some (vi k), some (vi i)]) (by decide) ckX12_has [] rfl rfl ?_
    refine ⟨fun (c1 : (¬ ((bI (srI k i) 1) : Int) = 1)) => ?_, fun (c1 : (((bI (srI k i) 1) : Int) = 1)) => ?_⟩
    ·
      refine ⟨rfl, (by decide), ?_⟩
      refine ⟨fun _ => ?_, fun c => absurd (show ((0 : Int) = 0) from by decide) c⟩
      have eq1 : (wr (i + 1)) = i + 1 := by unfold wr; omega
      have eq2 : (wr (s + (wr ((wr (- i)) - 1)))) = (if bt k i = 0 then s - (i + 1) else s + (i + 1)) := by
        unfold bt
        first
          | (rw [if_pos (by omega)]; unfold wr; omega)
          | (rw [if_neg (by omega)]; unfold wr; omega)
      refine GoN_forget (lv' := [some (vr 235), some (vi n), some (vi best), some (vi least), some (vi k), some (vi _), some (vi (i + 1))]) ?_ (ih (i + 1) _ (by omega) (by omega) ?_ hN)
      · repeat (first | exact trivial | refine ⟨rfl, ?_⟩ | refine ⟨congrArg (fun z => some (vi z)) eq1, ?_⟩ | refine ⟨congrArg (fun z => some (vi z)) eq2, ?_⟩)
      · split <;> omega
    ·
      refine ⟨rfl, (by decide), ?_⟩
      refine ⟨fun c => absurd c (show (¬ ((1 : Int) = 0)) from by decide), fun _ => ?_⟩
      have eq1 : (wr (i + 1)) = i + 1 := by unfold wr; omega
      have eq2 : (wr (s + (wr (i + 1)))) = (if bt k i = 0 then s - (i + 1) else s + (i + 1)) := by
        unfold bt
        first
          | (rw [if_pos (by omega)]; unfold wr; omega)
          | (rw [if_neg (by omega)]; unfold wr; omega)
      refine GoN_forget (lv' := [some (vr 235), some (vi n), some (vi best), some (vi least), some (vi k), some (vi _), some (vi (i + 1))]) ?_ (ih (i + 1) _ (by omega) (by omega) ?_ hN)
      · repeat (first | exact trivial | refine ⟨rfl, ?_⟩ | refine ⟨congrArg (fun z => some (vi z)) eq1, ?_⟩ | refine ⟨congrArg (fun z => some (vi z)) eq2, ?_⟩)
      · split <;> omega
theorem m_drift_loop {n : Int} (hn : 2 ≤ n ∧ n ≤ 12) : ∀ (m : Nat) (k best least : Int), 0 ≤ k → k + m = slI 1 n → Q (some (vi (drL n m k best least))) F I → GoN G (d + 8) kX12_drift NP NP 26 [some (vr 235), some (vi n), some (vi best), some (vi least), some (vi k), none, none] [] F I Q := by
  intro m
  have hpw := pow_b (n := n) (by omega)
  have hsl := slI_p (n := n) (by omega)
  induction m with
  | zero =>
    intro k best least hk hm hN
    refine Go_wp (by decide) ckX12_drift [40] ?_
    refine ⟨fun _ => ?_, fun c => absurd (show (((slI 1 n) : Int) ≤ k) from by first | omega | (simp only [wr, wl] at *; omega)) c⟩
    exact ⟨rfl, hN⟩
  | succ m ih =>
    intro k best least hk hm hN
    have hdv : wr (Int.tdiv n 2) = n / 2 := by rw [Int.tdiv_eq_ediv_of_nonneg (by omega)]; unfold wr; omega
    have hsb := suF_b (k := k) (n := n) (by omega)
    refine Go_wp (by decide) ckX12_drift [40] ?_
    refine ⟨fun c => absurd c (show (¬ (((slI 1 n) : Int) ≤ k)) from by first | omega | (simp only [wr, wl] at *; omega)), fun _ => ?_⟩
    refine m_off_loop (by omega) (by omega) n.toNat 0 0 (by decide) (by omega) (by decide) ?_
    have hab : absI (suL k n.toNat 0 0) = suF k n := rfl
    refine Go_wp (by decide) ckX12_drift [26] ?_
    refine m_X12_bits (k := k) (by omega) ?_
    refine ⟨(by decide), ?_⟩
    refine ⟨fun (c1 : (¬ ((bcI k) : Int) = (wr (Int.tdiv n 2)))) => ?_, fun (c1 : (((bcI k) : Int) = (wr (Int.tdiv n 2)))) => ?_⟩
    ·
      have eq1 : (wr (k + 1)) = k + 1 := by unfold wr; omega
      have eq2 := eq1
      unfold drL at hN
      first
        | (rw [if_pos ⟨by omega, by omega⟩] at hN; refine GoN_forget (lv' := [some (vr 235), some (vi n), some (vi best), some (vi least), some (vi (k + 1)), none, none]) ?_ (ih (k + 1) _ _ (by omega) (by omega) hN))
        | (rw [if_neg (fun e => by have := e.1; have := e.2; omega)] at hN; refine GoN_forget (lv' := [some (vr 235), some (vi n), some (vi best), some (vi least), some (vi (k + 1)), none, none]) ?_ (ih (k + 1) _ _ (by omega) (by omega) hN))
      repeat (first | exact trivial | refine ⟨rfl, ?_⟩ | refine ⟨congrArg (fun z => some (vi z)) eq1, ?_⟩ | refine ⟨congrArg (fun z => some (vi z)) eq2, ?_⟩)
    ·
      refine s_J9_abs (x := (suL k n.toNat 0 0)) ?_
      refine ⟨fun (c2 : ((least : Int) ≤ (absI (suL k n.toNat 0 0)))) => ?_, fun (c2 : (¬ ((least : Int) ≤ (absI (suL k n.toNat 0 0))))) => ?_⟩
      ·
        have eq1 : (wr (k + 1)) = k + 1 := by unfold wr; omega
        have eq2 := eq1
        unfold drL at hN
        first
          | (rw [if_pos ⟨by omega, by omega⟩] at hN; refine GoN_forget (lv' := [some (vr 235), some (vi n), some (vi best), some (vi least), some (vi (k + 1)), none, none]) ?_ (ih (k + 1) _ _ (by omega) (by omega) hN))
          | (rw [if_neg (fun e => by have := e.1; have := e.2; omega)] at hN; refine GoN_forget (lv' := [some (vr 235), some (vi n), some (vi best), some (vi least), some (vi (k + 1)), none, none]) ?_ (ih (k + 1) _ _ (by omega) (by omega) hN))
        repeat (first | exact trivial | refine ⟨rfl, ?_⟩ | refine ⟨congrArg (fun z => some (vi z)) eq1, ?_⟩ | refine ⟨congrArg (fun z => some (vi z)) eq2, ?_⟩)
      ·
        refine s_J9_abs (x := (suL k n.toNat 0 0)) ?_
        have eq1 : (wr (k + 1)) = k + 1 := by unfold wr; omega
        have eq2 := eq1
        unfold drL at hN
        first
          | (rw [if_pos ⟨by omega, by omega⟩] at hN; refine GoN_forget (lv' := [some (vr 235), some (vi n), some (vi k), some (vi (absI (suL k n.toNat 0 0))), some (vi (k + 1)), none, none]) ?_ (ih (k + 1) _ _ (by omega) (by omega) hN))
          | (rw [if_neg (fun e => by have := e.1; have := e.2; omega)] at hN; refine GoN_forget (lv' := [some (vr 235), some (vi n), some (vi k), some (vi (absI (suL k n.toNat 0 0))), some (vi (k + 1)), none, none]) ?_ (ih (k + 1) _ _ (by omega) (by omega) hN))
        repeat (first | exact trivial | refine ⟨rfl, ?_⟩ | refine ⟨congrArg (fun z => some (vi z)) eq1, ?_⟩ | refine ⟨congrArg (fun z => some (vi z)) eq2, ?_⟩)
theorem r_drift2 (hF : FS F) (hR : Rg I) {v0 : Int}  (hQ : ∀ (r : Int) (I' : pI), Rg I' → AR I' → iR r → (∀ k j, ¬ (k = 238) → I' k j = I k j) → (r = fx_driftm v0) → Q (some (vi r)) F I') : CallN G (d + 8) kX12_drift [vr 235, vi v0] NP F I Q := by
  refine CallN_in (fun hok hA => CallN_out ?_)
  have iv0 : -2147483648 ≤ v0 ∧ v0 < 2147483648 := hok (vi v0) (by simp)
  refine Call_wp (lv := [some (vr 235), some (vi v0), none, none, none, none, none]) (by decide) ckX12_drift [26] rfl rfl ?_
  refine s_X12_within (fun (w1 : ((2 : Int) ≤ v0 ∧ (v0 : Int) ≤ 12)) => ?_) (fun (w1 : ¬ ((2 : Int) ≤ v0 ∧ (v0 : Int) ≤ 12)) => ?_)
  ·
    refine ⟨fun _ => ?_, fun c => absurd c (show (¬ (1 : Int) = 0) from by decide)⟩
    have hsl := slI_p (n := v0) (by omega)
    refine m_drift_loop (by omega) (2 ^ v0.toNat) 0 0 1000 (by decide) (by omega) ?_
    exact fun hv hA' => hQ _ _ hR hA' (hv _ rfl) (fun _ _ _ => rfl) (by unfold fx_driftm; rw [if_pos (by omega)])
  ·
    refine ⟨fun c => absurd (show ((0 : Int) = 0) from by decide) c, fun _ => ?_⟩
    refine ⟨⟨_, rfl, (by decide)⟩, ?_⟩
    refine s_X12_finding hF (v := (-1000001)) (by decide) ?_
    exact ⟨rfl, fun hv hA' => hQ _ _ (Rg.u hR (Pr_f rfl)) hA' (hv _ rfl) (fun ka ja hk => (uI_o (show ¬ (ka = 238 ∧ ja = 1) from by omega))) (show (-1000001) = fx_driftm v0 from by (unfold fx_driftm; first | rw [if_pos (by omega)] | rw [if_neg (by omega)]))⟩
end DM
