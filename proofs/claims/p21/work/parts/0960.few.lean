/-! few, from any state. Own work (scripts laid by wip/pm/gen32.py and gen21.py). -/
def pwL (b : Int) : Nat → Int → Int
  | 0, v => v
  | m + 1, v => pwL b m (wl (v * b))
def pwF (b e : Int) : Int := pwL b e.toNat 1
def spL (n p most : Int) : Nat → Int → Int → Int → Int
  | 0, _, _, _ => n
  | m + 1, k, ways, fewer =>
    if most < wl ((wl (fewer + (wl ((wl (ways * (pwF (wr (10 - p)) k))) * (pwF p (wr (n - k))))))) * 10) then k
    else spL n p most m (k + 1) (wl (Int.tdiv (wl (ways * (wr (n - k)))) (wr (k + 1)))) (wl (fewer + (wl ((wl (ways * (pwF (wr (10 - p)) k))) * (pwF p (wr (n - k)))))))
def spF (n p t : Int) : Int := spL n p (wl ((wr (10 - t)) * (pwF 10 n))) n.toNat 0 1 0
def wyL (n : Int) : Nat → Int → Int → Int
  | 0, _, v => v
  | m + 1, k, v => wyL n m (k + 1) (wl (Int.tdiv (wl (v * (wr (n - k)))) (wr (k + 1))))
def mpL (p j : Int) : Nat → Int → Int → Int
  | 0, _, v => v
  | m + 1, k, v => mpL p j m (k + 1) (wl (v * (if j ≤ k then p else wr (10 - p))))
def rkL (n p t all : Int) : Nat → Int → Int → Int → Int
  | 0, _, _, r => r
  | m + 1, j, sum, r => rkL n p t all m (j + 1) (wl (sum + (mpL p j n.toNat 0 (wyL n j.toNat 0 1)))) (if wl ((wr (10 - t)) * all) < wl (10 * (wl (sum + (mpL p j n.toNat 0 (wyL n j.toNat 0 1))))) then r else wr (j + 1))
def rkF (n p t : Int) : Int := rkL n p t (pwF 10 n) n.toNat 0 0 0
def lvF : List (Option pV) → List (Option pV) → Prop
  | [], [] => True
  | none :: t', _ :: t => lvF t' t
  | some v :: t', x :: t => x = some v ∧ lvF t' t
  | _, _ => False
theorem lvF_len : ∀ (a b : List (Option pV)), lvF a b → b.length = a.length ∧ ∀ (i : Nat) (v : pV), a[i]? = some (some v) → b[i]? = some (some v)
  | [], [], _ => ⟨rfl, fun i v h => by simp at h⟩
  | none :: t', x :: t, h => by
    obtain ⟨h1, h2⟩ := lvF_len t' t h
    refine ⟨by simp [h1], fun i v hv => ?_⟩
    cases i with
    | zero => simp at hv
    | succ i => simpa using h2 i v (by simpa using hv)
  | some w :: t', x :: t, h => by
    obtain ⟨h0, h⟩ := h
    obtain ⟨h1, h2⟩ := lvF_len t' t h
    refine ⟨by simp [h1], fun i v hv => ?_⟩
    cases i with
    | zero => rw [h0]; simpa using hv
    | succ i => simpa using h2 i v (by simpa using hv)
  | [], _ :: _, h => h.elim
  | none :: _, [], h => h.elim
  | some _ :: _, [], h => h.elim
/-- what a local holds may be forgotten -/
theorem GoN_forget {G : pG} {d k n0 n pc : Nat} {lv' lv : List (Option pV)} {st : List pV} {F : pF} {I : pI} {Q : Option pV → pF → pI → Prop} (h : lvF lv' lv) (g : GoN G d k n0 n pc lv' st F I Q) : GoN G d k n0 n pc lv st F I Q := by
  obtain ⟨g⟩ := g
  obtain ⟨h1, h2⟩ := lvF_len _ _ h
  exact ⟨fun p e s m args below meth c H locs ls hC hH hS => g p e s m args below meth c H locs ls hC ⟨hH.1, hH.2.1, h1.symm.trans hH.2.2.1, fun i v hv => hH.2.2.2 i v (h2 i v hv)⟩ hS⟩
section FW
variable {G : pG} {d : Nat} {F : pF} {I : pI} {Q : Option pV → pF → pI → Prop}
theorem s_power_loop {b e : Int} (he : 0 ≤ e ∧ e ≤ 12) : ∀ (m : Nat) (k : Int) (v : Int), 0 ≤ k → k + m = e → Q (some (vl (pwL b m v))) F I → GoN G d kX3_power NP NP 5 [some (vi b), some (vi e), some (vl v), none, some (vi k)] [] F I Q := by
  intro m
  induction m with
  | zero =>
    intro k v hk hm hN
    have hkn : k = e := by omega
    refine Go_wp (by decide) ckX3_power [5] ?_
    refine ⟨fun _ => ?_, fun c => absurd (show ((e : Int) ≤ k) from by first | with_reducible assumption | omega | (simp only [wr, wl] at *; omega)) c⟩
    exact ⟨rfl, hN⟩
  | succ m ih =>
    intro k v hk hm hN
    refine Go_wp (by decide) ckX3_power [5] ?_
    refine ⟨fun c => absurd c (show (¬ ((e : Int) ≤ k)) from by first | omega | (simp only [wr, wl] at *; omega)), fun _ => ?_⟩
    have eqk : (wr (k + 1)) = k + 1 := by unfold wr; omega
    refine (congrArg (fun z => GoN G d kX3_power NP NP 5 [some (vi b), some (vi e), some (vl (wl (v * b))), none, some (vi z)] [] F _ Q) eqk).mpr ?_
    exact ih (k + 1) _ (by omega) (by omega) hN
theorem s_X3_power {b e : Int} (he : 0 ≤ e ∧ e ≤ 12) (hQ : Q (some (vl (pwF b e))) F I) : CallN G d kX3_power [vi b, vi e] NP F I Q := by
  refine Call_wp (lv := [some (vi b), some (vi e), none, none, none]) (by decide) ckX3_power [5] rfl rfl ?_
  exact s_power_loop he e.toNat 0 1 (by decide) (by omega) hQ
theorem s_sure_loop {n p t most : Int} (hn : 1 ≤ n ∧ n ≤ 12) (hp : 1 ≤ p ∧ p ≤ 9) : ∀ (m : Nat) (k : Int) (ways fewer : Int), 0 ≤ k → k + m = n → Q (some (vi (spL n p most m k ways fewer))) F I → GoN G (d + 3) kX3_surePlace NP NP 35 [some (vi n), some (vi p), some (vi t), some (vl most), none, some (vl ways), none, some (vl fewer), none, some (vi k)] [] F I Q := by
  intro m
  induction m with
  | zero =>
    intro k ways fewer hk hm hN
    have hkn : k = n := by omega
    refine Go_wp (by decide) ckX3_surePlace [35] ?_
    refine ⟨fun _ => ?_, fun c => absurd (show ((n : Int) ≤ k) from by first | with_reducible assumption | omega | (simp only [wr, wl] at *; omega)) c⟩
    unfold spL at hN
    first
      | (rw [if_pos (by omega)] at hN; exact ⟨rfl, hN⟩)
      | exact ⟨rfl, hN⟩
  | succ m ih =>
    intro k ways fewer hk hm hN
    refine Go_wp (by decide) ckX3_surePlace [35] ?_
    refine ⟨fun c => absurd c (show (¬ ((n : Int) ≤ k)) from by first | omega | (simp only [wr, wl] at *; omega)), fun _ => ?_⟩
    refine s_X3_power (b := (wr (10 - p))) (e := k) (by first | omega | (simp only [wr, wl] at *; omega)) ?_
    have n1 : (wr (n - k)) = n - k := wr_id (show -2147483648 ≤ (n - k : Int) ∧ (n - k : Int) < 2147483648 from by omega)
    refine s_X3_power (b := p) (e := (wr (n - k))) (by first | omega | (simp only [wr, wl] at *; omega)) ?_
    refine ⟨fun c2 => ?_, fun c2 => ?_⟩
    ·
      have c2 : (((wl ((wl (fewer + (wl ((wl (ways * (pwF (wr (10 - p)) k))) * (pwF p (wr (n - k))))))) * 10)) : Int) ≤ most) := lcm_le.1 c2
      refine ⟨(by first | omega | (simp only [wr, wl] at *; omega)), ?_⟩
      have eqk : (wr (k + 1)) = k + 1 := by unfold wr; omega
      refine (congrArg (fun z => GoN G (d + 3) kX3_surePlace NP NP 35 [some (vi n), some (vi p), some (vi t), some (vl most), none, some (vl (wl (Int.tdiv (wl (ways * (wr (n - k)))) (wr (k + 1))))), none, some (vl (wl (fewer + (wl ((wl (ways * (pwF (wr (10 - p)) k))) * (pwF p (wr (n - k)))))))), none, some (vi z)] [] F _ Q) eqk).mpr ?_
      unfold spL at hN
      rw [if_neg (by omega)] at hN
      exact ih (k + 1) _ _ (by omega) (by omega) hN
    ·
      have c2 : (¬ (((wl ((wl (fewer + (wl ((wl (ways * (pwF (wr (10 - p)) k))) * (pwF p (wr (n - k))))))) * 10)) : Int) ≤ most)) := fun e => c2 (lcm_le.2 e)
      unfold spL at hN
      first
        | (rw [if_pos (by omega)] at hN; exact ⟨rfl, hN⟩)
        | exact ⟨rfl, hN⟩
theorem s_X3_surePlace {n p t : Int} (hn : 1 ≤ n ∧ n ≤ 12) (hp : 1 ≤ p ∧ p ≤ 9) (ht : 1 ≤ t ∧ t ≤ 9) (hQ : Q (some (vi (spF n p t))) F I) : CallN G (d + 3) kX3_surePlace [vi n, vi p, vi t] NP F I Q := by
  refine Call_wp (lv := [some (vi n), some (vi p), some (vi t), none, none, none, none, none, none, none]) (by decide) ckX3_surePlace [35] rfl rfl ?_
  refine ⟨fun c => absurd c (show (¬ ((n : Int) < 1)) from by first | omega | (simp only [wr, wl] at *; omega)), fun _ => ?_⟩
  refine ⟨fun _ => ?_, fun c => absurd (show ((n : Int) ≤ 12) from by first | with_reducible assumption | omega | (simp only [wr, wl] at *; omega)) c⟩
  refine s_X3_power (b := 10) (e := n) (by first | omega | (simp only [wr, wl] at *; omega)) ?_
  exact s_sure_loop (t := t) hn hp n.toNat 0 1 0 (by decide) (by omega) hQ
theorem m_all_loop {n p t : Int} (hn : 1 ≤ n ∧ n ≤ 12) : ∀ (m : Nat) (k : Int) (all : Int), 0 ≤ k → k + m = n → GoN G d kX12_rankOf NP NP 23 [some (vi n), some (vi p), some (vi t), some (vl (pwL 10 m all)), none, none, none, none, none, none, none, none] [] F I Q → GoN G d kX12_rankOf NP NP 5 [some (vi n), some (vi p), some (vi t), some (vl all), none, some (vi k), none, none, none, none, none, none] [] F I Q := by
  intro m
  induction m with
  | zero =>
    intro k all hk hm hN
    have hkn : k = n := by omega
    refine Go_wp (by decide) ckX12_rankOf [5, 23] ?_
    refine ⟨fun _ => ?_, fun c => absurd (show ((n : Int) ≤ k) from by first | with_reducible assumption | omega | (simp only [wr, wl] at *; omega)) c⟩
    refine GoN_forget (lv' := [some (vi n), some (vi p), some (vi t), some (vl all), none, none, none, none, none, none, none, none]) (by repeat (first | exact trivial | refine ⟨rfl, ?_⟩)) ?_
    exact hN
  | succ m ih =>
    intro k all hk hm hN
    refine Go_wp (by decide) ckX12_rankOf [5, 23] ?_
    refine ⟨fun c => absurd c (show (¬ ((n : Int) ≤ k)) from by first | omega | (simp only [wr, wl] at *; omega)), fun _ => ?_⟩
    have eqk : (wr (k + 1)) = k + 1 := by unfold wr; omega
    refine (congrArg (fun z => GoN G d kX12_rankOf NP NP 5 [some (vi n), some (vi p), some (vi t), some (vl (wl (all * 10))), none, some (vi z), none, none, none, none, none, none] [] F _ Q) eqk).mpr ?_
    exact ih (k + 1) _ (by omega) (by omega) hN
theorem m_ways_loop {n p t all : Int} (hn : 1 ≤ n ∧ n ≤ 12) (hp : 1 ≤ p ∧ p ≤ 9) {sum r j : Int} (hj : 0 ≤ j ∧ j < n) : ∀ (m : Nat) (k : Int) (w : Int), 0 ≤ k → k + m = j → GoN G d kX12_rankOf NP NP 73 [some (vi n), some (vi p), some (vi t), some (vl all), none, some (vl sum), none, some (vi r), some (vi j), some (vl (wyL n m k w)), none, none] [] F I Q → GoN G d kX12_rankOf NP NP 44 [some (vi n), some (vi p), some (vi t), some (vl all), none, some (vl sum), none, some (vi r), some (vi j), some (vl w), none, some (vi k)] [] F I Q := by
  intro m
  induction m with
  | zero =>
    intro k w hk hm hN
    have hkn : k = j := by omega
    refine Go_wp (by decide) ckX12_rankOf [44, 73] ?_
    refine ⟨fun _ => ?_, fun c => absurd (show ((j : Int) ≤ k) from by first | with_reducible assumption | omega | (simp only [wr, wl] at *; omega)) c⟩
    refine GoN_forget (lv' := [some (vi n), some (vi p), some (vi t), some (vl all), none, some (vl sum), none, some (vi r), some (vi j), some (vl w), none, none]) (by repeat (first | exact trivial | refine ⟨rfl, ?_⟩)) ?_
    exact hN
  | succ m ih =>
    intro k w hk hm hN
    refine Go_wp (by decide) ckX12_rankOf [44, 73] ?_
    refine ⟨fun c => absurd c (show (¬ ((j : Int) ≤ k)) from by first | omega | (simp only [wr, wl] at *; omega)), fun _ => ?_⟩
    refine ⟨(by first | omega | (simp only [wr, wl] at *; omega)), ?_⟩
    have eqk : (wr (k + 1)) = k + 1 := by unfold wr; omega
    refine (congrArg (fun z => GoN G d kX12_rankOf NP NP 44 [some (vi n), some (vi p), some (vi t), some (vl all), none, some (vl sum), none, some (vi r), some (vi j), some (vl (wl (Int.tdiv (wl (w * (wr (n - k)))) (wr (k + 1))))), none, some (vi z)] [] F _ Q) eqk).mpr ?_
    exact ih (k + 1) _ (by omega) (by omega) hN
theorem m_mul_loop {n p t all : Int} (hn : 1 ≤ n ∧ n ≤ 12) (hp : 1 ≤ p ∧ p ≤ 9) {sum r j : Int} (hj : 0 ≤ j ∧ j < n) : ∀ (m : Nat) (k : Int) (w : Int), 0 ≤ k → k + m = n → GoN G d kX12_rankOf NP NP 110 [some (vi n), some (vi p), some (vi t), some (vl all), none, some (vl sum), none, some (vi r), some (vi j), some (vl (mpL p j m k w)), none, none] [] F I Q → GoN G d kX12_rankOf NP NP 76 [some (vi n), some (vi p), some (vi t), some (vl all), none, some (vl sum), none, some (vi r), some (vi j), some (vl w), none, some (vi k)] [] F I Q := by
  intro m
  induction m with
  | zero =>
    intro k w hk hm hN
    have hkn : k = n := by omega
    refine Go_wp (by decide) ckX12_rankOf [76, 110] ?_
    refine ⟨fun _ => ?_, fun c => absurd (show ((n : Int) ≤ k) from by first | with_reducible assumption | omega | (simp only [wr, wl] at *; omega)) c⟩
    refine GoN_forget (lv' := [some (vi n), some (vi p), some (vi t), some (vl all), none, some (vl sum), none, some (vi r), some (vi j), some (vl w), none, none]) (by repeat (first | exact trivial | refine ⟨rfl, ?_⟩)) ?_
    exact hN
  | succ m ih =>
    intro k w hk hm hN
    refine Go_wp (by decide) ckX12_rankOf [76, 110] ?_
    refine ⟨fun c => absurd c (show (¬ ((n : Int) ≤ k)) from by first | omega | (simp only [wr, wl] at *; omega)), fun _ => ?_⟩
    refine ⟨fun (c1 : ((j : Int) ≤ k)) => ?_, fun (c1 : (¬ ((j : Int) ≤ k))) => ?_⟩
    ·
      have eqk : (wr (k + 1)) = k + 1 := by unfold wr; omega
      refine (congrArg (fun z => GoN G d kX12_rankOf NP NP 76 [some (vi n), some (vi p), some (vi t), some (vl all), none, some (vl sum), none, some (vi r), some (vi j), some (vl (wl (w * p))), none, some (vi z)] [] F _ Q) eqk).mpr ?_
      refine ih (k + 1) _ (by omega) (by omega) ?_
      unfold mpL at hN
      first
        | (rw [if_pos (by omega)] at hN; exact hN)
        | (rw [if_neg (by omega)] at hN; exact hN)
    ·
      have eqk : (wr (k + 1)) = k + 1 := by unfold wr; omega
      refine (congrArg (fun z => GoN G d kX12_rankOf NP NP 76 [some (vi n), some (vi p), some (vi t), some (vl all), none, some (vl sum), none, some (vi r), some (vi j), some (vl (wl (w * (wr (10 - p))))), none, some (vi z)] [] F _ Q) eqk).mpr ?_
      refine ih (k + 1) _ (by omega) (by omega) ?_
      unfold mpL at hN
      first
        | (rw [if_pos (by omega)] at hN; exact hN)
        | (rw [if_neg (by omega)] at hN; exact hN)
theorem m_rank_loop {n p t all : Int} (hn : 1 ≤ n ∧ n ≤ 12) (hp : 1 ≤ p ∧ p ≤ 9) (ht : 1 ≤ t ∧ t ≤ 9) : ∀ (m : Nat) (j sum r : Int), 0 ≤ j → j + m = n → Q (some (vi (rkL n p t all m j sum r))) F I → GoN G d kX12_rankOf NP NP 32 [some (vi n), some (vi p), some (vi t), some (vl all), none, some (vl sum), none, some (vi r), some (vi j), none, none, none] [] F I Q := by
  intro m
  induction m with
  | zero =>
    intro j sum r hj hm hN
    refine Go_wp (by decide) ckX12_rankOf [44] ?_
    refine ⟨fun _ => ?_, fun c => absurd (show ((n : Int) ≤ j) from by first | with_reducible assumption | omega | (simp only [wr, wl] at *; omega)) c⟩
    exact ⟨rfl, hN⟩
  | succ m ih =>
    intro j sum r hj hm hN
    refine Go_wp (by decide) ckX12_rankOf [44] ?_
    refine ⟨fun c => absurd c (show (¬ ((n : Int) ≤ j)) from by first | omega | (simp only [wr, wl] at *; omega)), fun _ => ?_⟩
    refine GoN_forget (lv' := [some (vi n), some (vi p), some (vi t), some (vl all), none, some (vl sum), none, some (vi r), some (vi j), some (vl 1), none, some (vi 0)]) (by repeat (first | exact trivial | refine ⟨rfl, ?_⟩)) ?_
    refine m_ways_loop hn hp (by omega) j.toNat 0 1 (by decide) (by omega) ?_
    refine Go_wp (by decide) ckX12_rankOf [76] ?_
    refine m_mul_loop hn hp (by omega) n.toNat 0 _ (by decide) (by omega) ?_
    refine Go_wp (by decide) ckX12_rankOf [32] ?_
    have n1 : (wr (10 - t)) = 10 - t := wr_id (show -2147483648 ≤ (10 - t : Int) ∧ (10 - t : Int) < 2147483648 from by omega)
    refine ⟨fun c2 => ?_, fun c2 => ?_⟩
    ·
      have c2 : (((wl ((wr (10 - t)) * all)) : Int) < (wl (10 * (wl (sum + (mpL p j n.toNat 0 (wyL n j.toNat 0 1))))))) := lcm_gt.1 c2
      unfold rkL at hN
      first
        | (rw [if_pos (by omega)] at hN; refine GoN_forget (lv' := [some (vi n), some (vi p), some (vi t), some (vl all), none, some (vl _), none, some (vi _), some (vi (j + 1)), none, none, none]) ?_ (ih (j + 1) _ _ (by omega) (by omega) hN))
        | (rw [if_neg (by omega)] at hN; refine GoN_forget (lv' := [some (vi n), some (vi p), some (vi t), some (vl all), none, some (vl _), none, some (vi _), some (vi (j + 1)), none, none, none]) ?_ (ih (j + 1) _ _ (by omega) (by omega) hN))
      have eqk : wr (j + 1) = j + 1 := by unfold wr; omega
      repeat (first | exact trivial | refine ⟨rfl, ?_⟩ | refine ⟨congrArg (fun z => some (vi z)) eqk, ?_⟩)
    ·
      have c2 : (¬ (((wl ((wr (10 - t)) * all)) : Int) < (wl (10 * (wl (sum + (mpL p j n.toNat 0 (wyL n j.toNat 0 1)))))))) := fun e => c2 (lcm_gt.2 e)
      unfold rkL at hN
      first
        | (rw [if_pos (by omega)] at hN; refine GoN_forget (lv' := [some (vi n), some (vi p), some (vi t), some (vl all), none, some (vl _), none, some (vi _), some (vi (j + 1)), none, none, none]) ?_ (ih (j + 1) _ _ (by omega) (by omega) hN))
        | (rw [if_neg (by omega)] at hN; refine GoN_forget (lv' := [some (vi n), some (vi p), some (vi t), some (vl all), none, some (vl _), none, some (vi _), some (vi (j + 1)), none, none, none]) ?_ (ih (j + 1) _ _ (by omega) (by omega) hN))
      have eqk : wr (j + 1) = j + 1 := by unfold wr; omega
      repeat (first | exact trivial | refine ⟨rfl, ?_⟩ | refine ⟨congrArg (fun z => some (vi z)) eqk, ?_⟩)
theorem m_X12_rankOf {n p t : Int} (hn : 1 ≤ n ∧ n ≤ 12) (hp : 1 ≤ p ∧ p ≤ 9) (ht : 1 ≤ t ∧ t ≤ 9) (hQ : Q (some (vi (rkF n p t))) F I) : CallN G d kX12_rankOf [vi n, vi p, vi t] NP F I Q := by
  refine Call_wp (lv := [some (vi n), some (vi p), some (vi t), none, none, none, none, none, none, none, none, none]) (by decide) ckX12_rankOf [5] rfl rfl ?_
  refine m_all_loop hn n.toNat 0 1 (by decide) (by omega) ?_
  refine Go_wp (by decide) ckX12_rankOf [32] ?_
  refine GoN_forget (lv' := [some (vi n), some (vi p), some (vi t), some (vl (pwF 10 n)), none, some (vl 0), none, some (vi 0), some (vi 0), none, none, none]) ?_ (m_rank_loop hn hp ht n.toNat 0 0 0 (by decide) (by omega) hQ)
  repeat (first | exact trivial | refine ⟨rfl, ?_⟩)
end FW
section FX2
variable {G : pG} {d : Nat} {F : pF} {I : pI} {Q : Option pV → pF → pI → Prop}
end FX2
