/-! drift of the reference. Own work (scripts laid by wip/pm/gen23.py). -/
section DM
variable {G : pG} {d : Nat} {F : pF} {I : pI} {Q : Option pV → pF → pI → Prop}
theorem m_bits_loop {k : Int} (hk : 0 ≤ k ∧ k < 4096) : ∀ (m : Nat) (i s : Int), 0 ≤ i → i + m = 24 → 0 ≤ s ∧ s ≤ i → Q (some (vi ((bsN k.toNat m i.toNat s.toNat : Nat) : Int))) F I → GoN G d kX12_bits NP NP 4 [some (vi k), some (vi s), some (vi i)] [] F I Q := by
  intro m
  induction m with
  | zero =>
    intro i s hi hm hs hN
    refine Go_wp (by decide) ckX12_bits [4] ?_
    refine ⟨fun _ => ?_, fun c => absurd (show ((24 : Int) ≤ i) from by first | omega | (simp only [wr, wl] at *; omega)) c⟩
    have e : ((bsN k.toNat 0 i.toNat s.toNat : Nat) : Int) = s := by show ((s.toNat : Nat) : Int) = _; omega
    rw [e] at hN
    exact ⟨rfl, hN⟩
  | succ m ih =>
    intro i s hi hm hs hN
    have h01 := bt_01 (i := i) hk (by omega)
    have hbt := bt_n (i := i) hk (by omega)
    unfold bt at h01
    refine Go_wp (by decide) ckX12_bits [4] ?_
    refine ⟨fun c => absurd c (show (¬ ((24 : Int) ≤ i)) from by first | omega | (simp only [wr, wl] at *; omega)), fun _ => ?_⟩
    have eq1 : (wr (i + 1)) = i + 1 := by unfold wr; omega
    have eq2 : (wr (s + (bI (srI k i) 1))) = s + bt k i := by unfold bt wr; omega
    have h02 : 0 ≤ bt k i ∧ bt k i ≤ 1 := by unfold bt; omega
    refine GoN_forget (lv' := [some (vi k), some (vi (s + bt k i)), some (vi (i + 1))]) ?_ (ih (i + 1) (s + bt k i) (by omega) (by omega) (by omega) ?_)
    · repeat (first | exact trivial | refine ⟨rfl, ?_⟩ | refine ⟨congrArg (fun z => some (vi z)) eq1, ?_⟩ | refine ⟨congrArg (fun z => some (vi z)) eq2, ?_⟩)
    · have e : bsN k.toNat (m + 1) i.toNat s.toNat = bsN k.toNat m (i + 1).toNat (s + bt k i).toNat := by
        show bsN k.toNat m (i.toNat + 1) (s.toNat + (k.toNat >>> i.toNat &&& 1)) = _
        rw [show (i + 1).toNat = i.toNat + 1 by omega]
        congr 1
        rw [hbt] at h02 ⊢
        generalize (k.toNat >>> i.toNat &&& 1) = z at *
        omega
      rw [← e]
      exact hN
theorem m_X12_bits {k : Int} (hk : 0 ≤ k ∧ k < 4096) (hQ : Q (some (vi (bcI k))) F I) : CallN G d kX12_bits [vi k] NP F I Q := by
  refine Call_wp (lv := [some (vi k), none, none]) (by decide) ckX12_bits [4] rfl rfl ?_
  refine m_bits_loop hk 24 0 0 (by decide) (by decide) (by decide) ?_
  have e := bc_e hk
  rw [e] at hQ
  exact hQ
theorem m_off_loop {k n best least : Int} (hk : 0 ≤ k ∧ k < 4096) (hn : 0 ≤ n ∧ n ≤ 12) : ∀ (m : Nat) (i s : Int), 0 ≤ i → i + m = n → -(13 * i) ≤ s ∧ s ≤ 13 * i → GoN G (d + 3) kX12_drift NP NP 79 [some (vr 235), some (vi n), some (vi best), some (vi least), some (vi k), some (vi (suL k m i s)), none] [] F I Q → GoN G (d + 3) kX12_drift NP NP 40 [some (vr 235), some (vi n), some (vi best), some (vi least), some (vi k), some (vi s), some (vi i)] [] F I Q := by
  intro m
  induction m with
  | zero =>
    intro i s hi hm hs hN
    refine Go_wp (by decide) ckX12_drift [40, 79] ?_
    refine ⟨fun _ => ?_, fun c => absurd (show ((n : Int) ≤ i) from by first | omega | (simp only [wr, wl] at *; omega)) c⟩
    refine GoN_forget (lv' := [some (vr 235), some (vi n), some (vi best), some (vi least), some (vi k), some (vi s), none]) ?_ hN
    repeat (first | exact trivial | refine ⟨rfl, ?_⟩ | refine ⟨congrArg (fun z => some (vi z)) eq1, ?_⟩ | refine ⟨congrArg (fun z => some (vi z)) eq2, ?_⟩)
  | succ m ih =>
    intro i s hi hm hs hN
    have h01 := bt_01 (i := i) hk (by omega)
    unfold bt at h01
    refine Go_wp (by decide) ckX12_drift [40, 79] ?_
    refine ⟨fun c => absurd c (show (¬ ((n : Int) ≤ i)) from by first | omega | (simp only [wr, wl] at *; omega)), fun _ => ?_⟩
    refine Call_wp (lv := [some (vi k), some (vi i)]) (by decide) ckX12_has [] rfl rfl ?_
    refine ⟨fun (c1 : (¬ ((bI (srI k i) 1) : Int) = 1)) => ?_, fun (c1 : (((bI (srI k i) 1) : Int) = 1)) => ?_⟩
    ·
      refine ⟨rfl, (by decide), ?_⟩
      refine ⟨fun _ => ?_, fun c => absurd (show ((0 : Int) = 0) from by decide) c⟩
      have eq1 : (wr (i + 1)) = i + 1 := by unfold wr; omega
      have eq2 : (wr (s + (wr ((wr (- i)) - 1)))) = (if bt k i = 0 then s - (i + 1) else s + (i + 1)) := by
        unfold bt
        first
          | (rw [if_pos (by omega)]; unfold wr; omega)
          | (rw [if_neg (by omega)]; unfold wr; omega)
      refine GoN_forget (lv' := [some (vr 235), some (vi n), some (vi best), some (vi least), some (vi k), some (vi _), some (vi (i + 1))]) ?_ (ih (i + 1) _ (by omega) (by omega) ?_ hN)
      · repeat (first | exact trivial | refine ⟨rfl, ?_⟩ | refine ⟨congrArg (fun z => some (vi z)) eq1, ?_⟩ | refine ⟨congrArg (fun z => some (vi z)) eq2, ?_⟩)
      · split <;> omega
    ·
      refine ⟨rfl, (by decide), ?_⟩
      refine ⟨fun c => absurd c (show (¬ ((1 : Int) = 0)) from by decide), fun _ => ?_⟩
      have eq1 : (wr (i + 1)) = i + 1 := by unfold wr; omega
      have eq2 : (wr (s + (wr (i + 1)))) = (if bt k i = 0 then s - (i + 1) else s + (i + 1)) := by
        unfold bt
        first
          | (rw [if_pos (by omega)]; unfold wr; omega)
          | (rw [if_neg (by omega)]; unfold wr; omega)
      refine GoN_forget (lv' := [some (vr 235), some (vi n), some (vi best), some (vi least), some (vi k), some (vi _), some (vi (i + 1))]) ?_ (ih (i + 1) _ (by omega) (by omega) ?_ hN)
      · repeat (first | exact trivial | refine ⟨rfl, ?_⟩ | refine ⟨congrArg (fun z => some (vi z)) eq1, ?_⟩ | refine ⟨congrArg (fun z => some (vi z)) eq2, ?_⟩)
      · split <;> omega
theorem m_drift_loop {n : Int} (hn : 2 ≤ n ∧ n ≤ 12) : ∀ (m : Nat) (k best least : Int), 0 ≤ k → k + m = slI 1 n → Q (some (vi (drL n m k best least))) F I → GoN G (d + 8) kX12_drift NP NP 26 [some (vr 235), some (vi n), some (vi best), some (vi least), some (vi k), none, none] [] F I Q := by
  intro m
  have hpw := pow_b (n := n) (by omega)
  have hsl := slI_p (n := n) (by omega)
  induction m with
  | zero =>
    intro k best least hk hm hN
    refine Go_wp (by decide) ckX12_drift [40] ?_
    refine ⟨fun _ => ?_, fun c => absurd (show (((slI 1 n) : Int) ≤ k) from by first | omega | (simp only [wr, wl] at *; omega)) c⟩
    exact ⟨rfl, hN⟩
  | succ m ih =>
    intro k best least hk hm hN
    have hdv : wr (Int.tdiv n 2) = n / 2 := by rw [Int.tdiv_eq_ediv_of_nonneg (by omega)]; unfold wr; omega
    have hsb := suF_b (k := k) (n := n) (by omega)
    refine Go_wp (by decide) ckX12_drift [40] ?_
    refine ⟨fun c => absurd c (show (¬ (((slI 1 n) : Int) ≤ k)) from by first | omega | (simp only [wr, wl] at *; omega)), fun _ => ?_⟩
    refine m_off_loop (by omega) (by omega) n.toNat 0 0 (by decide) (by omega) (by decide) ?_
    have hab : absI (suL k n.toNat 0 0) = suF k n := rfl
    refine Go_wp (by decide) ckX12_drift [26] ?_
    refine m_X12_bits (k := k) (by omega) ?_
    refine ⟨(by decide), ?_⟩
    refine ⟨fun (c1 : (¬ ((bcI k) : Int) = (wr (Int.tdiv n 2)))) => ?_, fun (c1 : (((bcI k) : Int) = (wr (Int.tdiv n 2)))) => ?_⟩
    ·
      have eq1 : (wr (k + 1)) = k + 1 := by unfold wr; omega
      have eq2 := eq1
      unfold drL at hN
      first
        | (rw [if_pos ⟨by omega, by omega⟩] at hN; refine GoN_forget (lv' := [some (vr 235), some (vi n), some (vi best), some (vi least), some (vi (k + 1)), none, none]) ?_ (ih (k + 1) _ _ (by omega) (by omega) hN))
        | (rw [if_neg (fun e => by have := e.1; have := e.2; omega)] at hN; refine GoN_forget (lv' := [some (vr 235), some (vi n), some (vi best), some (vi least), some (vi (k + 1)), none, none]) ?_ (ih (k + 1) _ _ (by omega) (by omega) hN))
      repeat (first | exact trivial | refine ⟨rfl, ?_⟩ | refine ⟨congrArg (fun z => some (vi z)) eq1, ?_⟩ | refine ⟨congrArg (fun z => some (vi z)) eq2, ?_⟩)
    ·
      refine s_J9_abs (x := (suL k n.toNat 0 0)) ?_
      refine ⟨fun (c2 : ((least : Int) ≤ (absI (suL k n.toNat 0 0)))) => ?_, fun (c2 : (¬ ((least : Int) ≤ (absI (suL k n.toNat 0 0))))) => ?_⟩
      ·
        have eq1 : (wr (k + 1)) = k + 1 := by unfold wr; omega
        have eq2 := eq1
        unfold drL at hN
        first
          | (rw [if_pos ⟨by omega, by omega⟩] at hN; refine GoN_forget (lv' := [some (vr 235), some (vi n), some (vi best), some (vi least), some (vi (k + 1)), none, none]) ?_ (ih (k + 1) _ _ (by omega) (by omega) hN))
          | (rw [if_neg (fun e => by have := e.1; have := e.2; omega)] at hN; refine GoN_forget (lv' := [some (vr 235), some (vi n), some (vi best), some (vi least), some (vi (k + 1)), none, none]) ?_ (ih (k + 1) _ _ (by omega) (by omega) hN))
        repeat (first | exact trivial | refine ⟨rfl, ?_⟩ | refine ⟨congrArg (fun z => some (vi z)) eq1, ?_⟩ | refine ⟨congrArg (fun z => some (vi z)) eq2, ?_⟩)
      ·
        refine s_J9_abs (x := (suL k n.toNat 0 0)) ?_
        have eq1 : (wr (k + 1)) = k + 1 := by unfold wr; omega
        have eq2 := eq1
        unfold drL at hN
        first
          | (rw [if_pos ⟨by omega, by omega⟩] at hN; refine GoN_forget (lv' := [some (vr 235), some (vi n), some (vi k), some (vi (absI (suL k n.toNat 0 0))), some (vi (k + 1)), none, none]) ?_ (ih (k + 1) _ _ (by omega) (by omega) hN))
          | (rw [if_neg (fun e => by have := e.1; have := e.2; omega)] at hN; refine GoN_forget (lv' := [some (vr 235), some (vi n), some (vi k), some (vi (absI (suL k n.toNat 0 0))), some (vi (k + 1)), none, none]) ?_ (ih (k + 1) _ _ (by omega) (by omega) hN))
        repeat (first | exact trivial | refine ⟨rfl, ?_⟩ | refine ⟨congrArg (fun z => some (vi z)) eq1, ?_⟩ | refine ⟨congrArg (fun z => some (vi z)) eq2, ?_⟩)
theorem m_drift (hF : FS F) (hX : FXm I) {v0 : Int} (rv0 : iR v0) (hQ : ∀ F' I', Q (some (vi (fx_driftm v0))) F' I') : CallN G (d + 12) kX12_drift [vr 235, vi v0] NP F I Q := by
  unfold iR at *
  refine Call_wp (lv := [some (vr 235), some (vi v0), none, none, none, none, none]) (by decide) ckX12_drift [26] rfl rfl ?_
  refine s_X12_within (fun (w1 : ((2 : Int) ≤ v0 ∧ (v0 : Int) ≤ 12)) => ?_) (fun (w1 : ¬ ((2 : Int) ≤ v0 ∧ (v0 : Int) ≤ 12)) => ?_)
  ·
    refine ⟨fun _ => ?_, fun c => absurd c (show (¬ (1 : Int) = 0) from by decide)⟩
    have hsl := slI_p (n := v0) (by omega)
    refine m_drift_loop (by omega) (2 ^ v0.toNat) 0 0 1000 (by decide) (by omega) ?_
    have e : fx_driftm v0 = drL v0 (2 ^ v0.toNat) 0 0 1000 := by unfold fx_driftm; rw [if_pos (by omega)]
    rw [e] at hQ
    exact hQ _ _
  ·
    refine ⟨fun c => absurd (show ((0 : Int) = 0) from by decide) c, fun _ => ?_⟩
    refine ⟨⟨_, rfl, (by decide)⟩, ?_⟩
    refine s_X12_finding hF (v := (-1000001)) (by decide) ?_
    have r2 : (I 238 1) = 0 := (hX.i rfl rfl)
    have e : fx_driftm v0 = (-1000001) := by (unfold fx_driftm; (repeat' split) <;> first | rfl | omega | (simp only [wr, wl] at *; omega))
    rw [e] at hQ
    exact ⟨rfl, hQ _ _⟩
end DM
