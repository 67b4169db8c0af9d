/-! the law's walk on a script of one call. Own work (laid by wip/pm/gen24.py). -/
theorem i32R (x : Int32) : iR x.toInt := ⟨by have := Int32.le_toInt x; omega, by have := Int32.toInt_lt x; omega⟩
theorem i64R (x : Int64) : lR x.toInt := ⟨by have := Int64.le_toInt x; omega, by have := Int64.toInt_lt x; omega⟩
theorem iL {G : pG} (hL : gN G = 6) {i : Int} (h : i < 6) : i < (gN G : Int) := by rw [hL]; exact h
theorem ofN6 : ∀ n : Fin 7, (Int32.ofNat n.val).toInt = (n.val : Int) := by decide
theorem lw6 {G : pG} (hL : gN G = 6) : wr ((Int32.ofNat (gN G)).toInt - 6) < wr (0 + 6) := by rw [hL]; decide
theorem is6 {G : pG} (hN : gN G ≤ 6) (c : ¬ wr ((Int32.ofNat (gN G)).toInt - 6) < 0) : gN G = 6 := by
  rw [ofN6 ⟨gN G, by omega⟩] at c
  simp only [wr] at c
  omega
abbrev Qlw : Option pV → pF → pI → Prop := fun r _ _ => r = some (vi 1)
abbrev lvl : List (Option pV) := [some (vr EXT), some (vr 0), some (vr 235), some (vi 0)]
section LW
variable {G : pG} {F : pF} {I : pI}
theorem law_oc : oC (mO kL_law) = (mY kL_law).cls := rfl
theorem law_wp {d k n0 n pc : Nat} {t : pT} {lv : List (Option pV)} {st : List pV} {Q : Option pV → pF → pI → Prop} (ho : oC (mO k) = (mY k).cls) (hc : chkT k t = true) (cuts : List Nat) (h : wp G d k n0 t cuts Q 2000 pc lv st n F I) : GoN G d k n0 n pc lv st F I Q := ⟨wp_Go ho hc _ _ _ _ _ _ _ h⟩
theorem law_tail (h6 : gN G = 6) : GoN G 1000 kL_law 0 NP 1666 lvl [] F I Qlw := by
  refine law_wp law_oc ckL_law [] ?_
  refine ⟨rfl, ?_⟩
  refine ⟨fun _ => ?_, fun c => absurd (lw6 h6) c⟩
  exact ⟨rfl, Or.inr rfl, rfl⟩
theorem law_c0 (hF : FS F) (hX : FX I) (h6 : gN G = 6) : GoN G 1000 kL_law 0 NP 212 lvl [] F I Qlw := by
  refine law_wp law_oc ckL_law [1666] ?_
  refine ⟨rfl, (by decide), iL h6 (by decide), ?_⟩
  refine ⟨rfl, (by decide), iL h6 (by decide), ?_⟩
  refine ⟨rfl, (by decide), iL h6 (by decide), ?_⟩
  refine ⟨rfl, (by decide), iL h6 (by decide), ?_⟩
  refine ⟨rfl, (by decide), iL h6 (by decide), ?_⟩
  refine ⟨⟨_, rfl, (by decide)⟩, ?_⟩
  refine x_piece hF hX (i32R _) (i32R _) (i32R _) (i32R _) (i32R _) (fun F1 I1 hF1 hM1 => ?_)
  refine ⟨rfl, (by decide), iL h6 (by decide), ?_⟩
  refine ⟨rfl, (by decide), iL h6 (by decide), ?_⟩
  refine ⟨rfl, (by decide), iL h6 (by decide), ?_⟩
  refine ⟨rfl, (by decide), iL h6 (by decide), ?_⟩
  refine ⟨rfl, (by decide), iL h6 (by decide), ?_⟩
  refine ⟨⟨_, rfl, (by decide)⟩, ?_⟩
  refine m_piece hF1 (FX.m hX hM1) (i32R _) (i32R _) (i32R _) (i32R _) (i32R _) (fun F2 I2 => ?_)
  refine ⟨fun _ => ?_, fun c => absurd rfl c⟩
  exact law_tail h6
theorem law_c1 (hF : FS F) (hX : FX I) (h6 : gN G = 6) : GoN G 1000 kL_law 0 NP 275 lvl [] F I Qlw := by
  refine law_wp law_oc ckL_law [1666] ?_
  refine ⟨rfl, (by decide), iL h6 (by decide), ?_⟩
  refine ⟨rfl, (by decide), iL h6 (by decide), ?_⟩
  refine ⟨⟨_, rfl, (by decide)⟩, ?_⟩
  refine x_pieceIs hF hX (i32R _) (i32R _) (fun F1 I1 hF1 hM1 => ?_)
  refine ⟨rfl, (by decide), iL h6 (by decide), ?_⟩
  refine ⟨rfl, (by decide), iL h6 (by decide), ?_⟩
  refine ⟨⟨_, rfl, (by decide)⟩, ?_⟩
  refine m_pieceIs hF1 (FX.m hX hM1) (i32R _) (i32R _) (fun F2 I2 => ?_)
  refine ⟨fun _ => ?_, fun c => absurd rfl c⟩
  exact law_tail h6
theorem law_c2 (hF : FS F) (hX : FX I) (h6 : gN G = 6) : GoN G 1000 kL_law 0 NP 308 lvl [] F I Qlw := by
  refine law_wp law_oc ckL_law [1666] ?_
  refine ⟨rfl, (by decide), iL h6 (by decide), ?_⟩
  refine ⟨rfl, (by decide), iL h6 (by decide), ?_⟩
  refine ⟨⟨_, rfl, (by decide)⟩, ?_⟩
  refine x_as hF hX (i32R _) (i32R _) (fun F1 I1 hF1 hM1 => ?_)
  refine ⟨rfl, (by decide), iL h6 (by decide), ?_⟩
  refine ⟨rfl, (by decide), iL h6 (by decide), ?_⟩
  refine ⟨⟨_, rfl, (by decide)⟩, ?_⟩
  refine m_as hF1 (FX.m hX hM1) (i32R _) (i32R _) (fun F2 I2 => ?_)
  refine ⟨fun _ => ?_, fun c => absurd rfl c⟩
  exact law_tail h6
theorem law_c3 (hF : FS F) (hX : FX I) (h6 : gN G = 6) : GoN G 1000 kL_law 0 NP 341 lvl [] F I Qlw := by
  refine law_wp law_oc ckL_law [1666] ?_
  refine ⟨rfl, (by decide), iL h6 (by decide), ?_⟩
  refine ⟨rfl, (by decide), iL h6 (by decide), ?_⟩
  refine ⟨⟨_, rfl, (by decide)⟩, ?_⟩
  refine x_answer hF hX (i32R _) (i32R _) (fun F1 I1 hF1 hM1 => ?_)
  refine ⟨rfl, (by decide), iL h6 (by decide), ?_⟩
  refine ⟨rfl, (by decide), iL h6 (by decide), ?_⟩
  refine ⟨⟨_, rfl, (by decide)⟩, ?_⟩
  refine m_answer hF1 (FX.m hX hM1) (i32R _) (i32R _) (fun F2 I2 => ?_)
  refine ⟨fun _ => ?_, fun c => absurd rfl c⟩
  exact law_tail h6
theorem law_c4 (hF : FS F) (hX : FX I) (h6 : gN G = 6) : GoN G 1000 kL_law 0 NP 374 lvl [] F I Qlw := by
  refine law_wp law_oc ckL_law [1666] ?_
  refine ⟨rfl, (by decide), iL h6 (by decide), ?_⟩
  refine ⟨rfl, (by decide), iL h6 (by decide), ?_⟩
  refine ⟨rfl, (by decide), iL h6 (by decide), ?_⟩
  refine ⟨⟨_, rfl, (by decide)⟩, ?_⟩
  refine x_trace hF hX (i32R _) (i32R _) (i32R _) (fun F1 I1 hF1 hM1 => ?_)
  refine ⟨rfl, (by decide), iL h6 (by decide), ?_⟩
  refine ⟨rfl, (by decide), iL h6 (by decide), ?_⟩
  refine ⟨rfl, (by decide), iL h6 (by decide), ?_⟩
  refine ⟨⟨_, rfl, (by decide)⟩, ?_⟩
  refine m_trace hF1 (FX.m hX hM1) (i32R _) (i32R _) (i32R _) (fun F2 I2 => ?_)
  refine ⟨fun _ => ?_, fun c => absurd rfl c⟩
  exact law_tail h6
theorem law_c5 (hF : FS F) (hX : FX I) (h6 : gN G = 6) : GoN G 1000 kL_law 0 NP 417 lvl [] F I Qlw := by
  refine law_wp law_oc ckL_law [1666] ?_
  refine ⟨rfl, (by decide), iL h6 (by decide), ?_⟩
  refine ⟨rfl, (by decide), iL h6 (by decide), ?_⟩
  refine ⟨rfl, (by decide), iL h6 (by decide), ?_⟩
  refine ⟨⟨_, rfl, (by decide)⟩, ?_⟩
  refine x_reading hF hX (i32R _) (i32R _) (i32R _) (fun F1 I1 hF1 hM1 => ?_)
  refine ⟨rfl, (by decide), iL h6 (by decide), ?_⟩
  refine ⟨rfl, (by decide), iL h6 (by decide), ?_⟩
  refine ⟨rfl, (by decide), iL h6 (by decide), ?_⟩
  refine ⟨⟨_, rfl, (by decide)⟩, ?_⟩
  refine m_reading hF1 (FX.m hX hM1) (i32R _) (i32R _) (i32R _) (fun F2 I2 => ?_)
  refine ⟨fun _ => ?_, fun c => absurd rfl c⟩
  exact law_tail h6
theorem law_c6 (hF : FS F) (hX : FX I) (h6 : gN G = 6) : GoN G 1000 kL_law 0 NP 460 lvl [] F I Qlw := by
  refine law_wp law_oc ckL_law [1666] ?_
  refine ⟨rfl, (by decide), iL h6 (by decide), ?_⟩
  refine ⟨rfl, (by decide), iL h6 (by decide), ?_⟩
  refine ⟨⟨_, rfl, (by decide)⟩, ?_⟩
  refine x_limit hF hX (i32R _) (i32R _) (fun F1 I1 hF1 hM1 => ?_)
  refine ⟨rfl, (by decide), iL h6 (by decide), ?_⟩
  refine ⟨rfl, (by decide), iL h6 (by decide), ?_⟩
  refine ⟨⟨_, rfl, (by decide)⟩, ?_⟩
  refine m_limit hF1 (FX.m hX hM1) (i32R _) (i32R _) (fun F2 I2 => ?_)
  refine ⟨fun _ => ?_, fun c => absurd rfl c⟩
  exact law_tail h6
theorem law_c7 (hF : FS F) (hX : FX I) (h6 : gN G = 6) : GoN G 1000 kL_law 0 NP 493 lvl [] F I Qlw := by
  refine law_wp law_oc ckL_law [1666] ?_
  refine ⟨rfl, (by decide), iL h6 (by decide), ?_⟩
  refine ⟨rfl, (by decide), iL h6 (by decide), ?_⟩
  refine ⟨rfl, (by decide), iL h6 (by decide), ?_⟩
  refine ⟨⟨_, rfl, (by decide)⟩, ?_⟩
  refine x_feed hF hX (i64R _) (i32R _) (fun F1 I1 hF1 hM1 => ?_)
  refine ⟨rfl, (by decide), iL h6 (by decide), ?_⟩
  refine ⟨rfl, (by decide), iL h6 (by decide), ?_⟩
  refine ⟨rfl, (by decide), iL h6 (by decide), ?_⟩
  refine ⟨⟨_, rfl, (by decide)⟩, ?_⟩
  refine m_feed hF1 (FX.m hX hM1) (i64R _) (i32R _) (fun F2 I2 => ?_)
  refine ⟨fun _ => ?_, fun c => absurd rfl c⟩
  exact law_tail h6
theorem law_c8 (hF : FS F) (hX : FX I) (h6 : gN G = 6) : GoN G 1000 kL_law 0 NP 556 lvl [] F I Qlw := by
  refine law_wp law_oc ckL_law [1666] ?_
  refine ⟨rfl, (by decide), iL h6 (by decide), ?_⟩
  refine ⟨⟨_, rfl, (by decide)⟩, ?_⟩
  refine x_program hF hX (i32R _) (fun F1 I1 hF1 hM1 => ?_)
  refine ⟨rfl, (by decide), iL h6 (by decide), ?_⟩
  refine ⟨⟨_, rfl, (by decide)⟩, ?_⟩
  refine m_program hF1 (FX.m hX hM1) (i32R _) (fun F2 I2 => ?_)
  refine ⟨fun _ => ?_, fun c => absurd rfl c⟩
  exact law_tail h6
theorem law_c9 (hF : FS F) (hX : FX I) (h6 : gN G = 6) : GoN G 1000 kL_law 0 NP 579 lvl [] F I Qlw := by
  refine law_wp law_oc ckL_law [1666] ?_
  refine ⟨rfl, (by decide), iL h6 (by decide), ?_⟩
  refine ⟨rfl, (by decide), iL h6 (by decide), ?_⟩
  refine ⟨⟨_, rfl, (by decide)⟩, ?_⟩
  refine x_run hF hX (i32R _) (i32R _) (fun F1 I1 hF1 hM1 => ?_)
  refine ⟨rfl, (by decide), iL h6 (by decide), ?_⟩
  refine ⟨rfl, (by decide), iL h6 (by decide), ?_⟩
  refine ⟨⟨_, rfl, (by decide)⟩, ?_⟩
  refine m_run hF1 (FX.m hX hM1) (i32R _) (i32R _) (fun F2 I2 => ?_)
  refine ⟨fun _ => ?_, fun c => absurd rfl c⟩
  exact law_tail h6
theorem law_c10 (hF : FS F) (hX : FX I) (h6 : gN G = 6) : GoN G 1000 kL_law 0 NP 612 lvl [] F I Qlw := by
  refine law_wp law_oc ckL_law [1666] ?_
  refine ⟨rfl, (by decide), iL h6 (by decide), ?_⟩
  refine ⟨⟨_, rfl, (by decide)⟩, ?_⟩
  refine x_ran hF hX (i32R _) (fun F1 I1 hF1 hM1 => ?_)
  refine ⟨rfl, (by decide), iL h6 (by decide), ?_⟩
  refine ⟨⟨_, rfl, (by decide)⟩, ?_⟩
  refine m_ran hF1 (FX.m hX hM1) (i32R _) (fun F2 I2 => ?_)
  refine ⟨fun _ => ?_, fun c => absurd rfl c⟩
  exact law_tail h6
theorem law_c11 (hF : FS F) (hX : FX I) (h6 : gN G = 6) : GoN G 1000 kL_law 0 NP 635 lvl [] F I Qlw := by
  refine law_wp law_oc ckL_law [1666] ?_
  refine ⟨rfl, (by decide), iL h6 (by decide), ?_⟩
  refine ⟨rfl, (by decide), iL h6 (by decide), ?_⟩
  refine ⟨⟨_, rfl, (by decide)⟩, ?_⟩
  refine x_line hF hX (i32R _) (i32R _) (fun F1 I1 hF1 hM1 => ?_)
  refine ⟨rfl, (by decide), iL h6 (by decide), ?_⟩
  refine ⟨rfl, (by decide), iL h6 (by decide), ?_⟩
  refine ⟨⟨_, rfl, (by decide)⟩, ?_⟩
  refine m_line hF1 (FX.m hX hM1) (i32R _) (i32R _) (fun F2 I2 => ?_)
  refine ⟨fun _ => ?_, fun c => absurd rfl c⟩
  exact law_tail h6
theorem law_c12 (hF : FS F) (hX : FX I) (h6 : gN G = 6) : GoN G 1000 kL_law 0 NP 668 lvl [] F I Qlw := by
  refine law_wp law_oc ckL_law [1666] ?_
  refine ⟨rfl, (by decide), iL h6 (by decide), ?_⟩
  refine ⟨rfl, (by decide), iL h6 (by decide), ?_⟩
  refine ⟨⟨_, rfl, (by decide)⟩, ?_⟩
  refine x_yields hF hX (i32R _) (i32R _) (fun F1 I1 hF1 hM1 => ?_)
  refine ⟨rfl, (by decide), iL h6 (by decide), ?_⟩
  refine ⟨rfl, (by decide), iL h6 (by decide), ?_⟩
  refine ⟨⟨_, rfl, (by decide)⟩, ?_⟩
  refine m_yields hF1 (FX.m hX hM1) (i32R _) (i32R _) (fun F2 I2 => ?_)
  refine ⟨fun _ => ?_, fun c => absurd rfl c⟩
  exact law_tail h6
theorem law_c13 (hF : FS F) (hX : FX I) (h6 : gN G = 6) : GoN G 1000 kL_law 0 NP 701 lvl [] F I Qlw := by
  refine law_wp law_oc ckL_law [1666] ?_
  refine ⟨rfl, (by decide), iL h6 (by decide), ?_⟩
  refine ⟨⟨_, rfl, (by decide)⟩, ?_⟩
  refine x_top hF hX (i32R _) (fun F1 I1 hF1 hM1 => ?_)
  refine ⟨rfl, (by decide), iL h6 (by decide), ?_⟩
  refine ⟨⟨_, rfl, (by decide)⟩, ?_⟩
  refine m_top hF1 (FX.m hX hM1) (i32R _) (fun F2 I2 => ?_)
  refine ⟨fun _ => ?_, fun c => absurd rfl c⟩
  exact law_tail h6
theorem law_c14 (hF : FS F) (hX : FX I) (h6 : gN G = 6) : GoN G 1000 kL_law 0 NP 724 lvl [] F I Qlw := by
  refine law_wp law_oc ckL_law [1666] ?_
  refine ⟨rfl, (by decide), iL h6 (by decide), ?_⟩
  refine ⟨rfl, (by decide), iL h6 (by decide), ?_⟩
  refine ⟨⟨_, rfl, (by decide)⟩, ?_⟩
  refine x_breaks hF hX (i32R _) (i32R _) (fun F1 I1 hF1 hM1 => ?_)
  refine ⟨rfl, (by decide), iL h6 (by decide), ?_⟩
  refine ⟨rfl, (by decide), iL h6 (by decide), ?_⟩
  refine ⟨⟨_, rfl, (by decide)⟩, ?_⟩
  refine m_breaks hF1 (FX.m hX hM1) (i32R _) (i32R _) (fun F2 I2 => ?_)
  refine ⟨fun _ => ?_, fun c => absurd rfl c⟩
  exact law_tail h6
theorem law_c15 (hF : FS F) (hX : FX I) (h6 : gN G = 6) : GoN G 1000 kL_law 0 NP 757 lvl [] F I Qlw := by
  refine law_wp law_oc ckL_law [1666] ?_
  refine ⟨rfl, (by decide), iL h6 (by decide), ?_⟩
  refine ⟨rfl, (by decide), iL h6 (by decide), ?_⟩
  refine ⟨⟨_, rfl, (by decide)⟩, ?_⟩
  refine x_spent hF hX (i32R _) (i32R _) (fun F1 I1 hF1 hM1 => ?_)
  refine ⟨rfl, (by decide), iL h6 (by decide), ?_⟩
  refine ⟨rfl, (by decide), iL h6 (by decide), ?_⟩
  refine ⟨⟨_, rfl, (by decide)⟩, ?_⟩
  refine m_spent hF1 (FX.m hX hM1) (i32R _) (i32R _) (fun F2 I2 => ?_)
  refine ⟨fun _ => ?_, fun c => absurd (lcm_eq.mpr rfl) c⟩
  exact law_tail h6
theorem law_c16 (hF : FS F) (hX : FX I) (h6 : gN G = 6) : GoN G 1000 kL_law 0 NP 791 lvl [] F I Qlw := by
  refine law_wp law_oc ckL_law [1666] ?_
  refine ⟨rfl, (by decide), iL h6 (by decide), ?_⟩
  refine ⟨rfl, (by decide), iL h6 (by decide), ?_⟩
  refine ⟨⟨_, rfl, (by decide)⟩, ?_⟩
  refine x_number hF hX (i32R _) (i32R _) (fun F1 I1 hF1 hM1 => ?_)
  refine ⟨rfl, (by decide), iL h6 (by decide), ?_⟩
  refine ⟨rfl, (by decide), iL h6 (by decide), ?_⟩
  refine ⟨⟨_, rfl, (by decide)⟩, ?_⟩
  refine m_number_ hF1 (FX.m hX hM1) (i32R _) (i32R _) (fun F2 I2 => ?_)
  refine ⟨fun _ => ?_, fun c => absurd rfl c⟩
  exact law_tail h6
theorem law_c17 (hF : FS F) (hX : FX I) (h6 : gN G = 6) : GoN G 1000 kL_law 0 NP 824 lvl [] F I Qlw := by
  refine law_wp law_oc ckL_law [1666] ?_
  refine ⟨rfl, (by decide), iL h6 (by decide), ?_⟩
  refine ⟨rfl, (by decide), iL h6 (by decide), ?_⟩
  refine ⟨rfl, (by decide), iL h6 (by decide), ?_⟩
  refine ⟨⟨_, rfl, (by decide)⟩, ?_⟩
  refine x_curve hF hX (i32R _) (i32R _) (i32R _) (fun F1 I1 hF1 hM1 => ?_)
  refine ⟨rfl, (by decide), iL h6 (by decide), ?_⟩
  refine ⟨rfl, (by decide), iL h6 (by decide), ?_⟩
  refine ⟨rfl, (by decide), iL h6 (by decide), ?_⟩
  refine ⟨⟨_, rfl, (by decide)⟩, ?_⟩
  refine m_curve hF1 (FX.m hX hM1) (i32R _) (i32R _) (i32R _) (fun F2 I2 => ?_)
  refine ⟨fun _ => ?_, fun c => absurd rfl c⟩
  exact law_tail h6
theorem law_c18 (hF : FS F) (hX : FX I) (h6 : gN G = 6) : GoN G 1000 kL_law 0 NP 867 lvl [] F I Qlw := by
  refine law_wp law_oc ckL_law [1666] ?_
  refine ⟨rfl, (by decide), iL h6 (by decide), ?_⟩
  refine ⟨rfl, (by decide), iL h6 (by decide), ?_⟩
  refine ⟨rfl, (by decide), iL h6 (by decide), ?_⟩
  refine ⟨⟨_, rfl, (by decide)⟩, ?_⟩
  refine x_odd hF hX (i32R _) (i32R _) (i32R _) (fun F1 I1 hF1 hM1 => ?_)
  refine ⟨rfl, (by decide), iL h6 (by decide), ?_⟩
  refine ⟨rfl, (by decide), iL h6 (by decide), ?_⟩
  refine ⟨rfl, (by decide), iL h6 (by decide), ?_⟩
  refine ⟨⟨_, rfl, (by decide)⟩, ?_⟩
  refine m_odd hF1 (FX.m hX hM1) (i32R _) (i32R _) (i32R _) (fun F2 I2 => ?_)
  refine ⟨fun _ => ?_, fun c => absurd rfl c⟩
  exact law_tail h6
theorem law_c19 (hF : FS F) (hX : FX I) (h6 : gN G = 6) : GoN G 1000 kL_law 0 NP 910 lvl [] F I Qlw := by
  refine law_wp law_oc ckL_law [1666] ?_
  refine ⟨rfl, (by decide), iL h6 (by decide), ?_⟩
  refine ⟨rfl, (by decide), iL h6 (by decide), ?_⟩
  refine ⟨rfl, (by decide), iL h6 (by decide), ?_⟩
  refine ⟨rfl, (by decide), iL h6 (by decide), ?_⟩
  refine ⟨⟨_, rfl, (by decide)⟩, ?_⟩
  refine x_sure hF hX (i32R _) (i32R _) (i32R _) (i32R _) (fun F1 I1 hF1 hM1 => ?_)
  refine ⟨rfl, (by decide), iL h6 (by decide), ?_⟩
  refine ⟨rfl, (by decide), iL h6 (by decide), ?_⟩
  refine ⟨rfl, (by decide), iL h6 (by decide), ?_⟩
  refine ⟨rfl, (by decide), iL h6 (by decide), ?_⟩
  refine ⟨⟨_, rfl, (by decide)⟩, ?_⟩
  refine m_sure hF1 (FX.m hX hM1) (i32R _) (i32R _) (i32R _) (i32R _) (fun F2 I2 => ?_)
  refine ⟨fun _ => ?_, fun c => absurd rfl c⟩
  exact law_tail h6
theorem law_c20 (hF : FS F) (hX : FX I) (h6 : gN G = 6) : GoN G 1000 kL_law 0 NP 963 lvl [] F I Qlw := by
  refine law_wp law_oc ckL_law [1666] ?_
  refine ⟨rfl, (by decide), iL h6 (by decide), ?_⟩
  refine ⟨rfl, (by decide), iL h6 (by decide), ?_⟩
  refine ⟨⟨_, rfl, (by decide)⟩, ?_⟩
  refine x_few hF hX (i32R _) (i32R _) (fun F1 I1 hF1 hM1 => ?_)
  refine ⟨rfl, (by decide), iL h6 (by decide), ?_⟩
  refine ⟨rfl, (by decide), iL h6 (by decide), ?_⟩
  refine ⟨⟨_, rfl, (by decide)⟩, ?_⟩
  refine m_few hF1 (FX.m hX hM1) (i32R _) (i32R _) (fun F2 I2 => ?_)
  refine ⟨fun _ => ?_, fun c => absurd (few_e _ _) c⟩
  exact law_tail h6
theorem law_c21 (hF : FS F) (hX : FX I) (h6 : gN G = 6) : GoN G 1000 kL_law 0 NP 996 lvl [] F I Qlw := by
  refine law_wp law_oc ckL_law [1666] ?_
  refine ⟨rfl, (by decide), iL h6 (by decide), ?_⟩
  refine ⟨rfl, (by decide), iL h6 (by decide), ?_⟩
  refine ⟨rfl, (by decide), iL h6 (by decide), ?_⟩
  refine ⟨rfl, (by decide), iL h6 (by decide), ?_⟩
  refine ⟨⟨_, rfl, (by decide)⟩, ?_⟩
  refine x_prove hF hX (i32R _) (i32R _) (i32R _) (i32R _) (fun F1 I1 hF1 hM1 => ?_)
  refine ⟨rfl, (by decide), iL h6 (by decide), ?_⟩
  refine ⟨rfl, (by decide), iL h6 (by decide), ?_⟩
  refine ⟨rfl, (by decide), iL h6 (by decide), ?_⟩
  refine ⟨rfl, (by decide), iL h6 (by decide), ?_⟩
  refine ⟨⟨_, rfl, (by decide)⟩, ?_⟩
  refine m_prove hF1 (FX.m hX hM1) (i32R _) (i32R _) (i32R _) (i32R _) (fun F2 I2 => ?_)
  refine ⟨fun _ => ?_, fun c => absurd rfl c⟩
  exact law_tail h6
theorem law_c22 (hF : FS F) (hX : FX I) (h6 : gN G = 6) : GoN G 1000 kL_law 0 NP 1049 lvl [] F I Qlw := by
  refine law_wp law_oc ckL_law [1666] ?_
  refine ⟨rfl, (by decide), iL h6 (by decide), ?_⟩
  refine ⟨rfl, (by decide), iL h6 (by decide), ?_⟩
  refine ⟨rfl, (by decide), iL h6 (by decide), ?_⟩
  refine ⟨⟨_, rfl, (by decide)⟩, ?_⟩
  refine x_led hF hX (i32R _) (i32R _) (i32R _) (fun F1 I1 hF1 hM1 => ?_)
  refine ⟨rfl, (by decide), iL h6 (by decide), ?_⟩
  refine ⟨rfl, (by decide), iL h6 (by decide), ?_⟩
  refine ⟨rfl, (by decide), iL h6 (by decide), ?_⟩
  refine ⟨⟨_, rfl, (by decide)⟩, ?_⟩
  refine m_led hF1 (FX.m hX hM1) (i32R _) (i32R _) (i32R _) (fun F2 I2 => ?_)
  refine ⟨fun _ => ?_, fun c => absurd rfl c⟩
  exact law_tail h6
theorem law_c23 (hF : FS F) (hX : FX I) (h6 : gN G = 6) : GoN G 1000 kL_law 0 NP 1092 lvl [] F I Qlw := by
  refine law_wp law_oc ckL_law [1666] ?_
  refine ⟨rfl, (by decide), iL h6 (by decide), ?_⟩
  refine ⟨rfl, (by decide), iL h6 (by decide), ?_⟩
  refine ⟨rfl, (by decide), iL h6 (by decide), ?_⟩
  refine ⟨⟨_, rfl, (by decide)⟩, ?_⟩
  refine x_enter hF hX (i32R _) (i32R _) (i32R _) (fun F1 I1 hF1 hM1 => ?_)
  refine ⟨rfl, (by decide), iL h6 (by decide), ?_⟩
  refine ⟨rfl, (by decide), iL h6 (by decide), ?_⟩
  refine ⟨rfl, (by decide), iL h6 (by decide), ?_⟩
  refine ⟨⟨_, rfl, (by decide)⟩, ?_⟩
  refine m_enter hF1 (FX.m hX hM1) (i32R _) (i32R _) (i32R _) (fun F2 I2 => ?_)
  refine ⟨fun _ => ?_, fun c => absurd rfl c⟩
  exact law_tail h6
theorem law_c24 (hF : FS F) (hX : FX I) (h6 : gN G = 6) : GoN G 1000 kL_law 0 NP 1135 lvl [] F I Qlw := by
  refine law_wp law_oc ckL_law [1666] ?_
  refine ⟨rfl, (by decide), iL h6 (by decide), ?_⟩
  refine ⟨rfl, (by decide), iL h6 (by decide), ?_⟩
  refine ⟨⟨_, rfl, (by decide)⟩, ?_⟩
  refine x_entryIs hF hX (i32R _) (i32R _) (fun F1 I1 hF1 hM1 => ?_)
  refine ⟨rfl, (by decide), iL h6 (by decide), ?_⟩
  refine ⟨rfl, (by decide), iL h6 (by decide), ?_⟩
  refine ⟨⟨_, rfl, (by decide)⟩, ?_⟩
  refine m_entryIs hF1 (FX.m hX hM1) (i32R _) (i32R _) (fun F2 I2 => ?_)
  refine ⟨fun _ => ?_, fun c => absurd rfl c⟩
  exact law_tail h6
theorem law_c25 (hF : FS F) (hX : FX I) (h6 : gN G = 6) : GoN G 1000 kL_law 0 NP 1168 lvl [] F I Qlw := by
  refine law_wp law_oc ckL_law [1666] ?_
  refine ⟨rfl, (by decide), iL h6 (by decide), ?_⟩
  refine ⟨rfl, (by decide), iL h6 (by decide), ?_⟩
  refine ⟨⟨_, rfl, (by decide)⟩, ?_⟩
  refine x_back hF hX (i32R _) (i32R _) (fun F1 I1 hF1 hM1 => ?_)
  refine ⟨rfl, (by decide), iL h6 (by decide), ?_⟩
  refine ⟨rfl, (by decide), iL h6 (by decide), ?_⟩
  refine ⟨⟨_, rfl, (by decide)⟩, ?_⟩
  refine m_back hF1 (FX.m hX hM1) (i32R _) (i32R _) (fun F2 I2 => ?_)
  refine ⟨fun _ => ?_, fun c => absurd rfl c⟩
  exact law_tail h6
theorem law_c26 (hF : FS F) (hX : FX I) (h6 : gN G = 6) : GoN G 1000 kL_law 0 NP 1201 lvl [] F I Qlw := by
  refine law_wp law_oc ckL_law [1666] ?_
  refine ⟨rfl, (by decide), iL h6 (by decide), ?_⟩
  refine ⟨rfl, (by decide), iL h6 (by decide), ?_⟩
  refine ⟨⟨_, rfl, (by decide)⟩, ?_⟩
  refine x_book hF hX (i32R _) (i32R _) (fun F1 I1 hF1 hM1 => ?_)
  refine ⟨rfl, (by decide), iL h6 (by decide), ?_⟩
  refine ⟨rfl, (by decide), iL h6 (by decide), ?_⟩
  refine ⟨⟨_, rfl, (by decide)⟩, ?_⟩
  refine m_book hF1 (FX.m hX hM1) (i32R _) (i32R _) (fun F2 I2 => ?_)
  refine ⟨fun _ => ?_, fun c => absurd rfl c⟩
  exact law_tail h6
theorem law_c27 (hF : FS F) (hX : FX I) (h6 : gN G = 6) : GoN G 1000 kL_law 0 NP 1234 lvl [] F I Qlw := by
  refine law_wp law_oc ckL_law [1666] ?_
  refine ⟨rfl, (by decide), iL h6 (by decide), ?_⟩
  refine ⟨⟨_, rfl, (by decide)⟩, ?_⟩
  refine x_hangs hF hX (i32R _) (fun F1 I1 hF1 hM1 => ?_)
  refine ⟨rfl, (by decide), iL h6 (by decide), ?_⟩
  refine ⟨⟨_, rfl, (by decide)⟩, ?_⟩
  refine m_hangs hF1 (FX.m hX hM1) (i32R _) (fun F2 I2 => ?_)
  refine ⟨fun _ => ?_, fun c => absurd rfl c⟩
  exact law_tail h6
theorem law_c28 (hF : FS F) (hX : FX I) (h6 : gN G = 6) : GoN G 1000 kL_law 0 NP 1257 lvl [] F I Qlw := by
  refine law_wp law_oc ckL_law [1666] ?_
  refine ⟨rfl, (by decide), iL h6 (by decide), ?_⟩
  refine ⟨rfl, (by decide), iL h6 (by decide), ?_⟩
  refine ⟨rfl, (by decide), iL h6 (by decide), ?_⟩
  refine ⟨⟨_, rfl, (by decide)⟩, ?_⟩
  refine x_plates hF hX (i32R _) (i32R _) (i32R _) (fun F1 I1 hF1 hM1 => ?_)
  refine ⟨rfl, (by decide), iL h6 (by decide), ?_⟩
  refine ⟨rfl, (by decide), iL h6 (by decide), ?_⟩
  refine ⟨rfl, (by decide), iL h6 (by decide), ?_⟩
  refine ⟨⟨_, rfl, (by decide)⟩, ?_⟩
  refine m_plates hF1 (FX.m hX hM1) (i32R _) (i32R _) (i32R _) (fun F2 I2 => ?_)
  refine ⟨fun _ => ?_, fun c => absurd rfl c⟩
  exact law_tail h6
theorem law_c29 (hF : FS F) (hX : FX I) (h6 : gN G = 6) : GoN G 1000 kL_law 0 NP 1300 lvl [] F I Qlw := by
  refine law_wp law_oc ckL_law [1666] ?_
  refine ⟨rfl, (by decide), iL h6 (by decide), ?_⟩
  refine ⟨⟨_, rfl, (by decide)⟩, ?_⟩
  refine x_drift hF hX (i32R _) (fun F1 I1 hF1 hM1 => ?_)
  refine ⟨rfl, (by decide), iL h6 (by decide), ?_⟩
  refine ⟨⟨_, rfl, (by decide)⟩, ?_⟩
  refine m_drift hF1 (FX.m hX hM1) (i32R _) (fun F2 I2 => ?_)
  refine ⟨fun _ => ?_, fun c => absurd (drift_e _) c⟩
  exact law_tail h6
theorem law_c30 (hF : FS F) (hX : FX I) (h6 : gN G = 6) : GoN G 1000 kL_law 0 NP 1323 lvl [] F I Qlw := by
  refine law_wp law_oc ckL_law [1666] ?_
  refine ⟨rfl, (by decide), iL h6 (by decide), ?_⟩
  refine ⟨rfl, (by decide), iL h6 (by decide), ?_⟩
  refine ⟨rfl, (by decide), iL h6 (by decide), ?_⟩
  refine ⟨⟨_, rfl, (by decide)⟩, ?_⟩
  refine x_voice hF hX (i32R _) (i32R _) (i32R _) (fun F1 I1 hF1 hM1 => ?_)
  refine ⟨rfl, (by decide), iL h6 (by decide), ?_⟩
  refine ⟨rfl, (by decide), iL h6 (by decide), ?_⟩
  refine ⟨rfl, (by decide), iL h6 (by decide), ?_⟩
  refine ⟨⟨_, rfl, (by decide)⟩, ?_⟩
  refine m_voice hF1 (FX.m hX hM1) (i32R _) (i32R _) (i32R _) (fun F2 I2 => ?_)
  refine ⟨fun _ => ?_, fun c => absurd rfl c⟩
  exact law_tail h6
theorem law_c31 (hF : FS F) (hX : FX I) (h6 : gN G = 6) : GoN G 1000 kL_law 0 NP 1366 lvl [] F I Qlw := by
  refine law_wp law_oc ckL_law [1666] ?_
  refine ⟨rfl, (by decide), iL h6 (by decide), ?_⟩
  refine ⟨⟨_, rfl, (by decide)⟩, ?_⟩
  refine x_body hF hX (i32R _) (fun F1 I1 hF1 hM1 => ?_)
  refine ⟨rfl, (by decide), iL h6 (by decide), ?_⟩
  refine ⟨⟨_, rfl, (by decide)⟩, ?_⟩
  refine m_body_ hF1 (FX.m hX hM1) (i32R _) (fun F2 I2 => ?_)
  refine ⟨fun _ => ?_, fun c => absurd rfl c⟩
  exact law_tail h6
theorem law_c32 (hF : FS F) (hX : FX I) (h6 : gN G = 6) : GoN G 1000 kL_law 0 NP 1389 lvl [] F I Qlw := by
  refine law_wp law_oc ckL_law [1666] ?_
  refine ⟨rfl, (by decide), iL h6 (by decide), ?_⟩
  refine ⟨rfl, (by decide), iL h6 (by decide), ?_⟩
  refine ⟨rfl, (by decide), iL h6 (by decide), ?_⟩
  refine ⟨⟨_, rfl, (by decide)⟩, ?_⟩
  refine x_sheet hF hX (i32R _) (i32R _) (i32R _) (fun F1 I1 hF1 hM1 => ?_)
  refine ⟨rfl, (by decide), iL h6 (by decide), ?_⟩
  refine ⟨rfl, (by decide), iL h6 (by decide), ?_⟩
  refine ⟨rfl, (by decide), iL h6 (by decide), ?_⟩
  refine ⟨⟨_, rfl, (by decide)⟩, ?_⟩
  refine m_sheet hF1 (FX.m hX hM1) (i32R _) (i32R _) (i32R _) (fun F2 I2 => ?_)
  refine ⟨fun _ => ?_, fun c => absurd rfl c⟩
  exact law_tail h6
theorem law_c33 (hF : FS F) (hX : FX I) (h6 : gN G = 6) : GoN G 1000 kL_law 0 NP 1432 lvl [] F I Qlw := by
  refine law_wp law_oc ckL_law [1666] ?_
  refine ⟨rfl, (by decide), iL h6 (by decide), ?_⟩
  refine ⟨rfl, (by decide), iL h6 (by decide), ?_⟩
  refine ⟨rfl, (by decide), iL h6 (by decide), ?_⟩
  refine ⟨⟨_, rfl, (by decide)⟩, ?_⟩
  refine x_put hF hX (i32R _) (i32R _) (i32R _) (fun F1 I1 hF1 hM1 => ?_)
  refine ⟨rfl, (by decide), iL h6 (by decide), ?_⟩
  refine ⟨rfl, (by decide), iL h6 (by decide), ?_⟩
  refine ⟨rfl, (by decide), iL h6 (by decide), ?_⟩
  refine ⟨⟨_, rfl, (by decide)⟩, ?_⟩
  refine m_put hF1 (FX.m hX hM1) (i32R _) (i32R _) (i32R _) (fun F2 I2 => ?_)
  refine ⟨fun _ => ?_, fun c => absurd rfl c⟩
  exact law_tail h6
theorem law_c34 (hF : FS F) (hX : FX I) (h6 : gN G = 6) : GoN G 1000 kL_law 0 NP 1475 lvl [] F I Qlw := by
  refine law_wp law_oc ckL_law [1666] ?_
  refine ⟨rfl, (by decide), iL h6 (by decide), ?_⟩
  refine ⟨rfl, (by decide), iL h6 (by decide), ?_⟩
  refine ⟨rfl, (by decide), iL h6 (by decide), ?_⟩
  refine ⟨rfl, (by decide), iL h6 (by decide), ?_⟩
  refine ⟨rfl, (by decide), iL h6 (by decide), ?_⟩
  refine ⟨⟨_, rfl, (by decide)⟩, ?_⟩
  refine x_move hF hX (i32R _) (i32R _) (i32R _) (i32R _) (i32R _) (fun F1 I1 hF1 hM1 => ?_)
  refine ⟨rfl, (by decide), iL h6 (by decide), ?_⟩
  refine ⟨rfl, (by decide), iL h6 (by decide), ?_⟩
  refine ⟨rfl, (by decide), iL h6 (by decide), ?_⟩
  refine ⟨rfl, (by decide), iL h6 (by decide), ?_⟩
  refine ⟨rfl, (by decide), iL h6 (by decide), ?_⟩
  refine ⟨⟨_, rfl, (by decide)⟩, ?_⟩
  refine m_move hF1 (FX.m hX hM1) (i32R _) (i32R _) (i32R _) (i32R _) (i32R _) (fun F2 I2 => ?_)
  refine ⟨fun _ => ?_, fun c => absurd rfl c⟩
  exact law_tail h6
theorem law_c35 (hF : FS F) (hX : FX I) (h6 : gN G = 6) : GoN G 1000 kL_law 0 NP 1538 lvl [] F I Qlw := by
  refine law_wp law_oc ckL_law [1666] ?_
  refine ⟨⟨_, rfl, (by decide)⟩, ?_⟩
  refine x_image hF hX  (fun F1 I1 hF1 hM1 => ?_)
  refine ⟨⟨_, rfl, (by decide)⟩, ?_⟩
  refine m_image hF1 (FX.m hX hM1)  (fun F2 I2 => ?_)
  refine ⟨fun _ => ?_, fun c => absurd rfl c⟩
  exact law_tail h6
theorem law_c36 (hF : FS F) (hX : FX I) (h6 : gN G = 6) : GoN G 1000 kL_law 0 NP 1551 lvl [] F I Qlw := by
  refine law_wp law_oc ckL_law [1666] ?_
  refine ⟨⟨_, rfl, (by decide)⟩, ?_⟩
  refine x_restore hF hX  (fun F1 I1 hF1 hM1 => ?_)
  refine ⟨⟨_, rfl, (by decide)⟩, ?_⟩
  refine m_restore hF1 (FX.m hX hM1)  (fun F2 I2 => ?_)
  refine ⟨fun _ => ?_, fun c => absurd rfl c⟩
  exact law_tail h6
theorem law_c37 (hF : FS F) (hX : FX I) (h6 : gN G = 6) : GoN G 1000 kL_law 0 NP 1564 lvl [] F I Qlw := by
  refine law_wp law_oc ckL_law [1666] ?_
  refine ⟨rfl, (by decide), iL h6 (by decide), ?_⟩
  refine ⟨⟨_, rfl, (by decide)⟩, ?_⟩
  refine x_tell hF hX (i32R _) (fun F1 I1 hF1 hM1 => ?_)
  refine ⟨rfl, (by decide), iL h6 (by decide), ?_⟩
  refine ⟨⟨_, rfl, (by decide)⟩, ?_⟩
  refine m_tell hF1 (FX.m hX hM1) (i32R _) (fun F2 I2 => ?_)
  refine ⟨fun _ => ?_, fun c => absurd rfl c⟩
  exact law_tail h6
theorem law_c38 (hF : FS F) (hX : FX I) (h6 : gN G = 6) : GoN G 1000 kL_law 0 NP 1587 lvl [] F I Qlw := by
  refine law_wp law_oc ckL_law [1666] ?_
  refine ⟨rfl, (by decide), iL h6 (by decide), ?_⟩
  refine ⟨rfl, (by decide), iL h6 (by decide), ?_⟩
  refine ⟨⟨_, rfl, (by decide)⟩, ?_⟩
  refine x_check hF hX (i32R _) (i32R _) (fun F1 I1 hF1 hM1 => ?_)
  refine ⟨rfl, (by decide), iL h6 (by decide), ?_⟩
  refine ⟨rfl, (by decide), iL h6 (by decide), ?_⟩
  refine ⟨⟨_, rfl, (by decide)⟩, ?_⟩
  refine m_check hF1 (FX.m hX hM1) (i32R _) (i32R _) (fun F2 I2 => ?_)
  refine ⟨fun _ => ?_, fun c => absurd rfl c⟩
  exact law_tail h6
theorem law_c39 (hF : FS F) (hX : FX I) (h6 : gN G = 6) : GoN G 1000 kL_law 0 NP 1620 lvl [] F I Qlw := by
  refine law_wp law_oc ckL_law [1666] ?_
  refine ⟨rfl, (by decide), iL h6 (by decide), ?_⟩
  refine ⟨⟨_, rfl, (by decide)⟩, ?_⟩
  refine x_count hF hX (i32R _) (fun F1 I1 hF1 hM1 => ?_)
  refine ⟨rfl, (by decide), iL h6 (by decide), ?_⟩
  refine ⟨⟨_, rfl, (by decide)⟩, ?_⟩
  refine m_count hF1 (FX.m hX hM1) (i32R _) (fun F2 I2 => ?_)
  refine ⟨fun _ => ?_, fun c => absurd rfl c⟩
  exact law_tail h6
theorem law_c40 (hF : FS F) (hX : FX I) (h6 : gN G = 6) : GoN G 1000 kL_law 0 NP 1643 lvl [] F I Qlw := by
  refine law_wp law_oc ckL_law [1666] ?_
  refine ⟨rfl, (by decide), iL h6 (by decide), ?_⟩
  refine ⟨⟨_, rfl, (by decide)⟩, ?_⟩
  refine x_told hF hX (i32R _) (fun F1 I1 hF1 hM1 => ?_)
  refine ⟨rfl, (by decide), iL h6 (by decide), ?_⟩
  refine ⟨⟨_, rfl, (by decide)⟩, ?_⟩
  refine m_told hF1 (FX.m hX hM1) (i32R _) (fun F2 I2 => ?_)
  refine ⟨fun _ => ?_, fun c => absurd rfl c⟩
  exact law_tail h6
theorem law_18 (hF : FS F) (hX : FX I) (hN : gN G ≤ 6) : GoN G 1000 kL_law 0 NP 18 lvl [] F I Qlw := by
  refine law_wp law_oc ckL_law [212, 275, 308, 341, 374, 417, 460, 493, 556, 579, 612, 635, 668, 701, 724, 757, 791, 824, 867, 910, 963, 996, 1049, 1092, 1135, 1168, 1201, 1234, 1257, 1300, 1323, 1366, 1389, 1432, 1475, 1538, 1551, 1564, 1587, 1620, 1643, 1666] ?_
  refine ⟨rfl, ?_⟩
  refine ⟨fun _ => ⟨rfl, Or.inr rfl, rfl⟩, fun c => ?_⟩
  have h6 := is6 hN c
  refine ⟨rfl, (by decide), iL h6 (by decide), ?_⟩
  refine ⟨fun _ => law_c0 hF hX h6, fun _ => ?_⟩
  refine ⟨fun _ => law_c1 hF hX h6, fun _ => ?_⟩
  refine ⟨fun _ => law_c2 hF hX h6, fun _ => ?_⟩
  refine ⟨fun _ => law_c3 hF hX h6, fun _ => ?_⟩
  refine ⟨fun _ => law_c4 hF hX h6, fun _ => ?_⟩
  refine ⟨fun _ => law_c5 hF hX h6, fun _ => ?_⟩
  refine ⟨fun _ => law_c6 hF hX h6, fun _ => ?_⟩
  refine ⟨fun _ => law_c7 hF hX h6, fun _ => ?_⟩
  refine ⟨fun _ => law_c8 hF hX h6, fun _ => ?_⟩
  refine ⟨fun _ => law_c9 hF hX h6, fun _ => ?_⟩
  refine ⟨fun _ => law_c10 hF hX h6, fun _ => ?_⟩
  refine ⟨fun _ => law_c11 hF hX h6, fun _ => ?_⟩
  refine ⟨fun _ => law_c12 hF hX h6, fun _ => ?_⟩
  refine ⟨fun _ => law_c13 hF hX h6, fun _ => ?_⟩
  refine ⟨fun _ => law_c14 hF hX h6, fun _ => ?_⟩
  refine ⟨fun _ => law_c15 hF hX h6, fun _ => ?_⟩
  refine ⟨fun _ => law_c16 hF hX h6, fun _ => ?_⟩
  refine ⟨fun _ => law_c17 hF hX h6, fun _ => ?_⟩
  refine ⟨fun _ => law_c18 hF hX h6, fun _ => ?_⟩
  refine ⟨fun _ => law_c19 hF hX h6, fun _ => ?_⟩
  refine ⟨fun _ => law_c20 hF hX h6, fun _ => ?_⟩
  refine ⟨fun _ => law_c21 hF hX h6, fun _ => ?_⟩
  refine ⟨fun _ => law_c22 hF hX h6, fun _ => ?_⟩
  refine ⟨fun _ => law_c23 hF hX h6, fun _ => ?_⟩
  refine ⟨fun _ => law_c24 hF hX h6, fun _ => ?_⟩
  refine ⟨fun _ => law_c25 hF hX h6, fun _ => ?_⟩
  refine ⟨fun _ => law_c26 hF hX h6, fun _ => ?_⟩
  refine ⟨fun _ => law_c27 hF hX h6, fun _ => ?_⟩
  refine ⟨fun _ => law_c28 hF hX h6, fun _ => ?_⟩
  refine ⟨fun _ => law_c29 hF hX h6, fun _ => ?_⟩
  refine ⟨fun _ => law_c30 hF hX h6, fun _ => ?_⟩
  refine ⟨fun _ => law_c31 hF hX h6, fun _ => ?_⟩
  refine ⟨fun _ => law_c32 hF hX h6, fun _ => ?_⟩
  refine ⟨fun _ => law_c33 hF hX h6, fun _ => ?_⟩
  refine ⟨fun _ => law_c34 hF hX h6, fun _ => ?_⟩
  refine ⟨fun _ => law_c35 hF hX h6, fun _ => ?_⟩
  refine ⟨fun _ => law_c36 hF hX h6, fun _ => ?_⟩
  refine ⟨fun _ => law_c37 hF hX h6, fun _ => ?_⟩
  refine ⟨fun _ => law_c38 hF hX h6, fun _ => ?_⟩
  refine ⟨fun _ => law_c39 hF hX h6, fun _ => ?_⟩
  refine ⟨fun _ => law_c40 hF hX h6, fun _ => ?_⟩
  exact law_tail h6
set_option maxRecDepth 100000 in
theorem law_go (hN : gN G ≤ 6) : GoN G 1000 kL_law 0 0 0 [some (vr EXT), none, none, none] [] (fun _ _ => none) (fun _ _ => 0) Qlw := by
  refine law_wp law_oc ckL_law [18] ?_
  refine ⟨rfl, (by decide), (by decide), ?_⟩
  refine ⟨Nat.le_of_ble_eq_true rfl, (by decide), ?_⟩
  refine s_X11_init_0 ?_
  refine ⟨rfl, (by decide), (by decide), ?_⟩
  refine ⟨Nat.le_of_ble_eq_true rfl, (by decide), ?_⟩
  refine s_X12_init_235 ?_
  exact law_18 F00_S I00_X hN
end LW
