/-! the law's walk. Own work (laid by wip/pm/genlaw.py). -/
theorem i32R (x : Int32) : iR x.toInt := ⟨by have := Int32.le_toInt x; omega, by have := Int32.toInt_lt x; omega⟩
def LK (I : pI) : Prop := LI I ∧ LA 1 1 1 0 1 I ∧ LB 1 1 1 0 1 I ∧ LA 4 0 5 4 1 I ∧ LB 4 0 5 4 1 I ∧ LA 12 6 1 1 1 I ∧ LB 12 6 1 1 1 I ∧ LA 15 0 20 188 6 I ∧ LB 15 0 20 188 6 I ∧ LA 8 0 6 16 4 I ∧ LB 8 0 6 16 4 I ∧ LH I ∧ LN I ∧ LPc I ∧ LPk I ∧ LTc I ∧ LTk I ∧ LGc I ∧ LGk I ∧ LRc I ∧ LRk I
theorem I00_K : LK I00 := ⟨(show I00 0 2 = I00 235 2 by decide +kernel), LA_of (by decide +kernel), Or.inl (by decide +kernel), LA_of (by decide +kernel), Or.inl (by decide +kernel), LA_of (by decide +kernel), Or.inl (by decide +kernel), LA_of (by decide +kernel), Or.inl (by decide +kernel), LA_of (by decide +kernel), Or.inl (by decide +kernel), LH_of (by decide +kernel), LN_of (by decide +kernel), LPc_0, Or.inl (by decide +kernel), ⟨(by decide +kernel), fun j hj => absurd hj (by rw [show I00 236 2 = 0 from by decide +kernel]; omega)⟩, Or.inl (by decide +kernel), LGc_0, Or.inl (by decide +kernel), LRc_0, Or.inl (by decide +kernel)⟩
def Bd (G : pG) (i : Int) : Prop := 0 ≤ i ∧ i + 6 ≤ (gN G : Int) ∧ gN G ≤ 3072
theorem ixw {i k : Int} (h : 0 ≤ i ∧ i ≤ 3072) (hk : 0 ≤ k ∧ k ≤ 6) : wr (i + k) = i + k := by unfold wr; omega
theorem ixl {G : pG} {i k : Int} (h : Bd G i) (hk : 0 ≤ k ∧ k < 6) : 0 ≤ wr (i + k) := by
  obtain ⟨h1, h2, h3⟩ := h
  rw [ixw (by omega) (by omega)]; omega
theorem ixh {G : pG} {i k : Int} (h : Bd G i) (hk : 0 ≤ k ∧ k < 6) : wr (i + k) < (gN G : Int) := by
  obtain ⟨h1, h2, h3⟩ := h
  rw [ixw (by omega) (by omega)]; omega
theorem ofN {n : Nat} (h : n ≤ 3072) : (Int32.ofNat n).toInt = (n : Int) := by
  exact Int32.toInt_ofNat_of_lt (by omega)
theorem isB {G : pG} {i : Int} (hN : gN G ≤ 3072) (hi : 0 ≤ i) (c : ¬ wr ((Int32.ofNat (gN G)).toInt - 6) < i) : Bd G i := by
  rw [ofN hN, show wr ((gN G : Int) - 6) = (gN G : Int) - 6 from by unfold wr; omega] at c
  exact ⟨hi, by omega, hN⟩
abbrev Qlw : Option pV → pF → pI → Prop := fun r _ _ => r = some (vi 1)
abbrev lvl (i : Int) : List (Option pV) := [some (vr EXT), some (vr 0), some (vr 235), some (vi i)]
section LW
variable {G : pG} {F : pF} {I : pI} {i : Int}
theorem law_oc : oC (mO kL_law) = (mY kL_law).cls := rfl
theorem law_wp {d k n0 n pc : Nat} {t : pT} {lv : List (Option pV)} {st : List pV} {Q : Option pV → pF → pI → Prop} (ho : oC (mO k) = (mY k).cls) (hc : chkT k t = true) (cuts : List Nat) (h : wp G d k n0 t cuts Q 2000 pc lv st n F I) : GoN G d k n0 n pc lv st F I Q := ⟨wp_Go ho hc _ _ _ _ _ _ _ h⟩
def NXT (G : pG) (i : Int) : Prop := ∀ (F : pF) (I : pI), FS F → Rg I → LK I → GoN G 1000 kL_law 0 NP 18 (lvl (i + 6)) [] F I Qlw
theorem law_tail (h : Bd G i) (ih : NXT G i) (hF : FS F) (hR : Rg I) (hK : LK I) : GoN G 1000 kL_law 0 NP 1665 (lvl i) [] F I Qlw := by
  have h0 := h
  obtain ⟨h1, h2, h3⟩ := h0
  refine law_wp law_oc ckL_law [18] ?_
  have g := ih F I hF hR hK
  unfold lvl at g
  rw [← ixw (i := i) (k := 6) (by omega) (by decide)] at g
  exact g
theorem law_c0 (h : Bd G i) (ih : NXT G i) (hF : FS F) (hR : Rg I) (hK : LK I) : GoN G 1000 kL_law 0 NP 212 (lvl i) [] F I Qlw := by
  refine law_wp law_oc ckL_law [1665] ?_
  refine ⟨rfl, ixl h (by decide), ixh h (by decide), ?_⟩
  refine ⟨rfl, ixl h (by decide), ixh h (by decide), ?_⟩
  refine ⟨rfl, ixl h (by decide), ixh h (by decide), ?_⟩
  refine ⟨rfl, ixl h (by decide), ixh h (by decide), ?_⟩
  refine ⟨rfl, ixl h (by decide), ixh h (by decide), ?_⟩
  refine ⟨⟨_, rfl, (by decide)⟩, ?_⟩
  refine c_piece6 hF hR (by have a1 : I 1 1 = I 236 0 := (show I 1 1 = I 236 0 from hK.2.1 0 (by decide)); have a4 := Rg.n0 hR; omega) (fun r1 I1 hR1 hA1 hr1 hW1 q1a => ?_)
  refine ⟨rfl, ixl h (by decide), ixh h (by decide), ?_⟩
  refine ⟨rfl, ixl h (by decide), ixh h (by decide), ?_⟩
  refine ⟨rfl, ixl h (by decide), ixh h (by decide), ?_⟩
  refine ⟨rfl, ixl h (by decide), ixh h (by decide), ?_⟩
  refine ⟨rfl, ixl h (by decide), ixh h (by decide), ?_⟩
  refine ⟨⟨_, rfl, (by decide)⟩, ?_⟩
  refine r_piece6 hF hR1  (fun r2 I2 hR2 hA2 hr2 hW2 q2a => ?_)
  have hK2 : LK I2 := by
    have hI : I 0 2 = I 235 2 := hK.1
    have hL0 : LA 1 1 1 0 1 I := hK.2.1
    have hB0 : LB 1 1 1 0 1 I := hK.2.2.1
    have hL1 : LA 4 0 5 4 1 I := hK.2.2.2.1
    have hB1 : LB 4 0 5 4 1 I := hK.2.2.2.2.1
    have hL2 : LA 12 6 1 1 1 I := hK.2.2.2.2.2.1
    have hB2 : LB 12 6 1 1 1 I := hK.2.2.2.2.2.2.1
    have hL3 : LA 15 0 20 188 6 I := hK.2.2.2.2.2.2.2.1
    have hB3 : LB 15 0 20 188 6 I := hK.2.2.2.2.2.2.2.2.1
    have hL4 : LA 8 0 6 16 4 I := hK.2.2.2.2.2.2.2.2.2.1
    have hB4 : LB 8 0 6 16 4 I := hK.2.2.2.2.2.2.2.2.2.2.1
    have hLH : LH I := hK.2.2.2.2.2.2.2.2.2.2.2.1
    have hLN : LN I := hK.2.2.2.2.2.2.2.2.2.2.2.2.1
    have hLPc : LPc I := hK.2.2.2.2.2.2.2.2.2.2.2.2.2.1
    have hLPk : LPk I := hK.2.2.2.2.2.2.2.2.2.2.2.2.2.2.1
    have hLTc : LTc I := hK.2.2.2.2.2.2.2.2.2.2.2.2.2.2.2.1
    have hLTk : LTk I := hK.2.2.2.2.2.2.2.2.2.2.2.2.2.2.2.2.1
    have hLGc : LGc I := hK.2.2.2.2.2.2.2.2.2.2.2.2.2.2.2.2.2.1
    have hLGk : LGk I := hK.2.2.2.2.2.2.2.2.2.2.2.2.2.2.2.2.2.2.1
    have hLRc : LRc I := hK.2.2.2.2.2.2.2.2.2.2.2.2.2.2.2.2.2.2.2.1
    have hLRk : LRk I := hK.2.2.2.2.2.2.2.2.2.2.2.2.2.2.2.2.2.2.2.2
    have gLH : LH I2 := LH_f hLH (fun s hs => ⟨(hW2 (227 + 2 * s) 0 (by omega)).trans (hW1 (227 + 2 * s) 0 (by omega)), (hW2 (227 + 2 * s) 1 (by omega)).trans (hW1 (227 + 2 * s) 1 (by omega))⟩) (fun s hs => ⟨(hW2 250 s (by omega)).trans (hW1 250 s (by omega)), (hW2 251 s (by omega)).trans (hW1 251 s (by omega))⟩)
    have gLN : LN I2 := LN_f hLN (fun s j hs hj => (hW2 (228 + 2 * s) j (by omega)).trans (hW1 (228 + 2 * s) j (by omega))) (fun s j hs hj => (hW2 252 (24 * s + j) (by omega)).trans (hW1 252 (24 * s + j) (by omega)))
    have gLPc : LPc I2 := LPc_p hR hLN hLPc (show I 1 1 = I 236 0 from hK.2.1 0 (by decide)) (PT_e q1a.1 q2a.1 (((show I 1 1 = I 236 0 from hK.2.1 0 (by decide))).trans (hW1 236 0 (by omega)).symm) (fun hv => ((hK.2.2.2.2.2.2.2.2.2.2.2.1 (Int.toNat _) (by have := hv.2.2.2.1; omega)).1).trans (hW1 250 _ (by omega)).symm) (fun hv => piece_g hK.2.2.2.2.2.2.2.2.2.2.2.1 hK.2.2.2.2.2.2.2.2.2.2.2.2.1 hv.2.2.2.1 (by have := hv.2.2.2.2; omega) (fun k j h => hW1 k j (by omega))) (by have a1 : I 1 1 = I 236 0 := (show I 1 1 = I 236 0 from hK.2.1 0 (by decide)); have a4 := Rg.n0 hR; omega)).2 q1a q2a (fun k j h => hW1 k j (by omega)) (fun k j h => hW2 k j (by omega))
    have gLPk : LPk I2 := LPk_f hR hLPk ((hW2 0 2 (by omega)).trans (hW1 0 2 (by omega))) (fun k j h1 h2 => (hW2 k j (by omega)).trans (hW1 k j (by omega))) (fun j => (hW2 237 j (by omega)).trans (hW1 237 j (by omega)))
    have gLTc : LTc I2 := LTc_f hR hLTc ((hW2 1 (5) (by omega)).trans (hW1 1 (5) (by omega))) (fun j => (hW2 5 (j) (by omega)).trans (hW1 5 (j) (by omega))) ((hW2 236 (2) (by omega)).trans (hW1 236 (2) (by omega))) (fun j h1 h2 => (hW2 236 (j) (by omega)).trans (hW1 236 (j) (by omega)))
    have gLTk : LTk I2 := LTk_f hLTk ((hW2 0 (2) (by omega)).trans (hW1 0 (2) (by omega))) ((hW2 102 (5) (by omega)).trans (hW1 102 (5) (by omega))) (fun j => (hW2 106 (j) (by omega)).trans (hW1 106 (j) (by omega))) (fun j => (hW2 237 (j) (by omega)).trans (hW1 237 (j) (by omega)))
    have gLGc : LGc I2 := LGc_f hLGc (fun k j h1 h2 => (hW2 k j (by omega)).trans (hW1 k j (by omega))) (fun j h1 h2 => (hW2 236 (j) (by omega)).trans (hW1 236 (j) (by omega)))
    have gLGk : LGk I2 := LGk_f hLGk ((hW2 0 (2) (by omega)).trans (hW1 0 (2) (by omega))) (fun k j h1 h2 => (hW2 k j (by omega)).trans (hW1 k j (by omega))) (fun j => (hW2 237 (j) (by omega)).trans (hW1 237 (j) (by omega)))
    have gLRc : LRc I2 := LRc_p hR hLRc (show I 1 1 = I 236 0 from hK.2.1 0 (by decide)) (PT_e q1a.1 q2a.1 (((show I 1 1 = I 236 0 from hK.2.1 0 (by decide))).trans (hW1 236 0 (by omega)).symm) (fun hv => ((hK.2.2.2.2.2.2.2.2.2.2.2.1 (Int.toNat _) (by have := hv.2.2.2.1; omega)).1).trans (hW1 250 _ (by omega)).symm) (fun hv => piece_g hK.2.2.2.2.2.2.2.2.2.2.2.1 hK.2.2.2.2.2.2.2.2.2.2.2.2.1 hv.2.2.2.1 (by have := hv.2.2.2.2; omega) (fun k j h => hW1 k j (by omega))) (by have a1 : I 1 1 = I 236 0 := (show I 1 1 = I 236 0 from hK.2.1 0 (by decide)); have a4 := Rg.n0 hR; omega)).2 q1a q2a (fun k j h => hW1 k j (by omega)) (fun k j h => hW2 k j (by omega))
    have gLRk : LRk I2 := LRk_f hR hLRk ((hW2 0 2 (by omega)).trans (hW1 0 2 (by omega))) (fun k j h1 h2 => (hW2 k j (by omega)).trans (hW1 k j (by omega))) (fun j => (hW2 237 j (by omega)).trans (hW1 237 j (by omega)))
    have gI : LI I2 := ((hW2 0 (2) (by omega)).trans (hW1 0 (2) (by omega))).trans (hI.trans ((hW2 235 (2) (by omega)).trans (hW1 235 (2) (by omega))).symm)
    have gL0 : LA 1 1 1 0 1 I2 := by
      intro j hj
      obtain rfl : j = 0 := by omega
      show I2 1 1 = I2 236 0
      exact (hW2 1 1 (by omega)).trans (PT_e q1a.1 q2a.1 (((show I 1 1 = I 236 0 from hK.2.1 0 (by decide))).trans (hW1 236 0 (by omega)).symm) (fun hv => ((hK.2.2.2.2.2.2.2.2.2.2.2.1 (Int.toNat _) (by have := hv.2.2.2.1; omega)).1).trans (hW1 250 _ (by omega)).symm) (fun hv => piece_g hK.2.2.2.2.2.2.2.2.2.2.2.1 hK.2.2.2.2.2.2.2.2.2.2.2.2.1 hv.2.2.2.1 (by have := hv.2.2.2.2; omega) (fun k j h => hW1 k j (by omega))) (by have a1 : I 1 1 = I 236 0 := (show I 1 1 = I 236 0 from hK.2.1 0 (by decide)); have a4 := Rg.n0 hR; omega)).2
    have gB0 : LB 1 1 1 0 1 I2 := LB_f hB0 ((hW2 0 (2) (by omega)).trans (hW1 0 (2) (by omega))) (fun j hj => (hW2 102 (j + 1) (by omega)).trans (hW1 102 (j + 1) (by omega))) (fun j hj => (hW2 237 (0 + 1 * j) (by omega)).trans (hW1 237 (0 + 1 * j) (by omega)))
    have gL1 : LA 4 0 5 4 1 I2 := LA_f hL1 (fun j hj => (hW2 4 (j + 0) (by omega)).trans (hW1 4 (j + 0) (by omega))) (fun j hj => (hW2 236 (4 + 1 * j) (by omega)).trans (hW1 236 (4 + 1 * j) (by omega)))
    have gB1 : LB 4 0 5 4 1 I2 := LB_f hB1 ((hW2 0 (2) (by omega)).trans (hW1 0 (2) (by omega))) (fun j hj => (hW2 105 (j + 0) (by omega)).trans (hW1 105 (j + 0) (by omega))) (fun j hj => (hW2 237 (4 + 1 * j) (by omega)).trans (hW1 237 (4 + 1 * j) (by omega)))
    have gL2 : LA 12 6 1 1 1 I2 := LA_f hL2 (fun j hj => (hW2 12 (j + 6) (by omega)).trans (hW1 12 (j + 6) (by omega))) (fun j hj => (hW2 236 (1 + 1 * j) (by omega)).trans (hW1 236 (1 + 1 * j) (by omega)))
    have gB2 : LB 12 6 1 1 1 I2 := LB_f hB2 ((hW2 0 (2) (by omega)).trans (hW1 0 (2) (by omega))) (fun j hj => (hW2 113 (j + 6) (by omega)).trans (hW1 113 (j + 6) (by omega))) (fun j hj => (hW2 237 (1 + 1 * j) (by omega)).trans (hW1 237 (1 + 1 * j) (by omega)))
    have gL3 : LA 15 0 20 188 6 I2 := LA_f hL3 (fun j hj => (hW2 15 (j + 0) (by omega)).trans (hW1 15 (j + 0) (by omega))) (fun j hj => (hW2 236 (188 + 6 * j) (by omega)).trans (hW1 236 (188 + 6 * j) (by omega)))
    have gB3 : LB 15 0 20 188 6 I2 := LB_f hB3 ((hW2 0 (2) (by omega)).trans (hW1 0 (2) (by omega))) (fun j hj => (hW2 116 (j + 0) (by omega)).trans (hW1 116 (j + 0) (by omega))) (fun j hj => (hW2 237 (188 + 6 * j) (by omega)).trans (hW1 237 (188 + 6 * j) (by omega)))
    have gL4 : LA 8 0 6 16 4 I2 := LA_f hL4 (fun j hj => (hW2 8 (j + 0) (by omega)).trans (hW1 8 (j + 0) (by omega))) (fun j hj => (hW2 236 (16 + 4 * j) (by omega)).trans (hW1 236 (16 + 4 * j) (by omega)))
    have gB4 : LB 8 0 6 16 4 I2 := LB_f hB4 ((hW2 0 (2) (by omega)).trans (hW1 0 (2) (by omega))) (fun j hj => (hW2 109 (j + 0) (by omega)).trans (hW1 109 (j + 0) (by omega))) (fun j hj => (hW2 237 (16 + 4 * j) (by omega)).trans (hW1 237 (16 + 4 * j) (by omega)))
    exact ⟨gI, gL0, gB0, gL1, gB1, gL2, gB2, gL3, gB3, gL4, gB4, gLH, gLN, gLPc, gLPk, gLTc, gLTk, gLGc, gLGk, gLRc, gLRk⟩
  exact law_tail h ih hF hR2 hK2
theorem law_c1 (h : Bd G i) (ih : NXT G i) (hF : FS F) (hR : Rg I) (hK : LK I) : GoN G 1000 kL_law 0 NP 275 (lvl i) [] F I Qlw := by
  refine law_wp law_oc ckL_law [1665] ?_
  refine ⟨rfl, ixl h (by decide), ixh h (by decide), ?_⟩
  refine ⟨rfl, ixl h (by decide), ixh h (by decide), ?_⟩
  refine ⟨⟨_, rfl, (by decide)⟩, ?_⟩
  refine c_pieceIs hF hR  (fun r1 I1 hR1 hA1 hr1 hW1 => ?_)
  refine ⟨rfl, ixl h (by decide), ixh h (by decide), ?_⟩
  refine ⟨rfl, ixl h (by decide), ixh h (by decide), ?_⟩
  refine ⟨⟨_, rfl, (by decide)⟩, ?_⟩
  refine r_pieceIs hF hR1  (fun r2 I2 hR2 hA2 hr2 hW2 => ?_)
  have hK2 : LK I2 := by
    have hI : I 0 2 = I 235 2 := hK.1
    have hL0 : LA 1 1 1 0 1 I := hK.2.1
    have hB0 : LB 1 1 1 0 1 I := hK.2.2.1
    have hL1 : LA 4 0 5 4 1 I := hK.2.2.2.1
    have hB1 : LB 4 0 5 4 1 I := hK.2.2.2.2.1
    have hL2 : LA 12 6 1 1 1 I := hK.2.2.2.2.2.1
    have hB2 : LB 12 6 1 1 1 I := hK.2.2.2.2.2.2.1
    have hL3 : LA 15 0 20 188 6 I := hK.2.2.2.2.2.2.2.1
    have hB3 : LB 15 0 20 188 6 I := hK.2.2.2.2.2.2.2.2.1
    have hL4 : LA 8 0 6 16 4 I := hK.2.2.2.2.2.2.2.2.2.1
    have hB4 : LB 8 0 6 16 4 I := hK.2.2.2.2.2.2.2.2.2.2.1
    have hLH : LH I := hK.2.2.2.2.2.2.2.2.2.2.2.1
    have hLN : LN I := hK.2.2.2.2.2.2.2.2.2.2.2.2.1
    have hLPc : LPc I := hK.2.2.2.2.2.2.2.2.2.2.2.2.2.1
    have hLPk : LPk I := hK.2.2.2.2.2.2.2.2.2.2.2.2.2.2.1
    have hLTc : LTc I := hK.2.2.2.2.2.2.2.2.2.2.2.2.2.2.2.1
    have hLTk : LTk I := hK.2.2.2.2.2.2.2.2.2.2.2.2.2.2.2.2.1
    have hLGc : LGc I := hK.2.2.2.2.2.2.2.2.2.2.2.2.2.2.2.2.2.1
    have hLGk : LGk I := hK.2.2.2.2.2.2.2.2.2.2.2.2.2.2.2.2.2.2.1
    have hLRc : LRc I := hK.2.2.2.2.2.2.2.2.2.2.2.2.2.2.2.2.2.2.2.1
    have hLRk : LRk I := hK.2.2.2.2.2.2.2.2.2.2.2.2.2.2.2.2.2.2.2.2
    have gLH : LH I2 := LH_f hLH (fun s hs => ⟨(hW2 (227 + 2 * s) 0 (by omega)).trans (hW1 (227 + 2 * s) 0 (by omega)), (hW2 (227 + 2 * s) 1 (by omega)).trans (hW1 (227 + 2 * s) 1 (by omega))⟩) (fun s hs => ⟨(hW2 250 s (by omega)).trans (hW1 250 s (by omega)), (hW2 251 s (by omega)).trans (hW1 251 s (by omega))⟩)
    have gLN : LN I2 := LN_f hLN (fun s j hs hj => (hW2 (228 + 2 * s) j (by omega)).trans (hW1 (228 + 2 * s) j (by omega))) (fun s j hs hj => (hW2 252 (24 * s + j) (by omega)).trans (hW1 252 (24 * s + j) (by omega)))
    have gLPc : LPc I2 := LPc_f hR hLPc ((hW2 236 0 (by omega)).trans (hW1 236 0 (by omega))) (fun k j h1 h2 h3 => (hW2 k j (by omega)).trans (hW1 k j (by omega))) (fun j h1 h2 h3 h4 => (hW2 236 j (by omega)).trans (hW1 236 j (by omega)))
    have gLPk : LPk I2 := LPk_f hR hLPk ((hW2 0 2 (by omega)).trans (hW1 0 2 (by omega))) (fun k j h1 h2 => (hW2 k j (by omega)).trans (hW1 k j (by omega))) (fun j => (hW2 237 j (by omega)).trans (hW1 237 j (by omega)))
    have gLTc : LTc I2 := LTc_f hR hLTc ((hW2 1 (5) (by omega)).trans (hW1 1 (5) (by omega))) (fun j => (hW2 5 (j) (by omega)).trans (hW1 5 (j) (by omega))) ((hW2 236 (2) (by omega)).trans (hW1 236 (2) (by omega))) (fun j h1 h2 => (hW2 236 (j) (by omega)).trans (hW1 236 (j) (by omega)))
    have gLTk : LTk I2 := LTk_f hLTk ((hW2 0 (2) (by omega)).trans (hW1 0 (2) (by omega))) ((hW2 102 (5) (by omega)).trans (hW1 102 (5) (by omega))) (fun j => (hW2 106 (j) (by omega)).trans (hW1 106 (j) (by omega))) (fun j => (hW2 237 (j) (by omega)).trans (hW1 237 (j) (by omega)))
    have gLGc : LGc I2 := LGc_f hLGc (fun k j h1 h2 => (hW2 k j (by omega)).trans (hW1 k j (by omega))) (fun j h1 h2 => (hW2 236 (j) (by omega)).trans (hW1 236 (j) (by omega)))
    have gLGk : LGk I2 := LGk_f hLGk ((hW2 0 (2) (by omega)).trans (hW1 0 (2) (by omega))) (fun k j h1 h2 => (hW2 k j (by omega)).trans (hW1 k j (by omega))) (fun j => (hW2 237 (j) (by omega)).trans (hW1 237 (j) (by omega)))
    have gLRc : LRc I2 := LRc_f hR hLRc ((hW2 236 0 (by omega)).trans (hW1 236 0 (by omega))) (fun k j h1 h2 h3 h4 => (hW2 k j (by omega)).trans (hW1 k j (by omega))) (fun j h1 h2 h3 => (hW2 236 (j) (by omega)).trans (hW1 236 (j) (by omega)))
    have gLRk : LRk I2 := LRk_f hR hLRk ((hW2 0 2 (by omega)).trans (hW1 0 2 (by omega))) (fun k j h1 h2 => (hW2 k j (by omega)).trans (hW1 k j (by omega))) (fun j => (hW2 237 j (by omega)).trans (hW1 237 j (by omega)))
    have gI : LI I2 := ((hW2 0 (2) (by omega)).trans (hW1 0 (2) (by omega))).trans (hI.trans ((hW2 235 (2) (by omega)).trans (hW1 235 (2) (by omega))).symm)
    have gL0 : LA 1 1 1 0 1 I2 := LA_f hL0 (fun j hj => (hW2 1 (j + 1) (by omega)).trans (hW1 1 (j + 1) (by omega))) (fun j hj => (hW2 236 (0 + 1 * j) (by omega)).trans (hW1 236 (0 + 1 * j) (by omega)))
    have gB0 : LB 1 1 1 0 1 I2 := LB_f hB0 ((hW2 0 (2) (by omega)).trans (hW1 0 (2) (by omega))) (fun j hj => (hW2 102 (j + 1) (by omega)).trans (hW1 102 (j + 1) (by omega))) (fun j hj => (hW2 237 (0 + 1 * j) (by omega)).trans (hW1 237 (0 + 1 * j) (by omega)))
    have gL1 : LA 4 0 5 4 1 I2 := LA_f hL1 (fun j hj => (hW2 4 (j + 0) (by omega)).trans (hW1 4 (j + 0) (by omega))) (fun j hj => (hW2 236 (4 + 1 * j) (by omega)).trans (hW1 236 (4 + 1 * j) (by omega)))
    have gB1 : LB 4 0 5 4 1 I2 := LB_f hB1 ((hW2 0 (2) (by omega)).trans (hW1 0 (2) (by omega))) (fun j hj => (hW2 105 (j + 0) (by omega)).trans (hW1 105 (j + 0) (by omega))) (fun j hj => (hW2 237 (4 + 1 * j) (by omega)).trans (hW1 237 (4 + 1 * j) (by omega)))
    have gL2 : LA 12 6 1 1 1 I2 := LA_f hL2 (fun j hj => (hW2 12 (j + 6) (by omega)).trans (hW1 12 (j + 6) (by omega))) (fun j hj => (hW2 236 (1 + 1 * j) (by omega)).trans (hW1 236 (1 + 1 * j) (by omega)))
    have gB2 : LB 12 6 1 1 1 I2 := LB_f hB2 ((hW2 0 (2) (by omega)).trans (hW1 0 (2) (by omega))) (fun j hj => (hW2 113 (j + 6) (by omega)).trans (hW1 113 (j + 6) (by omega))) (fun j hj => (hW2 237 (1 + 1 * j) (by omega)).trans (hW1 237 (1 + 1 * j) (by omega)))
    have gL3 : LA 15 0 20 188 6 I2 := LA_f hL3 (fun j hj => (hW2 15 (j + 0) (by omega)).trans (hW1 15 (j + 0) (by omega))) (fun j hj => (hW2 236 (188 + 6 * j) (by omega)).trans (hW1 236 (188 + 6 * j) (by omega)))
    have gB3 : LB 15 0 20 188 6 I2 := LB_f hB3 ((hW2 0 (2) (by omega)).trans (hW1 0 (2) (by omega))) (fun j hj => (hW2 116 (j + 0) (by omega)).trans (hW1 116 (j + 0) (by omega))) (fun j hj => (hW2 237 (188 + 6 * j) (by omega)).trans (hW1 237 (188 + 6 * j) (by omega)))
    have gL4 : LA 8 0 6 16 4 I2 := LA_f hL4 (fun j hj => (hW2 8 (j + 0) (by omega)).trans (hW1 8 (j + 0) (by omega))) (fun j hj => (hW2 236 (16 + 4 * j) (by omega)).trans (hW1 236 (16 + 4 * j) (by omega)))
    have gB4 : LB 8 0 6 16 4 I2 := LB_f hB4 ((hW2 0 (2) (by omega)).trans (hW1 0 (2) (by omega))) (fun j hj => (hW2 109 (j + 0) (by omega)).trans (hW1 109 (j + 0) (by omega))) (fun j hj => (hW2 237 (16 + 4 * j) (by omega)).trans (hW1 237 (16 + 4 * j) (by omega)))
    exact ⟨gI, gL0, gB0, gL1, gB1, gL2, gB2, gL3, gB3, gL4, gB4, gLH, gLN, gLPc, gLPk, gLTc, gLTk, gLGc, gLGk, gLRc, gLRk⟩
  exact law_tail h ih hF hR2 hK2
theorem law_c2 (h : Bd G i) (ih : NXT G i) (hF : FS F) (hR : Rg I) (hK : LK I) : GoN G 1000 kL_law 0 NP 308 (lvl i) [] F I Qlw := by
  refine law_wp law_oc ckL_law [1665] ?_
  refine ⟨rfl, ixl h (by decide), ixh h (by decide), ?_⟩
  refine ⟨rfl, ixl h (by decide), ixh h (by decide), ?_⟩
  refine ⟨⟨_, rfl, (by decide)⟩, ?_⟩
  refine c_as hF hR  (fun r1 I1 hR1 hA1 hr1 hW1 => ?_)
  refine ⟨rfl, ixl h (by decide), ixh h (by decide), ?_⟩
  refine ⟨rfl, ixl h (by decide), ixh h (by decide), ?_⟩
  refine ⟨⟨_, rfl, (by decide)⟩, ?_⟩
  refine r_as hF hR1  (fun r2 I2 hR2 hA2 hr2 hW2 => ?_)
  have hK2 : LK I2 := by
    have hI : I 0 2 = I 235 2 := hK.1
    have hL0 : LA 1 1 1 0 1 I := hK.2.1
    have hB0 : LB 1 1 1 0 1 I := hK.2.2.1
    have hL1 : LA 4 0 5 4 1 I := hK.2.2.2.1
    have hB1 : LB 4 0 5 4 1 I := hK.2.2.2.2.1
    have hL2 : LA 12 6 1 1 1 I := hK.2.2.2.2.2.1
    have hB2 : LB 12 6 1 1 1 I := hK.2.2.2.2.2.2.1
    have hL3 : LA 15 0 20 188 6 I := hK.2.2.2.2.2.2.2.1
    have hB3 : LB 15 0 20 188 6 I := hK.2.2.2.2.2.2.2.2.1
    have hL4 : LA 8 0 6 16 4 I := hK.2.2.2.2.2.2.2.2.2.1
    have hB4 : LB 8 0 6 16 4 I := hK.2.2.2.2.2.2.2.2.2.2.1
    have hLH : LH I := hK.2.2.2.2.2.2.2.2.2.2.2.1
    have hLN : LN I := hK.2.2.2.2.2.2.2.2.2.2.2.2.1
    have hLPc : LPc I := hK.2.2.2.2.2.2.2.2.2.2.2.2.2.1
    have hLPk : LPk I := hK.2.2.2.2.2.2.2.2.2.2.2.2.2.2.1
    have hLTc : LTc I := hK.2.2.2.2.2.2.2.2.2.2.2.2.2.2.2.1
    have hLTk : LTk I := hK.2.2.2.2.2.2.2.2.2.2.2.2.2.2.2.2.1
    have hLGc : LGc I := hK.2.2.2.2.2.2.2.2.2.2.2.2.2.2.2.2.2.1
    have hLGk : LGk I := hK.2.2.2.2.2.2.2.2.2.2.2.2.2.2.2.2.2.2.1
    have hLRc : LRc I := hK.2.2.2.2.2.2.2.2.2.2.2.2.2.2.2.2.2.2.2.1
    have hLRk : LRk I := hK.2.2.2.2.2.2.2.2.2.2.2.2.2.2.2.2.2.2.2.2
    have gLH : LH I2 := LH_f hLH (fun s hs => ⟨(hW2 (227 + 2 * s) 0 (by omega)).trans (hW1 (227 + 2 * s) 0 (by omega)), (hW2 (227 + 2 * s) 1 (by omega)).trans (hW1 (227 + 2 * s) 1 (by omega))⟩) (fun s hs => ⟨(hW2 250 s (by omega)).trans (hW1 250 s (by omega)), (hW2 251 s (by omega)).trans (hW1 251 s (by omega))⟩)
    have gLN : LN I2 := LN_f hLN (fun s j hs hj => (hW2 (228 + 2 * s) j (by omega)).trans (hW1 (228 + 2 * s) j (by omega))) (fun s j hs hj => (hW2 252 (24 * s + j) (by omega)).trans (hW1 252 (24 * s + j) (by omega)))
    have gLPc : LPc I2 := LPc_f hR hLPc ((hW2 236 0 (by omega)).trans (hW1 236 0 (by omega))) (fun k j h1 h2 h3 => (hW2 k j (by omega)).trans (hW1 k j (by omega))) (fun j h1 h2 h3 h4 => (hW2 236 j (by omega)).trans (hW1 236 j (by omega)))
    have gLPk : LPk I2 := LPk_f hR hLPk ((hW2 0 2 (by omega)).trans (hW1 0 2 (by omega))) (fun k j h1 h2 => (hW2 k j (by omega)).trans (hW1 k j (by omega))) (fun j => (hW2 237 j (by omega)).trans (hW1 237 j (by omega)))
    have gLTc : LTc I2 := LTc_f hR hLTc ((hW2 1 (5) (by omega)).trans (hW1 1 (5) (by omega))) (fun j => (hW2 5 (j) (by omega)).trans (hW1 5 (j) (by omega))) ((hW2 236 (2) (by omega)).trans (hW1 236 (2) (by omega))) (fun j h1 h2 => (hW2 236 (j) (by omega)).trans (hW1 236 (j) (by omega)))
    have gLTk : LTk I2 := LTk_f hLTk ((hW2 0 (2) (by omega)).trans (hW1 0 (2) (by omega))) ((hW2 102 (5) (by omega)).trans (hW1 102 (5) (by omega))) (fun j => (hW2 106 (j) (by omega)).trans (hW1 106 (j) (by omega))) (fun j => (hW2 237 (j) (by omega)).trans (hW1 237 (j) (by omega)))
    have gLGc : LGc I2 := LGc_f hLGc (fun k j h1 h2 => (hW2 k j (by omega)).trans (hW1 k j (by omega))) (fun j h1 h2 => (hW2 236 (j) (by omega)).trans (hW1 236 (j) (by omega)))
    have gLGk : LGk I2 := LGk_f hLGk ((hW2 0 (2) (by omega)).trans (hW1 0 (2) (by omega))) (fun k j h1 h2 => (hW2 k j (by omega)).trans (hW1 k j (by omega))) (fun j => (hW2 237 (j) (by omega)).trans (hW1 237 (j) (by omega)))
    have gLRc : LRc I2 := LRc_f hR hLRc ((hW2 236 0 (by omega)).trans (hW1 236 0 (by omega))) (fun k j h1 h2 h3 h4 => (hW2 k j (by omega)).trans (hW1 k j (by omega))) (fun j h1 h2 h3 => (hW2 236 (j) (by omega)).trans (hW1 236 (j) (by omega)))
    have gLRk : LRk I2 := LRk_f hR hLRk ((hW2 0 2 (by omega)).trans (hW1 0 2 (by omega))) (fun k j h1 h2 => (hW2 k j (by omega)).trans (hW1 k j (by omega))) (fun j => (hW2 237 j (by omega)).trans (hW1 237 j (by omega)))
    have gI : LI I2 := ((hW2 0 (2) (by omega)).trans (hW1 0 (2) (by omega))).trans (hI.trans ((hW2 235 (2) (by omega)).trans (hW1 235 (2) (by omega))).symm)
    have gL0 : LA 1 1 1 0 1 I2 := LA_f hL0 (fun j hj => (hW2 1 (j + 1) (by omega)).trans (hW1 1 (j + 1) (by omega))) (fun j hj => (hW2 236 (0 + 1 * j) (by omega)).trans (hW1 236 (0 + 1 * j) (by omega)))
    have gB0 : LB 1 1 1 0 1 I2 := LB_f hB0 ((hW2 0 (2) (by omega)).trans (hW1 0 (2) (by omega))) (fun j hj => (hW2 102 (j + 1) (by omega)).trans (hW1 102 (j + 1) (by omega))) (fun j hj => (hW2 237 (0 + 1 * j) (by omega)).trans (hW1 237 (0 + 1 * j) (by omega)))
    have gL1 : LA 4 0 5 4 1 I2 := LA_f hL1 (fun j hj => (hW2 4 (j + 0) (by omega)).trans (hW1 4 (j + 0) (by omega))) (fun j hj => (hW2 236 (4 + 1 * j) (by omega)).trans (hW1 236 (4 + 1 * j) (by omega)))
    have gB1 : LB 4 0 5 4 1 I2 := LB_f hB1 ((hW2 0 (2) (by omega)).trans (hW1 0 (2) (by omega))) (fun j hj => (hW2 105 (j + 0) (by omega)).trans (hW1 105 (j + 0) (by omega))) (fun j hj => (hW2 237 (4 + 1 * j) (by omega)).trans (hW1 237 (4 + 1 * j) (by omega)))
    have gL2 : LA 12 6 1 1 1 I2 := LA_f hL2 (fun j hj => (hW2 12 (j + 6) (by omega)).trans (hW1 12 (j + 6) (by omega))) (fun j hj => (hW2 236 (1 + 1 * j) (by omega)).trans (hW1 236 (1 + 1 * j) (by omega)))
    have gB2 : LB 12 6 1 1 1 I2 := LB_f hB2 ((hW2 0 (2) (by omega)).trans (hW1 0 (2) (by omega))) (fun j hj => (hW2 113 (j + 6) (by omega)).trans (hW1 113 (j + 6) (by omega))) (fun j hj => (hW2 237 (1 + 1 * j) (by omega)).trans (hW1 237 (1 + 1 * j) (by omega)))
    have gL3 : LA 15 0 20 188 6 I2 := LA_f hL3 (fun j hj => (hW2 15 (j + 0) (by omega)).trans (hW1 15 (j + 0) (by omega))) (fun j hj => (hW2 236 (188 + 6 * j) (by omega)).trans (hW1 236 (188 + 6 * j) (by omega)))
    have gB3 : LB 15 0 20 188 6 I2 := LB_f hB3 ((hW2 0 (2) (by omega)).trans (hW1 0 (2) (by omega))) (fun j hj => (hW2 116 (j + 0) (by omega)).trans (hW1 116 (j + 0) (by omega))) (fun j hj => (hW2 237 (188 + 6 * j) (by omega)).trans (hW1 237 (188 + 6 * j) (by omega)))
    have gL4 : LA 8 0 6 16 4 I2 := LA_f hL4 (fun j hj => (hW2 8 (j + 0) (by omega)).trans (hW1 8 (j + 0) (by omega))) (fun j hj => (hW2 236 (16 + 4 * j) (by omega)).trans (hW1 236 (16 + 4 * j) (by omega)))
    have gB4 : LB 8 0 6 16 4 I2 := LB_f hB4 ((hW2 0 (2) (by omega)).trans (hW1 0 (2) (by omega))) (fun j hj => (hW2 109 (j + 0) (by omega)).trans (hW1 109 (j + 0) (by omega))) (fun j hj => (hW2 237 (16 + 4 * j) (by omega)).trans (hW1 237 (16 + 4 * j) (by omega)))
    exact ⟨gI, gL0, gB0, gL1, gB1, gL2, gB2, gL3, gB3, gL4, gB4, gLH, gLN, gLPc, gLPk, gLTc, gLTk, gLGc, gLGk, gLRc, gLRk⟩
  exact law_tail h ih hF hR2 hK2
theorem law_c3 (h : Bd G i) (ih : NXT G i) (hF : FS F) (hR : Rg I) (hK : LK I) : GoN G 1000 kL_law 0 NP 341 (lvl i) [] F I Qlw := by
  refine law_wp law_oc ckL_law [1665] ?_
  refine ⟨rfl, ixl h (by decide), ixh h (by decide), ?_⟩
  refine ⟨rfl, ixl h (by decide), ixh h (by decide), ?_⟩
  refine ⟨⟨_, rfl, (by decide)⟩, ?_⟩
  refine c_answer hF hR  (fun r1 I1 hR1 hA1 hr1 hW1 => ?_)
  refine ⟨rfl, ixl h (by decide), ixh h (by decide), ?_⟩
  refine ⟨rfl, ixl h (by decide), ixh h (by decide), ?_⟩
  refine ⟨⟨_, rfl, (by decide)⟩, ?_⟩
  refine r_answer hF hR1  (fun r2 I2 hR2 hA2 hr2 hW2 => ?_)
  have hK2 : LK I2 := by
    have hI : I 0 2 = I 235 2 := hK.1
    have hL0 : LA 1 1 1 0 1 I := hK.2.1
    have hB0 : LB 1 1 1 0 1 I := hK.2.2.1
    have hL1 : LA 4 0 5 4 1 I := hK.2.2.2.1
    have hB1 : LB 4 0 5 4 1 I := hK.2.2.2.2.1
    have hL2 : LA 12 6 1 1 1 I := hK.2.2.2.2.2.1
    have hB2 : LB 12 6 1 1 1 I := hK.2.2.2.2.2.2.1
    have hL3 : LA 15 0 20 188 6 I := hK.2.2.2.2.2.2.2.1
    have hB3 : LB 15 0 20 188 6 I := hK.2.2.2.2.2.2.2.2.1
    have hL4 : LA 8 0 6 16 4 I := hK.2.2.2.2.2.2.2.2.2.1
    have hB4 : LB 8 0 6 16 4 I := hK.2.2.2.2.2.2.2.2.2.2.1
    have hLH : LH I := hK.2.2.2.2.2.2.2.2.2.2.2.1
    have hLN : LN I := hK.2.2.2.2.2.2.2.2.2.2.2.2.1
    have hLPc : LPc I := hK.2.2.2.2.2.2.2.2.2.2.2.2.2.1
    have hLPk : LPk I := hK.2.2.2.2.2.2.2.2.2.2.2.2.2.2.1
    have hLTc : LTc I := hK.2.2.2.2.2.2.2.2.2.2.2.2.2.2.2.1
    have hLTk : LTk I := hK.2.2.2.2.2.2.2.2.2.2.2.2.2.2.2.2.1
    have hLGc : LGc I := hK.2.2.2.2.2.2.2.2.2.2.2.2.2.2.2.2.2.1
    have hLGk : LGk I := hK.2.2.2.2.2.2.2.2.2.2.2.2.2.2.2.2.2.2.1
    have hLRc : LRc I := hK.2.2.2.2.2.2.2.2.2.2.2.2.2.2.2.2.2.2.2.1
    have hLRk : LRk I := hK.2.2.2.2.2.2.2.2.2.2.2.2.2.2.2.2.2.2.2.2
    have gLH : LH I2 := LH_f hLH (fun s hs => ⟨(hW2 (227 + 2 * s) 0 (by omega)).trans (hW1 (227 + 2 * s) 0 (by omega)), (hW2 (227 + 2 * s) 1 (by omega)).trans (hW1 (227 + 2 * s) 1 (by omega))⟩) (fun s hs => ⟨(hW2 250 s (by omega)).trans (hW1 250 s (by omega)), (hW2 251 s (by omega)).trans (hW1 251 s (by omega))⟩)
    have gLN : LN I2 := LN_f hLN (fun s j hs hj => (hW2 (228 + 2 * s) j (by omega)).trans (hW1 (228 + 2 * s) j (by omega))) (fun s j hs hj => (hW2 252 (24 * s + j) (by omega)).trans (hW1 252 (24 * s + j) (by omega)))
    have gLPc : LPc I2 := LPc_f hR hLPc ((hW2 236 0 (by omega)).trans (hW1 236 0 (by omega))) (fun k j h1 h2 h3 => (hW2 k j (by omega)).trans (hW1 k j (by omega))) (fun j h1 h2 h3 h4 => (hW2 236 j (by omega)).trans (hW1 236 j (by omega)))
    have gLPk : LPk I2 := LPk_f hR hLPk ((hW2 0 2 (by omega)).trans (hW1 0 2 (by omega))) (fun k j h1 h2 => (hW2 k j (by omega)).trans (hW1 k j (by omega))) (fun j => (hW2 237 j (by omega)).trans (hW1 237 j (by omega)))
    have gLTc : LTc I2 := LTc_f hR hLTc ((hW2 1 (5) (by omega)).trans (hW1 1 (5) (by omega))) (fun j => (hW2 5 (j) (by omega)).trans (hW1 5 (j) (by omega))) ((hW2 236 (2) (by omega)).trans (hW1 236 (2) (by omega))) (fun j h1 h2 => (hW2 236 (j) (by omega)).trans (hW1 236 (j) (by omega)))
    have gLTk : LTk I2 := LTk_f hLTk ((hW2 0 (2) (by omega)).trans (hW1 0 (2) (by omega))) ((hW2 102 (5) (by omega)).trans (hW1 102 (5) (by omega))) (fun j => (hW2 106 (j) (by omega)).trans (hW1 106 (j) (by omega))) (fun j => (hW2 237 (j) (by omega)).trans (hW1 237 (j) (by omega)))
    have gLGc : LGc I2 := LGc_f hLGc (fun k j h1 h2 => (hW2 k j (by omega)).trans (hW1 k j (by omega))) (fun j h1 h2 => (hW2 236 (j) (by omega)).trans (hW1 236 (j) (by omega)))
    have gLGk : LGk I2 := LGk_f hLGk ((hW2 0 (2) (by omega)).trans (hW1 0 (2) (by omega))) (fun k j h1 h2 => (hW2 k j (by omega)).trans (hW1 k j (by omega))) (fun j => (hW2 237 (j) (by omega)).trans (hW1 237 (j) (by omega)))
    have gLRc : LRc I2 := LRc_f hR hLRc ((hW2 236 0 (by omega)).trans (hW1 236 0 (by omega))) (fun k j h1 h2 h3 h4 => (hW2 k j (by omega)).trans (hW1 k j (by omega))) (fun j h1 h2 h3 => (hW2 236 (j) (by omega)).trans (hW1 236 (j) (by omega)))
    have gLRk : LRk I2 := LRk_f hR hLRk ((hW2 0 2 (by omega)).trans (hW1 0 2 (by omega))) (fun k j h1 h2 => (hW2 k j (by omega)).trans (hW1 k j (by omega))) (fun j => (hW2 237 j (by omega)).trans (hW1 237 j (by omega)))
    have gI : LI I2 := ((hW2 0 (2) (by omega)).trans (hW1 0 (2) (by omega))).trans (hI.trans ((hW2 235 (2) (by omega)).trans (hW1 235 (2) (by omega))).symm)
    have gL0 : LA 1 1 1 0 1 I2 := LA_f hL0 (fun j hj => (hW2 1 (j + 1) (by omega)).trans (hW1 1 (j + 1) (by omega))) (fun j hj => (hW2 236 (0 + 1 * j) (by omega)).trans (hW1 236 (0 + 1 * j) (by omega)))
    have gB0 : LB 1 1 1 0 1 I2 := LB_f hB0 ((hW2 0 (2) (by omega)).trans (hW1 0 (2) (by omega))) (fun j hj => (hW2 102 (j + 1) (by omega)).trans (hW1 102 (j + 1) (by omega))) (fun j hj => (hW2 237 (0 + 1 * j) (by omega)).trans (hW1 237 (0 + 1 * j) (by omega)))
    have gL1 : LA 4 0 5 4 1 I2 := LA_f hL1 (fun j hj => (hW2 4 (j + 0) (by omega)).trans (hW1 4 (j + 0) (by omega))) (fun j hj => (hW2 236 (4 + 1 * j) (by omega)).trans (hW1 236 (4 + 1 * j) (by omega)))
    have gB1 : LB 4 0 5 4 1 I2 := LB_f hB1 ((hW2 0 (2) (by omega)).trans (hW1 0 (2) (by omega))) (fun j hj => (hW2 105 (j + 0) (by omega)).trans (hW1 105 (j + 0) (by omega))) (fun j hj => (hW2 237 (4 + 1 * j) (by omega)).trans (hW1 237 (4 + 1 * j) (by omega)))
    have gL2 : LA 12 6 1 1 1 I2 := LA_f hL2 (fun j hj => (hW2 12 (j + 6) (by omega)).trans (hW1 12 (j + 6) (by omega))) (fun j hj => (hW2 236 (1 + 1 * j) (by omega)).trans (hW1 236 (1 + 1 * j) (by omega)))
    have gB2 : LB 12 6 1 1 1 I2 := LB_f hB2 ((hW2 0 (2) (by omega)).trans (hW1 0 (2) (by omega))) (fun j hj => (hW2 113 (j + 6) (by omega)).trans (hW1 113 (j + 6) (by omega))) (fun j hj => (hW2 237 (1 + 1 * j) (by omega)).trans (hW1 237 (1 + 1 * j) (by omega)))
    have gL3 : LA 15 0 20 188 6 I2 := LA_f hL3 (fun j hj => (hW2 15 (j + 0) (by omega)).trans (hW1 15 (j + 0) (by omega))) (fun j hj => (hW2 236 (188 + 6 * j) (by omega)).trans (hW1 236 (188 + 6 * j) (by omega)))
    have gB3 : LB 15 0 20 188 6 I2 := LB_f hB3 ((hW2 0 (2) (by omega)).trans (hW1 0 (2) (by omega))) (fun j hj => (hW2 116 (j + 0) (by omega)).trans (hW1 116 (j + 0) (by omega))) (fun j hj => (hW2 237 (188 + 6 * j) (by omega)).trans (hW1 237 (188 + 6 * j) (by omega)))
    have gL4 : LA 8 0 6 16 4 I2 := LA_f hL4 (fun j hj => (hW2 8 (j + 0) (by omega)).trans (hW1 8 (j + 0) (by omega))) (fun j hj => (hW2 236 (16 + 4 * j) (by omega)).trans (hW1 236 (16 + 4 * j) (by omega)))
    have gB4 : LB 8 0 6 16 4 I2 := LB_f hB4 ((hW2 0 (2) (by omega)).trans (hW1 0 (2) (by omega))) (fun j hj => (hW2 109 (j + 0) (by omega)).trans (hW1 109 (j + 0) (by omega))) (fun j hj => (hW2 237 (16 + 4 * j) (by omega)).trans (hW1 237 (16 + 4 * j) (by omega)))
    exact ⟨gI, gL0, gB0, gL1, gB1, gL2, gB2, gL3, gB3, gL4, gB4, gLH, gLN, gLPc, gLPk, gLTc, gLTk, gLGc, gLGk, gLRc, gLRk⟩
  exact law_tail h ih hF hR2 hK2
theorem law_c4 (h : Bd G i) (ih : NXT G i) (hF : FS F) (hR : Rg I) (hK : LK I) : GoN G 1000 kL_law 0 NP 374 (lvl i) [] F I Qlw := by
  refine law_wp law_oc ckL_law [1665] ?_
  refine ⟨rfl, ixl h (by decide), ixh h (by decide), ?_⟩
  refine ⟨rfl, ixl h (by decide), ixh h (by decide), ?_⟩
  refine ⟨rfl, ixl h (by decide), ixh h (by decide), ?_⟩
  refine ⟨⟨_, rfl, (by decide)⟩, ?_⟩
  refine c_trace10 hF hR (by have a1 : I 1 1 = I 236 0 := (show I 1 1 = I 236 0 from hK.2.1 0 (by decide)); have a4 := Rg.n0 hR; omega) (fun r1 I1 hR1 hA1 hr1 hW1 q1a => ?_)
  refine ⟨rfl, ixl h (by decide), ixh h (by decide), ?_⟩
  refine ⟨rfl, ixl h (by decide), ixh h (by decide), ?_⟩
  refine ⟨rfl, ixl h (by decide), ixh h (by decide), ?_⟩
  refine ⟨⟨_, rfl, (by decide)⟩, ?_⟩
  refine r_trace10 hF hR1  (fun r2 I2 hR2 hA2 hr2 hW2 q2a => ?_)
  have hK2 : LK I2 := by
    have hI : I 0 2 = I 235 2 := hK.1
    have hL0 : LA 1 1 1 0 1 I := hK.2.1
    have hB0 : LB 1 1 1 0 1 I := hK.2.2.1
    have hL1 : LA 4 0 5 4 1 I := hK.2.2.2.1
    have hB1 : LB 4 0 5 4 1 I := hK.2.2.2.2.1
    have hL2 : LA 12 6 1 1 1 I := hK.2.2.2.2.2.1
    have hB2 : LB 12 6 1 1 1 I := hK.2.2.2.2.2.2.1
    have hL3 : LA 15 0 20 188 6 I := hK.2.2.2.2.2.2.2.1
    have hB3 : LB 15 0 20 188 6 I := hK.2.2.2.2.2.2.2.2.1
    have hL4 : LA 8 0 6 16 4 I := hK.2.2.2.2.2.2.2.2.2.1
    have hB4 : LB 8 0 6 16 4 I := hK.2.2.2.2.2.2.2.2.2.2.1
    have hLH : LH I := hK.2.2.2.2.2.2.2.2.2.2.2.1
    have hLN : LN I := hK.2.2.2.2.2.2.2.2.2.2.2.2.1
    have hLPc : LPc I := hK.2.2.2.2.2.2.2.2.2.2.2.2.2.1
    have hLPk : LPk I := hK.2.2.2.2.2.2.2.2.2.2.2.2.2.2.1
    have hLTc : LTc I := hK.2.2.2.2.2.2.2.2.2.2.2.2.2.2.2.1
    have hLTk : LTk I := hK.2.2.2.2.2.2.2.2.2.2.2.2.2.2.2.2.1
    have hLGc : LGc I := hK.2.2.2.2.2.2.2.2.2.2.2.2.2.2.2.2.2.1
    have hLGk : LGk I := hK.2.2.2.2.2.2.2.2.2.2.2.2.2.2.2.2.2.2.1
    have hLRc : LRc I := hK.2.2.2.2.2.2.2.2.2.2.2.2.2.2.2.2.2.2.2.1
    have hLRk : LRk I := hK.2.2.2.2.2.2.2.2.2.2.2.2.2.2.2.2.2.2.2.2
    have gLH : LH I2 := LH_f hLH (fun s hs => ⟨(hW2 (227 + 2 * s) 0 (by omega)).trans (hW1 (227 + 2 * s) 0 (by omega)), (hW2 (227 + 2 * s) 1 (by omega)).trans (hW1 (227 + 2 * s) 1 (by omega))⟩) (fun s hs => ⟨(hW2 250 s (by omega)).trans (hW1 250 s (by omega)), (hW2 251 s (by omega)).trans (hW1 251 s (by omega))⟩)
    have gLN : LN I2 := LN_f hLN (fun s j hs hj => (hW2 (228 + 2 * s) j (by omega)).trans (hW1 (228 + 2 * s) j (by omega))) (fun s j hs hj => (hW2 252 (24 * s + j) (by omega)).trans (hW1 252 (24 * s + j) (by omega)))
    have gLPc : LPc I2 := LPc_f hR hLPc ((hW2 236 0 (by omega)).trans (hW1 236 0 (by omega))) (fun k j h1 h2 h3 => (hW2 k j (by omega)).trans (hW1 k j (by omega))) (fun j h1 h2 h3 h4 => (hW2 236 j (by omega)).trans (hW1 236 j (by omega)))
    have gLPk : LPk I2 := LPk_f hR hLPk ((hW2 0 2 (by omega)).trans (hW1 0 2 (by omega))) (fun k j h1 h2 => (hW2 k j (by omega)).trans (hW1 k j (by omega))) (fun j => (hW2 237 j (by omega)).trans (hW1 237 j (by omega)))
    have gLTc : LTc I2 := LTc_f hR hLTc ((hW2 1 (5) (by omega)).trans (hW1 1 (5) (by omega))) (fun j => (hW2 5 (j) (by omega)).trans (hW1 5 (j) (by omega))) ((hW2 236 (2) (by omega)).trans (hW1 236 (2) (by omega))) (fun j h1 h2 => (hW2 236 (j) (by omega)).trans (hW1 236 (j) (by omega)))
    have gLTk : LTk I2 := LTk_f hLTk ((hW2 0 (2) (by omega)).trans (hW1 0 (2) (by omega))) ((hW2 102 (5) (by omega)).trans (hW1 102 (5) (by omega))) (fun j => (hW2 106 (j) (by omega)).trans (hW1 106 (j) (by omega))) (fun j => (hW2 237 (j) (by omega)).trans (hW1 237 (j) (by omega)))
    have gLGc : LGc I2 := LGc_f hLGc (fun k j h1 h2 => (hW2 k j (by omega)).trans (hW1 k j (by omega))) (fun j h1 h2 => (hW2 236 (j) (by omega)).trans (hW1 236 (j) (by omega)))
    have gLGk : LGk I2 := LGk_f hLGk ((hW2 0 (2) (by omega)).trans (hW1 0 (2) (by omega))) (fun k j h1 h2 => (hW2 k j (by omega)).trans (hW1 k j (by omega))) (fun j => (hW2 237 (j) (by omega)).trans (hW1 237 (j) (by omega)))
    have gLRc : LRc I2 := (tr_v hR hLRc hLH hLN (hL0 0 (by decide)) (fun k j h => hW1 k j (by omega)) (fun k j h => hW2 k j (by omega)) q1a q2a).2
    have gLRk : LRk I2 := LRk_f hR hLRk ((hW2 0 2 (by omega)).trans (hW1 0 2 (by omega))) (fun k j h1 h2 => (hW2 k j (by omega)).trans (hW1 k j (by omega))) (fun j => (hW2 237 j (by omega)).trans (hW1 237 j (by omega)))
    have gI : LI I2 := ((hW2 0 (2) (by omega)).trans (hW1 0 (2) (by omega))).trans (hI.trans ((hW2 235 (2) (by omega)).trans (hW1 235 (2) (by omega))).symm)
    have gL0 : LA 1 1 1 0 1 I2 := LA_f hL0 (fun j hj => (hW2 1 (j + 1) (by omega)).trans (hW1 1 (j + 1) (by omega))) (fun j hj => (hW2 236 (0 + 1 * j) (by omega)).trans (hW1 236 (0 + 1 * j) (by omega)))
    have gB0 : LB 1 1 1 0 1 I2 := LB_f hB0 ((hW2 0 (2) (by omega)).trans (hW1 0 (2) (by omega))) (fun j hj => (hW2 102 (j + 1) (by omega)).trans (hW1 102 (j + 1) (by omega))) (fun j hj => (hW2 237 (0 + 1 * j) (by omega)).trans (hW1 237 (0 + 1 * j) (by omega)))
    have gL1 : LA 4 0 5 4 1 I2 := LA_f hL1 (fun j hj => (hW2 4 (j + 0) (by omega)).trans (hW1 4 (j + 0) (by omega))) (fun j hj => (hW2 236 (4 + 1 * j) (by omega)).trans (hW1 236 (4 + 1 * j) (by omega)))
    have gB1 : LB 4 0 5 4 1 I2 := LB_f hB1 ((hW2 0 (2) (by omega)).trans (hW1 0 (2) (by omega))) (fun j hj => (hW2 105 (j + 0) (by omega)).trans (hW1 105 (j + 0) (by omega))) (fun j hj => (hW2 237 (4 + 1 * j) (by omega)).trans (hW1 237 (4 + 1 * j) (by omega)))
    have gL2 : LA 12 6 1 1 1 I2 := LA_f hL2 (fun j hj => (hW2 12 (j + 6) (by omega)).trans (hW1 12 (j + 6) (by omega))) (fun j hj => (hW2 236 (1 + 1 * j) (by omega)).trans (hW1 236 (1 + 1 * j) (by omega)))
    have gB2 : LB 12 6 1 1 1 I2 := LB_f hB2 ((hW2 0 (2) (by omega)).trans (hW1 0 (2) (by omega))) (fun j hj => (hW2 113 (j + 6) (by omega)).trans (hW1 113 (j + 6) (by omega))) (fun j hj => (hW2 237 (1 + 1 * j) (by omega)).trans (hW1 237 (1 + 1 * j) (by omega)))
    have gL3 : LA 15 0 20 188 6 I2 := LA_f hL3 (fun j hj => (hW2 15 (j + 0) (by omega)).trans (hW1 15 (j + 0) (by omega))) (fun j hj => (hW2 236 (188 + 6 * j) (by omega)).trans (hW1 236 (188 + 6 * j) (by omega)))
    have gB3 : LB 15 0 20 188 6 I2 := LB_f hB3 ((hW2 0 (2) (by omega)).trans (hW1 0 (2) (by omega))) (fun j hj => (hW2 116 (j + 0) (by omega)).trans (hW1 116 (j + 0) (by omega))) (fun j hj => (hW2 237 (188 + 6 * j) (by omega)).trans (hW1 237 (188 + 6 * j) (by omega)))
    have gL4 : LA 8 0 6 16 4 I2 := LA_f hL4 (fun j hj => (hW2 8 (j + 0) (by omega)).trans (hW1 8 (j + 0) (by omega))) (fun j hj => (hW2 236 (16 + 4 * j) (by omega)).trans (hW1 236 (16 + 4 * j) (by omega)))
    have gB4 : LB 8 0 6 16 4 I2 := LB_f hB4 ((hW2 0 (2) (by omega)).trans (hW1 0 (2) (by omega))) (fun j hj => (hW2 109 (j + 0) (by omega)).trans (hW1 109 (j + 0) (by omega))) (fun j hj => (hW2 237 (16 + 4 * j) (by omega)).trans (hW1 237 (16 + 4 * j) (by omega)))
    exact ⟨gI, gL0, gB0, gL1, gB1, gL2, gB2, gL3, gB3, gL4, gB4, gLH, gLN, gLPc, gLPk, gLTc, gLTk, gLGc, gLGk, gLRc, gLRk⟩
  exact law_tail h ih hF hR2 hK2
theorem law_c5 (h : Bd G i) (ih : NXT G i) (hF : FS F) (hR : Rg I) (hK : LK I) : GoN G 1000 kL_law 0 NP 417 (lvl i) [] F I Qlw := by
  refine law_wp law_oc ckL_law [1665] ?_
  refine ⟨rfl, ixl h (by decide), ixh h (by decide), ?_⟩
  refine ⟨rfl, ixl h (by decide), ixh h (by decide), ?_⟩
  refine ⟨rfl, ixl h (by decide), ixh h (by decide), ?_⟩
  refine ⟨⟨_, rfl, (by decide)⟩, ?_⟩
  refine c_reading hF hR  (fun r1 I1 hR1 hA1 hr1 hW1 => ?_)
  refine ⟨rfl, ixl h (by decide), ixh h (by decide), ?_⟩
  refine ⟨rfl, ixl h (by decide), ixh h (by decide), ?_⟩
  refine ⟨rfl, ixl h (by decide), ixh h (by decide), ?_⟩
  refine ⟨⟨_, rfl, (by decide)⟩, ?_⟩
  refine r_reading hF hR1  (fun r2 I2 hR2 hA2 hr2 hW2 => ?_)
  have hK2 : LK I2 := by
    have hI : I 0 2 = I 235 2 := hK.1
    have hL0 : LA 1 1 1 0 1 I := hK.2.1
    have hB0 : LB 1 1 1 0 1 I := hK.2.2.1
    have hL1 : LA 4 0 5 4 1 I := hK.2.2.2.1
    have hB1 : LB 4 0 5 4 1 I := hK.2.2.2.2.1
    have hL2 : LA 12 6 1 1 1 I := hK.2.2.2.2.2.1
    have hB2 : LB 12 6 1 1 1 I := hK.2.2.2.2.2.2.1
    have hL3 : LA 15 0 20 188 6 I := hK.2.2.2.2.2.2.2.1
    have hB3 : LB 15 0 20 188 6 I := hK.2.2.2.2.2.2.2.2.1
    have hL4 : LA 8 0 6 16 4 I := hK.2.2.2.2.2.2.2.2.2.1
    have hB4 : LB 8 0 6 16 4 I := hK.2.2.2.2.2.2.2.2.2.2.1
    have hLH : LH I := hK.2.2.2.2.2.2.2.2.2.2.2.1
    have hLN : LN I := hK.2.2.2.2.2.2.2.2.2.2.2.2.1
    have hLPc : LPc I := hK.2.2.2.2.2.2.2.2.2.2.2.2.2.1
    have hLPk : LPk I := hK.2.2.2.2.2.2.2.2.2.2.2.2.2.2.1
    have hLTc : LTc I := hK.2.2.2.2.2.2.2.2.2.2.2.2.2.2.2.1
    have hLTk : LTk I := hK.2.2.2.2.2.2.2.2.2.2.2.2.2.2.2.2.1
    have hLGc : LGc I := hK.2.2.2.2.2.2.2.2.2.2.2.2.2.2.2.2.2.1
    have hLGk : LGk I := hK.2.2.2.2.2.2.2.2.2.2.2.2.2.2.2.2.2.2.1
    have hLRc : LRc I := hK.2.2.2.2.2.2.2.2.2.2.2.2.2.2.2.2.2.2.2.1
    have hLRk : LRk I := hK.2.2.2.2.2.2.2.2.2.2.2.2.2.2.2.2.2.2.2.2
    have gLH : LH I2 := LH_f hLH (fun s hs => ⟨(hW2 (227 + 2 * s) 0 (by omega)).trans (hW1 (227 + 2 * s) 0 (by omega)), (hW2 (227 + 2 * s) 1 (by omega)).trans (hW1 (227 + 2 * s) 1 (by omega))⟩) (fun s hs => ⟨(hW2 250 s (by omega)).trans (hW1 250 s (by omega)), (hW2 251 s (by omega)).trans (hW1 251 s (by omega))⟩)
    have gLN : LN I2 := LN_f hLN (fun s j hs hj => (hW2 (228 + 2 * s) j (by omega)).trans (hW1 (228 + 2 * s) j (by omega))) (fun s j hs hj => (hW2 252 (24 * s + j) (by omega)).trans (hW1 252 (24 * s + j) (by omega)))
    have gLPc : LPc I2 := LPc_f hR hLPc ((hW2 236 0 (by omega)).trans (hW1 236 0 (by omega))) (fun k j h1 h2 h3 => (hW2 k j (by omega)).trans (hW1 k j (by omega))) (fun j h1 h2 h3 h4 => (hW2 236 j (by omega)).trans (hW1 236 j (by omega)))
    have gLPk : LPk I2 := LPk_f hR hLPk ((hW2 0 2 (by omega)).trans (hW1 0 2 (by omega))) (fun k j h1 h2 => (hW2 k j (by omega)).trans (hW1 k j (by omega))) (fun j => (hW2 237 j (by omega)).trans (hW1 237 j (by omega)))
    have gLTc : LTc I2 := LTc_f hR hLTc ((hW2 1 (5) (by omega)).trans (hW1 1 (5) (by omega))) (fun j => (hW2 5 (j) (by omega)).trans (hW1 5 (j) (by omega))) ((hW2 236 (2) (by omega)).trans (hW1 236 (2) (by omega))) (fun j h1 h2 => (hW2 236 (j) (by omega)).trans (hW1 236 (j) (by omega)))
    have gLTk : LTk I2 := LTk_f hLTk ((hW2 0 (2) (by omega)).trans (hW1 0 (2) (by omega))) ((hW2 102 (5) (by omega)).trans (hW1 102 (5) (by omega))) (fun j => (hW2 106 (j) (by omega)).trans (hW1 106 (j) (by omega))) (fun j => (hW2 237 (j) (by omega)).trans (hW1 237 (j) (by omega)))
    have gLGc : LGc I2 := LGc_f hLGc (fun k j h1 h2 => (hW2 k j (by omega)).trans (hW1 k j (by omega))) (fun j h1 h2 => (hW2 236 (j) (by omega)).trans (hW1 236 (j) (by omega)))
    have gLGk : LGk I2 := LGk_f hLGk ((hW2 0 (2) (by omega)).trans (hW1 0 (2) (by omega))) (fun k j h1 h2 => (hW2 k j (by omega)).trans (hW1 k j (by omega))) (fun j => (hW2 237 (j) (by omega)).trans (hW1 237 (j) (by omega)))
    have gLRc : LRc I2 := LRc_f hR hLRc ((hW2 236 0 (by omega)).trans (hW1 236 0 (by omega))) (fun k j h1 h2 h3 h4 => (hW2 k j (by omega)).trans (hW1 k j (by omega))) (fun j h1 h2 h3 => (hW2 236 (j) (by omega)).trans (hW1 236 (j) (by omega)))
    have gLRk : LRk I2 := LRk_f hR hLRk ((hW2 0 2 (by omega)).trans (hW1 0 2 (by omega))) (fun k j h1 h2 => (hW2 k j (by omega)).trans (hW1 k j (by omega))) (fun j => (hW2 237 j (by omega)).trans (hW1 237 j (by omega)))
    have gI : LI I2 := ((hW2 0 (2) (by omega)).trans (hW1 0 (2) (by omega))).trans (hI.trans ((hW2 235 (2) (by omega)).trans (hW1 235 (2) (by omega))).symm)
    have gL0 : LA 1 1 1 0 1 I2 := LA_f hL0 (fun j hj => (hW2 1 (j + 1) (by omega)).trans (hW1 1 (j + 1) (by omega))) (fun j hj => (hW2 236 (0 + 1 * j) (by omega)).trans (hW1 236 (0 + 1 * j) (by omega)))
    have gB0 : LB 1 1 1 0 1 I2 := LB_f hB0 ((hW2 0 (2) (by omega)).trans (hW1 0 (2) (by omega))) (fun j hj => (hW2 102 (j + 1) (by omega)).trans (hW1 102 (j + 1) (by omega))) (fun j hj => (hW2 237 (0 + 1 * j) (by omega)).trans (hW1 237 (0 + 1 * j) (by omega)))
    have gL1 : LA 4 0 5 4 1 I2 := LA_f hL1 (fun j hj => (hW2 4 (j + 0) (by omega)).trans (hW1 4 (j + 0) (by omega))) (fun j hj => (hW2 236 (4 + 1 * j) (by omega)).trans (hW1 236 (4 + 1 * j) (by omega)))
    have gB1 : LB 4 0 5 4 1 I2 := LB_f hB1 ((hW2 0 (2) (by omega)).trans (hW1 0 (2) (by omega))) (fun j hj => (hW2 105 (j + 0) (by omega)).trans (hW1 105 (j + 0) (by omega))) (fun j hj => (hW2 237 (4 + 1 * j) (by omega)).trans (hW1 237 (4 + 1 * j) (by omega)))
    have gL2 : LA 12 6 1 1 1 I2 := LA_f hL2 (fun j hj => (hW2 12 (j + 6) (by omega)).trans (hW1 12 (j + 6) (by omega))) (fun j hj => (hW2 236 (1 + 1 * j) (by omega)).trans (hW1 236 (1 + 1 * j) (by omega)))
    have gB2 : LB 12 6 1 1 1 I2 := LB_f hB2 ((hW2 0 (2) (by omega)).trans (hW1 0 (2) (by omega))) (fun j hj => (hW2 113 (j + 6) (by omega)).trans (hW1 113 (j + 6) (by omega))) (fun j hj => (hW2 237 (1 + 1 * j) (by omega)).trans (hW1 237 (1 + 1 * j) (by omega)))
    have gL3 : LA 15 0 20 188 6 I2 := LA_f hL3 (fun j hj => (hW2 15 (j + 0) (by omega)).trans (hW1 15 (j + 0) (by omega))) (fun j hj => (hW2 236 (188 + 6 * j) (by omega)).trans (hW1 236 (188 + 6 * j) (by omega)))
    have gB3 : LB 15 0 20 188 6 I2 := LB_f hB3 ((hW2 0 (2) (by omega)).trans (hW1 0 (2) (by omega))) (fun j hj => (hW2 116 (j + 0) (by omega)).trans (hW1 116 (j + 0) (by omega))) (fun j hj => (hW2 237 (188 + 6 * j) (by omega)).trans (hW1 237 (188 + 6 * j) (by omega)))
    have gL4 : LA 8 0 6 16 4 I2 := LA_f hL4 (fun j hj => (hW2 8 (j + 0) (by omega)).trans (hW1 8 (j + 0) (by omega))) (fun j hj => (hW2 236 (16 + 4 * j) (by omega)).trans (hW1 236 (16 + 4 * j) (by omega)))
    have gB4 : LB 8 0 6 16 4 I2 := LB_f hB4 ((hW2 0 (2) (by omega)).trans (hW1 0 (2) (by omega))) (fun j hj => (hW2 109 (j + 0) (by omega)).trans (hW1 109 (j + 0) (by omega))) (fun j hj => (hW2 237 (16 + 4 * j) (by omega)).trans (hW1 237 (16 + 4 * j) (by omega)))
    exact ⟨gI, gL0, gB0, gL1, gB1, gL2, gB2, gL3, gB3, gL4, gB4, gLH, gLN, gLPc, gLPk, gLTc, gLTk, gLGc, gLGk, gLRc, gLRk⟩
  exact law_tail h ih hF hR2 hK2
theorem law_c6 (h : Bd G i) (ih : NXT G i) (hF : FS F) (hR : Rg I) (hK : LK I) : GoN G 1000 kL_law 0 NP 460 (lvl i) [] F I Qlw := by
  refine law_wp law_oc ckL_law [1665] ?_
  refine ⟨rfl, ixl h (by decide), ixh h (by decide), ?_⟩
  refine ⟨rfl, ixl h (by decide), ixh h (by decide), ?_⟩
  refine ⟨⟨_, rfl, (by decide)⟩, ?_⟩
  refine c_limit2 hF hR  (fun r1 I1 hR1 hA1 hr1 hW1 q1a => ?_)
  refine ⟨rfl, ixl h (by decide), ixh h (by decide), ?_⟩
  refine ⟨rfl, ixl h (by decide), ixh h (by decide), ?_⟩
  refine ⟨⟨_, rfl, (by decide)⟩, ?_⟩
  refine r_limit2 hF hR1  (fun r2 I2 hR2 hA2 hr2 hW2 q2a => ?_)
  have hK2 : LK I2 := by
    have hI : I 0 2 = I 235 2 := hK.1
    have hL0 : LA 1 1 1 0 1 I := hK.2.1
    have hB0 : LB 1 1 1 0 1 I := hK.2.2.1
    have hL1 : LA 4 0 5 4 1 I := hK.2.2.2.1
    have hB1 : LB 4 0 5 4 1 I := hK.2.2.2.2.1
    have hL2 : LA 12 6 1 1 1 I := hK.2.2.2.2.2.1
    have hB2 : LB 12 6 1 1 1 I := hK.2.2.2.2.2.2.1
    have hL3 : LA 15 0 20 188 6 I := hK.2.2.2.2.2.2.2.1
    have hB3 : LB 15 0 20 188 6 I := hK.2.2.2.2.2.2.2.2.1
    have hL4 : LA 8 0 6 16 4 I := hK.2.2.2.2.2.2.2.2.2.1
    have hB4 : LB 8 0 6 16 4 I := hK.2.2.2.2.2.2.2.2.2.2.1
    have hLH : LH I := hK.2.2.2.2.2.2.2.2.2.2.2.1
    have hLN : LN I := hK.2.2.2.2.2.2.2.2.2.2.2.2.1
    have hLPc : LPc I := hK.2.2.2.2.2.2.2.2.2.2.2.2.2.1
    have hLPk : LPk I := hK.2.2.2.2.2.2.2.2.2.2.2.2.2.2.1
    have hLTc : LTc I := hK.2.2.2.2.2.2.2.2.2.2.2.2.2.2.2.1
    have hLTk : LTk I := hK.2.2.2.2.2.2.2.2.2.2.2.2.2.2.2.2.1
    have hLGc : LGc I := hK.2.2.2.2.2.2.2.2.2.2.2.2.2.2.2.2.2.1
    have hLGk : LGk I := hK.2.2.2.2.2.2.2.2.2.2.2.2.2.2.2.2.2.2.1
    have hLRc : LRc I := hK.2.2.2.2.2.2.2.2.2.2.2.2.2.2.2.2.2.2.2.1
    have hLRk : LRk I := hK.2.2.2.2.2.2.2.2.2.2.2.2.2.2.2.2.2.2.2.2
    have gLH : LH I2 := LH_f hLH (fun s hs => ⟨(hW2 (227 + 2 * s) 0 (by omega)).trans (hW1 (227 + 2 * s) 0 (by omega)), (hW2 (227 + 2 * s) 1 (by omega)).trans (hW1 (227 + 2 * s) 1 (by omega))⟩) (fun s hs => ⟨(hW2 250 s (by omega)).trans (hW1 250 s (by omega)), (hW2 251 s (by omega)).trans (hW1 251 s (by omega))⟩)
    have gLN : LN I2 := LN_f hLN (fun s j hs hj => (hW2 (228 + 2 * s) j (by omega)).trans (hW1 (228 + 2 * s) j (by omega))) (fun s j hs hj => (hW2 252 (24 * s + j) (by omega)).trans (hW1 252 (24 * s + j) (by omega)))
    have gLPc : LPc I2 := LPc_f hR hLPc ((hW2 236 0 (by omega)).trans (hW1 236 0 (by omega))) (fun k j h1 h2 h3 => (hW2 k j (by omega)).trans (hW1 k j (by omega))) (fun j h1 h2 h3 h4 => (hW2 236 j (by omega)).trans (hW1 236 j (by omega)))
    have gLPk : LPk I2 := LPk_f hR hLPk ((hW2 0 2 (by omega)).trans (hW1 0 2 (by omega))) (fun k j h1 h2 => (hW2 k j (by omega)).trans (hW1 k j (by omega))) (fun j => (hW2 237 j (by omega)).trans (hW1 237 j (by omega)))
    have gLTc : LTc I2 := LTc_f hR hLTc ((hW2 1 (5) (by omega)).trans (hW1 1 (5) (by omega))) (fun j => (hW2 5 (j) (by omega)).trans (hW1 5 (j) (by omega))) ((hW2 236 (2) (by omega)).trans (hW1 236 (2) (by omega))) (fun j h1 h2 => (hW2 236 (j) (by omega)).trans (hW1 236 (j) (by omega)))
    have gLTk : LTk I2 := LTk_f hLTk ((hW2 0 (2) (by omega)).trans (hW1 0 (2) (by omega))) ((hW2 102 (5) (by omega)).trans (hW1 102 (5) (by omega))) (fun j => (hW2 106 (j) (by omega)).trans (hW1 106 (j) (by omega))) (fun j => (hW2 237 (j) (by omega)).trans (hW1 237 (j) (by omega)))
    have gLGc : LGc I2 := LGc_f hLGc (fun k j h1 h2 => (hW2 k j (by omega)).trans (hW1 k j (by omega))) (fun j h1 h2 => (hW2 236 (j) (by omega)).trans (hW1 236 (j) (by omega)))
    have gLGk : LGk I2 := LGk_f hLGk ((hW2 0 (2) (by omega)).trans (hW1 0 (2) (by omega))) (fun k j h1 h2 => (hW2 k j (by omega)).trans (hW1 k j (by omega))) (fun j => (hW2 237 (j) (by omega)).trans (hW1 237 (j) (by omega)))
    have gLRc : LRc I2 := LRc_f hR hLRc ((hW2 236 0 (by omega)).trans (hW1 236 0 (by omega))) (fun k j h1 h2 h3 h4 => (hW2 k j (by omega)).trans (hW1 k j (by omega))) (fun j h1 h2 h3 => (hW2 236 (j) (by omega)).trans (hW1 236 (j) (by omega)))
    have gLRk : LRk I2 := LRk_f hR hLRk ((hW2 0 2 (by omega)).trans (hW1 0 2 (by omega))) (fun k j h1 h2 => (hW2 k j (by omega)).trans (hW1 k j (by omega))) (fun j => (hW2 237 j (by omega)).trans (hW1 237 j (by omega)))
    have gI : LI I2 := ((hW2 0 (2) (by omega)).trans (hW1 0 (2) (by omega))).trans (hI.trans ((hW2 235 (2) (by omega)).trans (hW1 235 (2) (by omega))).symm)
    have gL0 : LA 1 1 1 0 1 I2 := LA_f hL0 (fun j hj => (hW2 1 (j + 1) (by omega)).trans (hW1 1 (j + 1) (by omega))) (fun j hj => (hW2 236 (0 + 1 * j) (by omega)).trans (hW1 236 (0 + 1 * j) (by omega)))
    have gB0 : LB 1 1 1 0 1 I2 := LB_f hB0 ((hW2 0 (2) (by omega)).trans (hW1 0 (2) (by omega))) (fun j hj => (hW2 102 (j + 1) (by omega)).trans (hW1 102 (j + 1) (by omega))) (fun j hj => (hW2 237 (0 + 1 * j) (by omega)).trans (hW1 237 (0 + 1 * j) (by omega)))
    have gL1 : LA 4 0 5 4 1 I2 := by
      intro j hj
      exact ((hW2 4 j (by omega)).trans (q1a.2.2 j hj)).trans ((congrArg (fun z => ite _ _ z) ((hL1 j hj).trans (hW1 236 (4 + 1 * j) (by omega)).symm)).trans (q2a.2.2 j hj).symm)
    have gB1 : LB 4 0 5 4 1 I2 := LB_f hB1 ((hW2 0 (2) (by omega)).trans (hW1 0 (2) (by omega))) (fun j hj => (hW2 105 (j + 0) (by omega)).trans (hW1 105 (j + 0) (by omega))) (fun j hj => (hW2 237 (4 + 1 * j) (by omega)).trans (hW1 237 (4 + 1 * j) (by omega)))
    have gL2 : LA 12 6 1 1 1 I2 := LA_f hL2 (fun j hj => (hW2 12 (j + 6) (by omega)).trans (hW1 12 (j + 6) (by omega))) (fun j hj => (hW2 236 (1 + 1 * j) (by omega)).trans (hW1 236 (1 + 1 * j) (by omega)))
    have gB2 : LB 12 6 1 1 1 I2 := LB_f hB2 ((hW2 0 (2) (by omega)).trans (hW1 0 (2) (by omega))) (fun j hj => (hW2 113 (j + 6) (by omega)).trans (hW1 113 (j + 6) (by omega))) (fun j hj => (hW2 237 (1 + 1 * j) (by omega)).trans (hW1 237 (1 + 1 * j) (by omega)))
    have gL3 : LA 15 0 20 188 6 I2 := LA_f hL3 (fun j hj => (hW2 15 (j + 0) (by omega)).trans (hW1 15 (j + 0) (by omega))) (fun j hj => (hW2 236 (188 + 6 * j) (by omega)).trans (hW1 236 (188 + 6 * j) (by omega)))
    have gB3 : LB 15 0 20 188 6 I2 := LB_f hB3 ((hW2 0 (2) (by omega)).trans (hW1 0 (2) (by omega))) (fun j hj => (hW2 116 (j + 0) (by omega)).trans (hW1 116 (j + 0) (by omega))) (fun j hj => (hW2 237 (188 + 6 * j) (by omega)).trans (hW1 237 (188 + 6 * j) (by omega)))
    have gL4 : LA 8 0 6 16 4 I2 := LA_f hL4 (fun j hj => (hW2 8 (j + 0) (by omega)).trans (hW1 8 (j + 0) (by omega))) (fun j hj => (hW2 236 (16 + 4 * j) (by omega)).trans (hW1 236 (16 + 4 * j) (by omega)))
    have gB4 : LB 8 0 6 16 4 I2 := LB_f hB4 ((hW2 0 (2) (by omega)).trans (hW1 0 (2) (by omega))) (fun j hj => (hW2 109 (j + 0) (by omega)).trans (hW1 109 (j + 0) (by omega))) (fun j hj => (hW2 237 (16 + 4 * j) (by omega)).trans (hW1 237 (16 + 4 * j) (by omega)))
    exact ⟨gI, gL0, gB0, gL1, gB1, gL2, gB2, gL3, gB3, gL4, gB4, gLH, gLN, gLPc, gLPk, gLTc, gLTk, gLGc, gLGk, gLRc, gLRk⟩
  exact law_tail h ih hF hR2 hK2
theorem law_c7 (h : Bd G i) (ih : NXT G i) (hF : FS F) (hR : Rg I) (hK : LK I) : GoN G 1000 kL_law 0 NP 493 (lvl i) [] F I Qlw := by
  refine law_wp law_oc ckL_law [1665] ?_
  refine ⟨rfl, ixl h (by decide), ixh h (by decide), ?_⟩
  refine ⟨rfl, ixl h (by decide), ixh h (by decide), ?_⟩
  refine ⟨rfl, ixl h (by decide), ixh h (by decide), ?_⟩
  refine ⟨⟨_, rfl, (by decide)⟩, ?_⟩
  refine c_feed10 hF hR (by have a1 := (hK.2.2.2.2.2.2.2.2.2.2.2.2.2.2.2.1).1; have a4 := Rg.n2 hR; omega) (fun r1 I1 hR1 hA1 hr1 hW1 q1a => ?_)
  refine ⟨rfl, ixl h (by decide), ixh h (by decide), ?_⟩
  refine ⟨rfl, ixl h (by decide), ixh h (by decide), ?_⟩
  refine ⟨rfl, ixl h (by decide), ixh h (by decide), ?_⟩
  refine ⟨⟨_, rfl, (by decide)⟩, ?_⟩
  refine r_feed10 hF hR1 (by have a4 := Rg.n2 hR1; omega) (fun r2 I2 hR2 hA2 hr2 hW2 q2a => ?_)
  have hK2 : LK I2 := by
    have hI : I 0 2 = I 235 2 := hK.1
    have hL0 : LA 1 1 1 0 1 I := hK.2.1
    have hB0 : LB 1 1 1 0 1 I := hK.2.2.1
    have hL1 : LA 4 0 5 4 1 I := hK.2.2.2.1
    have hB1 : LB 4 0 5 4 1 I := hK.2.2.2.2.1
    have hL2 : LA 12 6 1 1 1 I := hK.2.2.2.2.2.1
    have hB2 : LB 12 6 1 1 1 I := hK.2.2.2.2.2.2.1
    have hL3 : LA 15 0 20 188 6 I := hK.2.2.2.2.2.2.2.1
    have hB3 : LB 15 0 20 188 6 I := hK.2.2.2.2.2.2.2.2.1
    have hL4 : LA 8 0 6 16 4 I := hK.2.2.2.2.2.2.2.2.2.1
    have hB4 : LB 8 0 6 16 4 I := hK.2.2.2.2.2.2.2.2.2.2.1
    have hLH : LH I := hK.2.2.2.2.2.2.2.2.2.2.2.1
    have hLN : LN I := hK.2.2.2.2.2.2.2.2.2.2.2.2.1
    have hLPc : LPc I := hK.2.2.2.2.2.2.2.2.2.2.2.2.2.1
    have hLPk : LPk I := hK.2.2.2.2.2.2.2.2.2.2.2.2.2.2.1
    have hLTc : LTc I := hK.2.2.2.2.2.2.2.2.2.2.2.2.2.2.2.1
    have hLTk : LTk I := hK.2.2.2.2.2.2.2.2.2.2.2.2.2.2.2.2.1
    have hLGc : LGc I := hK.2.2.2.2.2.2.2.2.2.2.2.2.2.2.2.2.2.1
    have hLGk : LGk I := hK.2.2.2.2.2.2.2.2.2.2.2.2.2.2.2.2.2.2.1
    have hLRc : LRc I := hK.2.2.2.2.2.2.2.2.2.2.2.2.2.2.2.2.2.2.2.1
    have hLRk : LRk I := hK.2.2.2.2.2.2.2.2.2.2.2.2.2.2.2.2.2.2.2.2
    have gLH : LH I2 := LH_f hLH (fun s hs => ⟨(hW2 (227 + 2 * s) 0 (by omega)).trans (hW1 (227 + 2 * s) 0 (by omega)), (hW2 (227 + 2 * s) 1 (by omega)).trans (hW1 (227 + 2 * s) 1 (by omega))⟩) (fun s hs => ⟨(hW2 250 s (by omega)).trans (hW1 250 s (by omega)), (hW2 251 s (by omega)).trans (hW1 251 s (by omega))⟩)
    have gLN : LN I2 := LN_f hLN (fun s j hs hj => (hW2 (228 + 2 * s) j (by omega)).trans (hW1 (228 + 2 * s) j (by omega))) (fun s j hs hj => (hW2 252 (24 * s + j) (by omega)).trans (hW1 252 (24 * s + j) (by omega)))
    have gLPc : LPc I2 := LPc_f hR hLPc ((hW2 236 0 (by omega)).trans (hW1 236 0 (by omega))) (fun k j h1 h2 h3 => (hW2 k j (by omega)).trans (hW1 k j (by omega))) (fun j h1 h2 h3 h4 => (hW2 236 j (by omega)).trans (hW1 236 j (by omega)))
    have gLPk : LPk I2 := LPk_f hR hLPk ((hW2 0 2 (by omega)).trans (hW1 0 2 (by omega))) (fun k j h1 h2 => (hW2 k j (by omega)).trans (hW1 k j (by omega))) (fun j => (hW2 237 j (by omega)).trans (hW1 237 j (by omega)))
    have gLTc : LTc I2 := LTc_fd hR hLTc (fun k j h => hW1 k j (by omega)) (fun k j h => hW2 k j (by omega)) q1a q2a
    have gLTk : LTk I2 := LTk_f hLTk ((hW2 0 (2) (by omega)).trans (hW1 0 (2) (by omega))) ((hW2 102 (5) (by omega)).trans (hW1 102 (5) (by omega))) (fun j => (hW2 106 (j) (by omega)).trans (hW1 106 (j) (by omega))) (fun j => (hW2 237 (j) (by omega)).trans (hW1 237 (j) (by omega)))
    have gLGc : LGc I2 := LGc_f hLGc (fun k j h1 h2 => (hW2 k j (by omega)).trans (hW1 k j (by omega))) (fun j h1 h2 => (hW2 236 (j) (by omega)).trans (hW1 236 (j) (by omega)))
    have gLGk : LGk I2 := LGk_f hLGk ((hW2 0 (2) (by omega)).trans (hW1 0 (2) (by omega))) (fun k j h1 h2 => (hW2 k j (by omega)).trans (hW1 k j (by omega))) (fun j => (hW2 237 (j) (by omega)).trans (hW1 237 (j) (by omega)))
    have gLRc : LRc I2 := LRc_f hR hLRc ((hW2 236 0 (by omega)).trans (hW1 236 0 (by omega))) (fun k j h1 h2 h3 h4 => (hW2 k j (by omega)).trans (hW1 k j (by omega))) (fun j h1 h2 h3 => (hW2 236 (j) (by omega)).trans (hW1 236 (j) (by omega)))
    have gLRk : LRk I2 := LRk_f hR hLRk ((hW2 0 2 (by omega)).trans (hW1 0 2 (by omega))) (fun k j h1 h2 => (hW2 k j (by omega)).trans (hW1 k j (by omega))) (fun j => (hW2 237 j (by omega)).trans (hW1 237 j (by omega)))
    have gI : LI I2 := ((hW2 0 (2) (by omega)).trans (hW1 0 (2) (by omega))).trans (hI.trans ((hW2 235 (2) (by omega)).trans (hW1 235 (2) (by omega))).symm)
    have gL0 : LA 1 1 1 0 1 I2 := LA_f hL0 (fun j hj => (hW2 1 (j + 1) (by omega)).trans (hW1 1 (j + 1) (by omega))) (fun j hj => (hW2 236 (0 + 1 * j) (by omega)).trans (hW1 236 (0 + 1 * j) (by omega)))
    have gB0 : LB 1 1 1 0 1 I2 := LB_f hB0 ((hW2 0 (2) (by omega)).trans (hW1 0 (2) (by omega))) (fun j hj => (hW2 102 (j + 1) (by omega)).trans (hW1 102 (j + 1) (by omega))) (fun j hj => (hW2 237 (0 + 1 * j) (by omega)).trans (hW1 237 (0 + 1 * j) (by omega)))
    have gL1 : LA 4 0 5 4 1 I2 := LA_f hL1 (fun j hj => (hW2 4 (j + 0) (by omega)).trans (hW1 4 (j + 0) (by omega))) (fun j hj => (hW2 236 (4 + 1 * j) (by omega)).trans (hW1 236 (4 + 1 * j) (by omega)))
    have gB1 : LB 4 0 5 4 1 I2 := LB_f hB1 ((hW2 0 (2) (by omega)).trans (hW1 0 (2) (by omega))) (fun j hj => (hW2 105 (j + 0) (by omega)).trans (hW1 105 (j + 0) (by omega))) (fun j hj => (hW2 237 (4 + 1 * j) (by omega)).trans (hW1 237 (4 + 1 * j) (by omega)))
    have gL2 : LA 12 6 1 1 1 I2 := LA_f hL2 (fun j hj => (hW2 12 (j + 6) (by omega)).trans (hW1 12 (j + 6) (by omega))) (fun j hj => (hW2 236 (1 + 1 * j) (by omega)).trans (hW1 236 (1 + 1 * j) (by omega)))
    have gB2 : LB 12 6 1 1 1 I2 := LB_f hB2 ((hW2 0 (2) (by omega)).trans (hW1 0 (2) (by omega))) (fun j hj => (hW2 113 (j + 6) (by omega)).trans (hW1 113 (j + 6) (by omega))) (fun j hj => (hW2 237 (1 + 1 * j) (by omega)).trans (hW1 237 (1 + 1 * j) (by omega)))
    have gL3 : LA 15 0 20 188 6 I2 := LA_f hL3 (fun j hj => (hW2 15 (j + 0) (by omega)).trans (hW1 15 (j + 0) (by omega))) (fun j hj => (hW2 236 (188 + 6 * j) (by omega)).trans (hW1 236 (188 + 6 * j) (by omega)))
    have gB3 : LB 15 0 20 188 6 I2 := LB_f hB3 ((hW2 0 (2) (by omega)).trans (hW1 0 (2) (by omega))) (fun j hj => (hW2 116 (j + 0) (by omega)).trans (hW1 116 (j + 0) (by omega))) (fun j hj => (hW2 237 (188 + 6 * j) (by omega)).trans (hW1 237 (188 + 6 * j) (by omega)))
    have gL4 : LA 8 0 6 16 4 I2 := LA_f hL4 (fun j hj => (hW2 8 (j + 0) (by omega)).trans (hW1 8 (j + 0) (by omega))) (fun j hj => (hW2 236 (16 + 4 * j) (by omega)).trans (hW1 236 (16 + 4 * j) (by omega)))
    have gB4 : LB 8 0 6 16 4 I2 := LB_f hB4 ((hW2 0 (2) (by omega)).trans (hW1 0 (2) (by omega))) (fun j hj => (hW2 109 (j + 0) (by omega)).trans (hW1 109 (j + 0) (by omega))) (fun j hj => (hW2 237 (16 + 4 * j) (by omega)).trans (hW1 237 (16 + 4 * j) (by omega)))
    exact ⟨gI, gL0, gB0, gL1, gB1, gL2, gB2, gL3, gB3, gL4, gB4, gLH, gLN, gLPc, gLPk, gLTc, gLTk, gLGc, gLGk, gLRc, gLRk⟩
  exact law_tail h ih hF hR2 hK2
theorem law_c8 (h : Bd G i) (ih : NXT G i) (hF : FS F) (hR : Rg I) (hK : LK I) : GoN G 1000 kL_law 0 NP 556 (lvl i) [] F I Qlw := by
  refine law_wp law_oc ckL_law [1665] ?_
  refine ⟨rfl, ixl h (by decide), ixh h (by decide), ?_⟩
  refine ⟨⟨_, rfl, (by decide)⟩, ?_⟩
  refine c_program9 hF hR (tt := txc I) (nn := I 1 5) rfl (TXTc hR (hK.2.2.2.2.2.2.2.2.2.2.2.2.2.2.2.1)) (fun r1 F1 I1 hF1 hR1 hA1 hr1 hW1 q1a => ?_)
  refine ⟨rfl, ixl h (by decide), ixh h (by decide), ?_⟩
  refine ⟨⟨_, rfl, (by decide)⟩, ?_⟩
  refine r_program9 hF1 hR1 (tt := txc I) (nn := I 1 5) ((hW1 236 2 (by omega)).trans (hK.2.2.2.2.2.2.2.2.2.2.2.2.2.2.2.1).1.symm) (TXTr hR (hK.2.2.2.2.2.2.2.2.2.2.2.2.2.2.2.1) (fun k j h => hW1 k j (by omega))) (fun r2 I2 hR2 hA2 hr2 hW2 q2a q2b q2c => ?_)
  have hK2 : LK I2 := by
    have hI : I 0 2 = I 235 2 := hK.1
    have hL0 : LA 1 1 1 0 1 I := hK.2.1
    have hB0 : LB 1 1 1 0 1 I := hK.2.2.1
    have hL1 : LA 4 0 5 4 1 I := hK.2.2.2.1
    have hB1 : LB 4 0 5 4 1 I := hK.2.2.2.2.1
    have hL2 : LA 12 6 1 1 1 I := hK.2.2.2.2.2.1
    have hB2 : LB 12 6 1 1 1 I := hK.2.2.2.2.2.2.1
    have hL3 : LA 15 0 20 188 6 I := hK.2.2.2.2.2.2.2.1
    have hB3 : LB 15 0 20 188 6 I := hK.2.2.2.2.2.2.2.2.1
    have hL4 : LA 8 0 6 16 4 I := hK.2.2.2.2.2.2.2.2.2.1
    have hB4 : LB 8 0 6 16 4 I := hK.2.2.2.2.2.2.2.2.2.2.1
    have hLH : LH I := hK.2.2.2.2.2.2.2.2.2.2.2.1
    have hLN : LN I := hK.2.2.2.2.2.2.2.2.2.2.2.2.1
    have hLPc : LPc I := hK.2.2.2.2.2.2.2.2.2.2.2.2.2.1
    have hLPk : LPk I := hK.2.2.2.2.2.2.2.2.2.2.2.2.2.2.1
    have hLTc : LTc I := hK.2.2.2.2.2.2.2.2.2.2.2.2.2.2.2.1
    have hLTk : LTk I := hK.2.2.2.2.2.2.2.2.2.2.2.2.2.2.2.2.1
    have hLGc : LGc I := hK.2.2.2.2.2.2.2.2.2.2.2.2.2.2.2.2.2.1
    have hLGk : LGk I := hK.2.2.2.2.2.2.2.2.2.2.2.2.2.2.2.2.2.2.1
    have hLRc : LRc I := hK.2.2.2.2.2.2.2.2.2.2.2.2.2.2.2.2.2.2.2.1
    have hLRk : LRk I := hK.2.2.2.2.2.2.2.2.2.2.2.2.2.2.2.2.2.2.2.2
    have gLH : LH I2 := LH_f hLH (fun s hs => ⟨(hW2 (227 + 2 * s) 0 (by omega)).trans (hW1 (227 + 2 * s) 0 (by omega)), (hW2 (227 + 2 * s) 1 (by omega)).trans (hW1 (227 + 2 * s) 1 (by omega))⟩) (fun s hs => ⟨(hW2 250 s (by omega)).trans (hW1 250 s (by omega)), (hW2 251 s (by omega)).trans (hW1 251 s (by omega))⟩)
    have gLN : LN I2 := LN_f hLN (fun s j hs hj => (hW2 (228 + 2 * s) j (by omega)).trans (hW1 (228 + 2 * s) j (by omega))) (fun s j hs hj => (hW2 252 (24 * s + j) (by omega)).trans (hW1 252 (24 * s + j) (by omega)))
    have gLPc : LPc I2 := LPc_f hR hLPc ((hW2 236 0 (by omega)).trans (hW1 236 0 (by omega))) (fun k j h1 h2 h3 => (hW2 k j (by omega)).trans (hW1 k j (by omega))) (fun j h1 h2 h3 h4 => (hW2 236 j (by omega)).trans (hW1 236 j (by omega)))
    have gLPk : LPk I2 := LPk_f hR hLPk ((hW2 0 2 (by omega)).trans (hW1 0 2 (by omega))) (fun k j h1 h2 => (hW2 k j (by omega)).trans (hW1 k j (by omega))) (fun j => (hW2 237 j (by omega)).trans (hW1 237 j (by omega)))
    have gLTc : LTc I2 := prog_t hR hLTc (fun k j h => hW1 k j (by omega)) (fun k j h => hW2 k j (by omega)) (fun j => (hW2 5 j (by omega)).trans (hW1 5 j (by omega))) (fun j h1 h2 => (hW2 236 j (by omega)).trans (hW1 236 j (by omega))) q1a q2a q2b
    have gLTk : LTk I2 := LTk_f hLTk ((hW2 0 (2) (by omega)).trans (hW1 0 (2) (by omega))) ((hW2 102 (5) (by omega)).trans (hW1 102 (5) (by omega))) (fun j => (hW2 106 (j) (by omega)).trans (hW1 106 (j) (by omega))) (fun j => (hW2 237 (j) (by omega)).trans (hW1 237 (j) (by omega)))
    have gLGc : LGc I2 := LGc_p hR2 hLGc (fun k j h => hW1 k j (by omega)) (fun k j h => hW2 k j (by omega)) q1a q2c
    have gLGk : LGk I2 := LGk_f hLGk ((hW2 0 (2) (by omega)).trans (hW1 0 (2) (by omega))) (fun k j h1 h2 => (hW2 k j (by omega)).trans (hW1 k j (by omega))) (fun j => (hW2 237 (j) (by omega)).trans (hW1 237 (j) (by omega)))
    have gLRc : LRc I2 := LRc_f hR hLRc ((hW2 236 0 (by omega)).trans (hW1 236 0 (by omega))) (fun k j h1 h2 h3 h4 => (hW2 k j (by omega)).trans (hW1 k j (by omega))) (fun j h1 h2 h3 => (hW2 236 (j) (by omega)).trans (hW1 236 (j) (by omega)))
    have gLRk : LRk I2 := LRk_f hR hLRk ((hW2 0 2 (by omega)).trans (hW1 0 2 (by omega))) (fun k j h1 h2 => (hW2 k j (by omega)).trans (hW1 k j (by omega))) (fun j => (hW2 237 j (by omega)).trans (hW1 237 j (by omega)))
    have gI : LI I2 := ((hW2 0 (2) (by omega)).trans (hW1 0 (2) (by omega))).trans (hI.trans ((hW2 235 (2) (by omega)).trans (hW1 235 (2) (by omega))).symm)
    have gL0 : LA 1 1 1 0 1 I2 := LA_f hL0 (fun j hj => (hW2 1 (j + 1) (by omega)).trans (hW1 1 (j + 1) (by omega))) (fun j hj => (hW2 236 (0 + 1 * j) (by omega)).trans (hW1 236 (0 + 1 * j) (by omega)))
    have gB0 : LB 1 1 1 0 1 I2 := LB_f hB0 ((hW2 0 (2) (by omega)).trans (hW1 0 (2) (by omega))) (fun j hj => (hW2 102 (j + 1) (by omega)).trans (hW1 102 (j + 1) (by omega))) (fun j hj => (hW2 237 (0 + 1 * j) (by omega)).trans (hW1 237 (0 + 1 * j) (by omega)))
    have gL1 : LA 4 0 5 4 1 I2 := LA_f hL1 (fun j hj => (hW2 4 (j + 0) (by omega)).trans (hW1 4 (j + 0) (by omega))) (fun j hj => (hW2 236 (4 + 1 * j) (by omega)).trans (hW1 236 (4 + 1 * j) (by omega)))
    have gB1 : LB 4 0 5 4 1 I2 := LB_f hB1 ((hW2 0 (2) (by omega)).trans (hW1 0 (2) (by omega))) (fun j hj => (hW2 105 (j + 0) (by omega)).trans (hW1 105 (j + 0) (by omega))) (fun j hj => (hW2 237 (4 + 1 * j) (by omega)).trans (hW1 237 (4 + 1 * j) (by omega)))
    have gL2 : LA 12 6 1 1 1 I2 := LA_f hL2 (fun j hj => (hW2 12 (j + 6) (by omega)).trans (hW1 12 (j + 6) (by omega))) (fun j hj => (hW2 236 (1 + 1 * j) (by omega)).trans (hW1 236 (1 + 1 * j) (by omega)))
    have gB2 : LB 12 6 1 1 1 I2 := LB_f hB2 ((hW2 0 (2) (by omega)).trans (hW1 0 (2) (by omega))) (fun j hj => (hW2 113 (j + 6) (by omega)).trans (hW1 113 (j + 6) (by omega))) (fun j hj => (hW2 237 (1 + 1 * j) (by omega)).trans (hW1 237 (1 + 1 * j) (by omega)))
    have gL3 : LA 15 0 20 188 6 I2 := LA_f hL3 (fun j hj => (hW2 15 (j + 0) (by omega)).trans (hW1 15 (j + 0) (by omega))) (fun j hj => (hW2 236 (188 + 6 * j) (by omega)).trans (hW1 236 (188 + 6 * j) (by omega)))
    have gB3 : LB 15 0 20 188 6 I2 := LB_f hB3 ((hW2 0 (2) (by omega)).trans (hW1 0 (2) (by omega))) (fun j hj => (hW2 116 (j + 0) (by omega)).trans (hW1 116 (j + 0) (by omega))) (fun j hj => (hW2 237 (188 + 6 * j) (by omega)).trans (hW1 237 (188 + 6 * j) (by omega)))
    have gL4 : LA 8 0 6 16 4 I2 := LA_f hL4 (fun j hj => (hW2 8 (j + 0) (by omega)).trans (hW1 8 (j + 0) (by omega))) (fun j hj => (hW2 236 (16 + 4 * j) (by omega)).trans (hW1 236 (16 + 4 * j) (by omega)))
    have gB4 : LB 8 0 6 16 4 I2 := LB_f hB4 ((hW2 0 (2) (by omega)).trans (hW1 0 (2) (by omega))) (fun j hj => (hW2 109 (j + 0) (by omega)).trans (hW1 109 (j + 0) (by omega))) (fun j hj => (hW2 237 (16 + 4 * j) (by omega)).trans (hW1 237 (16 + 4 * j) (by omega)))
    exact ⟨gI, gL0, gB0, gL1, gB1, gL2, gB2, gL3, gB3, gL4, gB4, gLH, gLN, gLPc, gLPk, gLTc, gLTk, gLGc, gLGk, gLRc, gLRk⟩
  exact law_tail h ih hF1 hR2 hK2
theorem law_c9 (h : Bd G i) (ih : NXT G i) (hF : FS F) (hR : Rg I) (hK : LK I) : GoN G 1000 kL_law 0 NP 579 (lvl i) [] F I Qlw := by
  refine law_wp law_oc ckL_law [1665] ?_
  refine ⟨rfl, ixl h (by decide), ixh h (by decide), ?_⟩
  refine ⟨rfl, ixl h (by decide), ixh h (by decide), ?_⟩
  refine ⟨⟨_, rfl, (by decide)⟩, ?_⟩
  refine c_run10 hF hR (by have a1 : I 1 1 = I 236 0 := (show I 1 1 = I 236 0 from hK.2.1 0 (by decide)); have a4 := Rg.n0 hR; omega) (LPc_c hR hK.2.2.2.2.2.2.2.2.2.2.2.2.2.1 (show I 1 1 = I 236 0 from hK.2.1 0 (by decide))) (by have a1 : I 4 3 = I 236 7 := (hK.2.2.2.1) 3 (by decide); have a4 := Rg.n7 hR; omega) (by have a1 : I 4 4 = I 236 8 := (hK.2.2.2.1) 4 (by decide); have a4 := Rg.n8 hR; omega) (LGc_c hK.2.2.2.2.2.2.2.2.2.2.2.2.2.2.2.2.2.1) (fun r1 F1 I1 hF1 hR1 hA1 hr1 hW1 q1a => ?_)
  refine ⟨rfl, ixl h (by decide), ixh h (by decide), ?_⟩
  refine ⟨rfl, ixl h (by decide), ixh h (by decide), ?_⟩
  refine ⟨⟨_, rfl, (by decide)⟩, ?_⟩
  refine r_run9 hF1 hR1 (LPc_m (LPc_f hR hK.2.2.2.2.2.2.2.2.2.2.2.2.2.1 (hW1 236 0 (by omega)) (fun k j h1 h2 h3 => hW1 k j (by omega)) (fun j h1 h2 h3 h4 => hW1 236 j (by omega)))) (LGc_m hK.2.2.2.2.2.2.2.2.2.2.2.2.2.2.2.2.2.1 (fun j => hW1 236 j (by omega))) (fun r2 I2 hR2 hA2 hr2 hW2 q2a => ?_)
  have hK2 : LK I2 := by
    have hI : I 0 2 = I 235 2 := hK.1
    have hL0 : LA 1 1 1 0 1 I := hK.2.1
    have hB0 : LB 1 1 1 0 1 I := hK.2.2.1
    have hL1 : LA 4 0 5 4 1 I := hK.2.2.2.1
    have hB1 : LB 4 0 5 4 1 I := hK.2.2.2.2.1
    have hL2 : LA 12 6 1 1 1 I := hK.2.2.2.2.2.1
    have hB2 : LB 12 6 1 1 1 I := hK.2.2.2.2.2.2.1
    have hL3 : LA 15 0 20 188 6 I := hK.2.2.2.2.2.2.2.1
    have hB3 : LB 15 0 20 188 6 I := hK.2.2.2.2.2.2.2.2.1
    have hL4 : LA 8 0 6 16 4 I := hK.2.2.2.2.2.2.2.2.2.1
    have hB4 : LB 8 0 6 16 4 I := hK.2.2.2.2.2.2.2.2.2.2.1
    have hLH : LH I := hK.2.2.2.2.2.2.2.2.2.2.2.1
    have hLN : LN I := hK.2.2.2.2.2.2.2.2.2.2.2.2.1
    have hLPc : LPc I := hK.2.2.2.2.2.2.2.2.2.2.2.2.2.1
    have hLPk : LPk I := hK.2.2.2.2.2.2.2.2.2.2.2.2.2.2.1
    have hLTc : LTc I := hK.2.2.2.2.2.2.2.2.2.2.2.2.2.2.2.1
    have hLTk : LTk I := hK.2.2.2.2.2.2.2.2.2.2.2.2.2.2.2.2.1
    have hLGc : LGc I := hK.2.2.2.2.2.2.2.2.2.2.2.2.2.2.2.2.2.1
    have hLGk : LGk I := hK.2.2.2.2.2.2.2.2.2.2.2.2.2.2.2.2.2.2.1
    have hLRc : LRc I := hK.2.2.2.2.2.2.2.2.2.2.2.2.2.2.2.2.2.2.2.1
    have hLRk : LRk I := hK.2.2.2.2.2.2.2.2.2.2.2.2.2.2.2.2.2.2.2.2
    have gLH : LH I2 := LH_f hLH (fun s hs => ⟨(hW2 (227 + 2 * s) 0 (by omega)).trans (hW1 (227 + 2 * s) 0 (by omega)), (hW2 (227 + 2 * s) 1 (by omega)).trans (hW1 (227 + 2 * s) 1 (by omega))⟩) (fun s hs => ⟨(hW2 250 s (by omega)).trans (hW1 250 s (by omega)), (hW2 251 s (by omega)).trans (hW1 251 s (by omega))⟩)
    have gLN : LN I2 := LN_f hLN (fun s j hs hj => (hW2 (228 + 2 * s) j (by omega)).trans (hW1 (228 + 2 * s) j (by omega))) (fun s j hs hj => (hW2 252 (24 * s + j) (by omega)).trans (hW1 252 (24 * s + j) (by omega)))
    have gLPc : LPc I2 := LPc_f hR hLPc ((hW2 236 0 (by omega)).trans (hW1 236 0 (by omega))) (fun k j h1 h2 h3 => (hW2 k j (by omega)).trans (hW1 k j (by omega))) (fun j h1 h2 h3 h4 => (hW2 236 j (by omega)).trans (hW1 236 j (by omega)))
    have gLPk : LPk I2 := LPk_f hR hLPk ((hW2 0 2 (by omega)).trans (hW1 0 2 (by omega))) (fun k j h1 h2 => (hW2 k j (by omega)).trans (hW1 k j (by omega))) (fun j => (hW2 237 j (by omega)).trans (hW1 237 j (by omega)))
    have gLTc : LTc I2 := LTc_f hR hLTc ((hW2 1 (5) (by omega)).trans (hW1 1 (5) (by omega))) (fun j => (hW2 5 (j) (by omega)).trans (hW1 5 (j) (by omega))) ((hW2 236 (2) (by omega)).trans (hW1 236 (2) (by omega))) (fun j h1 h2 => (hW2 236 (j) (by omega)).trans (hW1 236 (j) (by omega)))
    have gLTk : LTk I2 := LTk_f hLTk ((hW2 0 (2) (by omega)).trans (hW1 0 (2) (by omega))) ((hW2 102 (5) (by omega)).trans (hW1 102 (5) (by omega))) (fun j => (hW2 106 (j) (by omega)).trans (hW1 106 (j) (by omega))) (fun j => (hW2 237 (j) (by omega)).trans (hW1 237 (j) (by omega)))
    have gLGc : LGc I2 := LGc_f hLGc (fun k j h1 h2 => (hW2 k j (by omega)).trans (hW1 k j (by omega))) (fun j h1 h2 => (hW2 236 (j) (by omega)).trans (hW1 236 (j) (by omega)))
    have gLGk : LGk I2 := LGk_f hLGk ((hW2 0 (2) (by omega)).trans (hW1 0 (2) (by omega))) (fun k j h1 h2 => (hW2 k j (by omega)).trans (hW1 k j (by omega))) (fun j => (hW2 237 (j) (by omega)).trans (hW1 237 (j) (by omega)))
    have gLRc : LRc I2 := LRc_run hR hLRc hLPc hL1 hLGc (hL0 0 (by decide)) (fun k j h => hW1 k j (by omega)) (fun k j h => hW2 k j (by omega)) q1a q2a
    have gLRk : LRk I2 := LRk_f hR hLRk ((hW2 0 2 (by omega)).trans (hW1 0 2 (by omega))) (fun k j h1 h2 => (hW2 k j (by omega)).trans (hW1 k j (by omega))) (fun j => (hW2 237 j (by omega)).trans (hW1 237 j (by omega)))
    have gI : LI I2 := ((hW2 0 (2) (by omega)).trans (hW1 0 (2) (by omega))).trans (hI.trans ((hW2 235 (2) (by omega)).trans (hW1 235 (2) (by omega))).symm)
    have gL0 : LA 1 1 1 0 1 I2 := LA_f hL0 (fun j hj => (hW2 1 (j + 1) (by omega)).trans (hW1 1 (j + 1) (by omega))) (fun j hj => (hW2 236 (0 + 1 * j) (by omega)).trans (hW1 236 (0 + 1 * j) (by omega)))
    have gB0 : LB 1 1 1 0 1 I2 := LB_f hB0 ((hW2 0 (2) (by omega)).trans (hW1 0 (2) (by omega))) (fun j hj => (hW2 102 (j + 1) (by omega)).trans (hW1 102 (j + 1) (by omega))) (fun j hj => (hW2 237 (0 + 1 * j) (by omega)).trans (hW1 237 (0 + 1 * j) (by omega)))
    have gL1 : LA 4 0 5 4 1 I2 := LA_f hL1 (fun j hj => (hW2 4 (j + 0) (by omega)).trans (hW1 4 (j + 0) (by omega))) (fun j hj => (hW2 236 (4 + 1 * j) (by omega)).trans (hW1 236 (4 + 1 * j) (by omega)))
    have gB1 : LB 4 0 5 4 1 I2 := LB_f hB1 ((hW2 0 (2) (by omega)).trans (hW1 0 (2) (by omega))) (fun j hj => (hW2 105 (j + 0) (by omega)).trans (hW1 105 (j + 0) (by omega))) (fun j hj => (hW2 237 (4 + 1 * j) (by omega)).trans (hW1 237 (4 + 1 * j) (by omega)))
    have gL2 : LA 12 6 1 1 1 I2 := LA_f hL2 (fun j hj => (hW2 12 (j + 6) (by omega)).trans (hW1 12 (j + 6) (by omega))) (fun j hj => (hW2 236 (1 + 1 * j) (by omega)).trans (hW1 236 (1 + 1 * j) (by omega)))
    have gB2 : LB 12 6 1 1 1 I2 := LB_f hB2 ((hW2 0 (2) (by omega)).trans (hW1 0 (2) (by omega))) (fun j hj => (hW2 113 (j + 6) (by omega)).trans (hW1 113 (j + 6) (by omega))) (fun j hj => (hW2 237 (1 + 1 * j) (by omega)).trans (hW1 237 (1 + 1 * j) (by omega)))
    have gL3 : LA 15 0 20 188 6 I2 := LA_f hL3 (fun j hj => (hW2 15 (j + 0) (by omega)).trans (hW1 15 (j + 0) (by omega))) (fun j hj => (hW2 236 (188 + 6 * j) (by omega)).trans (hW1 236 (188 + 6 * j) (by omega)))
    have gB3 : LB 15 0 20 188 6 I2 := LB_f hB3 ((hW2 0 (2) (by omega)).trans (hW1 0 (2) (by omega))) (fun j hj => (hW2 116 (j + 0) (by omega)).trans (hW1 116 (j + 0) (by omega))) (fun j hj => (hW2 237 (188 + 6 * j) (by omega)).trans (hW1 237 (188 + 6 * j) (by omega)))
    have gL4 : LA 8 0 6 16 4 I2 := LA_f hL4 (fun j hj => (hW2 8 (j + 0) (by omega)).trans (hW1 8 (j + 0) (by omega))) (fun j hj => (hW2 236 (16 + 4 * j) (by omega)).trans (hW1 236 (16 + 4 * j) (by omega)))
    have gB4 : LB 8 0 6 16 4 I2 := LB_f hB4 ((hW2 0 (2) (by omega)).trans (hW1 0 (2) (by omega))) (fun j hj => (hW2 109 (j + 0) (by omega)).trans (hW1 109 (j + 0) (by omega))) (fun j hj => (hW2 237 (16 + 4 * j) (by omega)).trans (hW1 237 (16 + 4 * j) (by omega)))
    exact ⟨gI, gL0, gB0, gL1, gB1, gL2, gB2, gL3, gB3, gL4, gB4, gLH, gLN, gLPc, gLPk, gLTc, gLTk, gLGc, gLGk, gLRc, gLRk⟩
  exact law_tail h ih hF1 hR2 hK2
theorem law_c10 (h : Bd G i) (ih : NXT G i) (hF : FS F) (hR : Rg I) (hK : LK I) : GoN G 1000 kL_law 0 NP 612 (lvl i) [] F I Qlw := by
  refine law_wp law_oc ckL_law [1665] ?_
  refine ⟨rfl, ixl h (by decide), ixh h (by decide), ?_⟩
  refine ⟨⟨_, rfl, (by decide)⟩, ?_⟩
  refine c_ran hF hR  (fun r1 I1 hR1 hA1 hr1 hW1 => ?_)
  refine ⟨rfl, ixl h (by decide), ixh h (by decide), ?_⟩
  refine ⟨⟨_, rfl, (by decide)⟩, ?_⟩
  refine r_ran hF hR1  (fun r2 I2 hR2 hA2 hr2 hW2 => ?_)
  have hK2 : LK I2 := by
    have hI : I 0 2 = I 235 2 := hK.1
    have hL0 : LA 1 1 1 0 1 I := hK.2.1
    have hB0 : LB 1 1 1 0 1 I := hK.2.2.1
    have hL1 : LA 4 0 5 4 1 I := hK.2.2.2.1
    have hB1 : LB 4 0 5 4 1 I := hK.2.2.2.2.1
    have hL2 : LA 12 6 1 1 1 I := hK.2.2.2.2.2.1
    have hB2 : LB 12 6 1 1 1 I := hK.2.2.2.2.2.2.1
    have hL3 : LA 15 0 20 188 6 I := hK.2.2.2.2.2.2.2.1
    have hB3 : LB 15 0 20 188 6 I := hK.2.2.2.2.2.2.2.2.1
    have hL4 : LA 8 0 6 16 4 I := hK.2.2.2.2.2.2.2.2.2.1
    have hB4 : LB 8 0 6 16 4 I := hK.2.2.2.2.2.2.2.2.2.2.1
    have hLH : LH I := hK.2.2.2.2.2.2.2.2.2.2.2.1
    have hLN : LN I := hK.2.2.2.2.2.2.2.2.2.2.2.2.1
    have hLPc : LPc I := hK.2.2.2.2.2.2.2.2.2.2.2.2.2.1
    have hLPk : LPk I := hK.2.2.2.2.2.2.2.2.2.2.2.2.2.2.1
    have hLTc : LTc I := hK.2.2.2.2.2.2.2.2.2.2.2.2.2.2.2.1
    have hLTk : LTk I := hK.2.2.2.2.2.2.2.2.2.2.2.2.2.2.2.2.1
    have hLGc : LGc I := hK.2.2.2.2.2.2.2.2.2.2.2.2.2.2.2.2.2.1
    have hLGk : LGk I := hK.2.2.2.2.2.2.2.2.2.2.2.2.2.2.2.2.2.2.1
    have hLRc : LRc I := hK.2.2.2.2.2.2.2.2.2.2.2.2.2.2.2.2.2.2.2.1
    have hLRk : LRk I := hK.2.2.2.2.2.2.2.2.2.2.2.2.2.2.2.2.2.2.2.2
    have gLH : LH I2 := LH_f hLH (fun s hs => ⟨(hW2 (227 + 2 * s) 0 (by omega)).trans (hW1 (227 + 2 * s) 0 (by omega)), (hW2 (227 + 2 * s) 1 (by omega)).trans (hW1 (227 + 2 * s) 1 (by omega))⟩) (fun s hs => ⟨(hW2 250 s (by omega)).trans (hW1 250 s (by omega)), (hW2 251 s (by omega)).trans (hW1 251 s (by omega))⟩)
    have gLN : LN I2 := LN_f hLN (fun s j hs hj => (hW2 (228 + 2 * s) j (by omega)).trans (hW1 (228 + 2 * s) j (by omega))) (fun s j hs hj => (hW2 252 (24 * s + j) (by omega)).trans (hW1 252 (24 * s + j) (by omega)))
    have gLPc : LPc I2 := LPc_f hR hLPc ((hW2 236 0 (by omega)).trans (hW1 236 0 (by omega))) (fun k j h1 h2 h3 => (hW2 k j (by omega)).trans (hW1 k j (by omega))) (fun j h1 h2 h3 h4 => (hW2 236 j (by omega)).trans (hW1 236 j (by omega)))
    have gLPk : LPk I2 := LPk_f hR hLPk ((hW2 0 2 (by omega)).trans (hW1 0 2 (by omega))) (fun k j h1 h2 => (hW2 k j (by omega)).trans (hW1 k j (by omega))) (fun j => (hW2 237 j (by omega)).trans (hW1 237 j (by omega)))
    have gLTc : LTc I2 := LTc_f hR hLTc ((hW2 1 (5) (by omega)).trans (hW1 1 (5) (by omega))) (fun j => (hW2 5 (j) (by omega)).trans (hW1 5 (j) (by omega))) ((hW2 236 (2) (by omega)).trans (hW1 236 (2) (by omega))) (fun j h1 h2 => (hW2 236 (j) (by omega)).trans (hW1 236 (j) (by omega)))
    have gLTk : LTk I2 := LTk_f hLTk ((hW2 0 (2) (by omega)).trans (hW1 0 (2) (by omega))) ((hW2 102 (5) (by omega)).trans (hW1 102 (5) (by omega))) (fun j => (hW2 106 (j) (by omega)).trans (hW1 106 (j) (by omega))) (fun j => (hW2 237 (j) (by omega)).trans (hW1 237 (j) (by omega)))
    have gLGc : LGc I2 := LGc_f hLGc (fun k j h1 h2 => (hW2 k j (by omega)).trans (hW1 k j (by omega))) (fun j h1 h2 => (hW2 236 (j) (by omega)).trans (hW1 236 (j) (by omega)))
    have gLGk : LGk I2 := LGk_f hLGk ((hW2 0 (2) (by omega)).trans (hW1 0 (2) (by omega))) (fun k j h1 h2 => (hW2 k j (by omega)).trans (hW1 k j (by omega))) (fun j => (hW2 237 (j) (by omega)).trans (hW1 237 (j) (by omega)))
    have gLRc : LRc I2 := LRc_f hR hLRc ((hW2 236 0 (by omega)).trans (hW1 236 0 (by omega))) (fun k j h1 h2 h3 h4 => (hW2 k j (by omega)).trans (hW1 k j (by omega))) (fun j h1 h2 h3 => (hW2 236 (j) (by omega)).trans (hW1 236 (j) (by omega)))
    have gLRk : LRk I2 := LRk_f hR hLRk ((hW2 0 2 (by omega)).trans (hW1 0 2 (by omega))) (fun k j h1 h2 => (hW2 k j (by omega)).trans (hW1 k j (by omega))) (fun j => (hW2 237 j (by omega)).trans (hW1 237 j (by omega)))
    have gI : LI I2 := ((hW2 0 (2) (by omega)).trans (hW1 0 (2) (by omega))).trans (hI.trans ((hW2 235 (2) (by omega)).trans (hW1 235 (2) (by omega))).symm)
    have gL0 : LA 1 1 1 0 1 I2 := LA_f hL0 (fun j hj => (hW2 1 (j + 1) (by omega)).trans (hW1 1 (j + 1) (by omega))) (fun j hj => (hW2 236 (0 + 1 * j) (by omega)).trans (hW1 236 (0 + 1 * j) (by omega)))
    have gB0 : LB 1 1 1 0 1 I2 := LB_f hB0 ((hW2 0 (2) (by omega)).trans (hW1 0 (2) (by omega))) (fun j hj => (hW2 102 (j + 1) (by omega)).trans (hW1 102 (j + 1) (by omega))) (fun j hj => (hW2 237 (0 + 1 * j) (by omega)).trans (hW1 237 (0 + 1 * j) (by omega)))
    have gL1 : LA 4 0 5 4 1 I2 := LA_f hL1 (fun j hj => (hW2 4 (j + 0) (by omega)).trans (hW1 4 (j + 0) (by omega))) (fun j hj => (hW2 236 (4 + 1 * j) (by omega)).trans (hW1 236 (4 + 1 * j) (by omega)))
    have gB1 : LB 4 0 5 4 1 I2 := LB_f hB1 ((hW2 0 (2) (by omega)).trans (hW1 0 (2) (by omega))) (fun j hj => (hW2 105 (j + 0) (by omega)).trans (hW1 105 (j + 0) (by omega))) (fun j hj => (hW2 237 (4 + 1 * j) (by omega)).trans (hW1 237 (4 + 1 * j) (by omega)))
    have gL2 : LA 12 6 1 1 1 I2 := LA_f hL2 (fun j hj => (hW2 12 (j + 6) (by omega)).trans (hW1 12 (j + 6) (by omega))) (fun j hj => (hW2 236 (1 + 1 * j) (by omega)).trans (hW1 236 (1 + 1 * j) (by omega)))
    have gB2 : LB 12 6 1 1 1 I2 := LB_f hB2 ((hW2 0 (2) (by omega)).trans (hW1 0 (2) (by omega))) (fun j hj => (hW2 113 (j + 6) (by omega)).trans (hW1 113 (j + 6) (by omega))) (fun j hj => (hW2 237 (1 + 1 * j) (by omega)).trans (hW1 237 (1 + 1 * j) (by omega)))
    have gL3 : LA 15 0 20 188 6 I2 := LA_f hL3 (fun j hj => (hW2 15 (j + 0) (by omega)).trans (hW1 15 (j + 0) (by omega))) (fun j hj => (hW2 236 (188 + 6 * j) (by omega)).trans (hW1 236 (188 + 6 * j) (by omega)))
    have gB3 : LB 15 0 20 188 6 I2 := LB_f hB3 ((hW2 0 (2) (by omega)).trans (hW1 0 (2) (by omega))) (fun j hj => (hW2 116 (j + 0) (by omega)).trans (hW1 116 (j + 0) (by omega))) (fun j hj => (hW2 237 (188 + 6 * j) (by omega)).trans (hW1 237 (188 + 6 * j) (by omega)))
    have gL4 : LA 8 0 6 16 4 I2 := LA_f hL4 (fun j hj => (hW2 8 (j + 0) (by omega)).trans (hW1 8 (j + 0) (by omega))) (fun j hj => (hW2 236 (16 + 4 * j) (by omega)).trans (hW1 236 (16 + 4 * j) (by omega)))
    have gB4 : LB 8 0 6 16 4 I2 := LB_f hB4 ((hW2 0 (2) (by omega)).trans (hW1 0 (2) (by omega))) (fun j hj => (hW2 109 (j + 0) (by omega)).trans (hW1 109 (j + 0) (by omega))) (fun j hj => (hW2 237 (16 + 4 * j) (by omega)).trans (hW1 237 (16 + 4 * j) (by omega)))
    exact ⟨gI, gL0, gB0, gL1, gB1, gL2, gB2, gL3, gB3, gL4, gB4, gLH, gLN, gLPc, gLPk, gLTc, gLTk, gLGc, gLGk, gLRc, gLRk⟩
  exact law_tail h ih hF hR2 hK2
theorem law_c11 (h : Bd G i) (ih : NXT G i) (hF : FS F) (hR : Rg I) (hK : LK I) : GoN G 1000 kL_law 0 NP 635 (lvl i) [] F I Qlw := by
  refine law_wp law_oc ckL_law [1665] ?_
  refine ⟨rfl, ixl h (by decide), ixh h (by decide), ?_⟩
  refine ⟨rfl, ixl h (by decide), ixh h (by decide), ?_⟩
  refine ⟨⟨_, rfl, (by decide)⟩, ?_⟩
  refine c_line hF hR  (fun r1 I1 hR1 hA1 hr1 hW1 => ?_)
  refine ⟨rfl, ixl h (by decide), ixh h (by decide), ?_⟩
  refine ⟨rfl, ixl h (by decide), ixh h (by decide), ?_⟩
  refine ⟨⟨_, rfl, (by decide)⟩, ?_⟩
  refine r_line hF hR1  (fun r2 I2 hR2 hA2 hr2 hW2 => ?_)
  have hK2 : LK I2 := by
    have hI : I 0 2 = I 235 2 := hK.1
    have hL0 : LA 1 1 1 0 1 I := hK.2.1
    have hB0 : LB 1 1 1 0 1 I := hK.2.2.1
    have hL1 : LA 4 0 5 4 1 I := hK.2.2.2.1
    have hB1 : LB 4 0 5 4 1 I := hK.2.2.2.2.1
    have hL2 : LA 12 6 1 1 1 I := hK.2.2.2.2.2.1
    have hB2 : LB 12 6 1 1 1 I := hK.2.2.2.2.2.2.1
    have hL3 : LA 15 0 20 188 6 I := hK.2.2.2.2.2.2.2.1
    have hB3 : LB 15 0 20 188 6 I := hK.2.2.2.2.2.2.2.2.1
    have hL4 : LA 8 0 6 16 4 I := hK.2.2.2.2.2.2.2.2.2.1
    have hB4 : LB 8 0 6 16 4 I := hK.2.2.2.2.2.2.2.2.2.2.1
    have hLH : LH I := hK.2.2.2.2.2.2.2.2.2.2.2.1
    have hLN : LN I := hK.2.2.2.2.2.2.2.2.2.2.2.2.1
    have hLPc : LPc I := hK.2.2.2.2.2.2.2.2.2.2.2.2.2.1
    have hLPk : LPk I := hK.2.2.2.2.2.2.2.2.2.2.2.2.2.2.1
    have hLTc : LTc I := hK.2.2.2.2.2.2.2.2.2.2.2.2.2.2.2.1
    have hLTk : LTk I := hK.2.2.2.2.2.2.2.2.2.2.2.2.2.2.2.2.1
    have hLGc : LGc I := hK.2.2.2.2.2.2.2.2.2.2.2.2.2.2.2.2.2.1
    have hLGk : LGk I := hK.2.2.2.2.2.2.2.2.2.2.2.2.2.2.2.2.2.2.1
    have hLRc : LRc I := hK.2.2.2.2.2.2.2.2.2.2.2.2.2.2.2.2.2.2.2.1
    have hLRk : LRk I := hK.2.2.2.2.2.2.2.2.2.2.2.2.2.2.2.2.2.2.2.2
    have gLH : LH I2 := LH_f hLH (fun s hs => ⟨(hW2 (227 + 2 * s) 0 (by omega)).trans (hW1 (227 + 2 * s) 0 (by omega)), (hW2 (227 + 2 * s) 1 (by omega)).trans (hW1 (227 + 2 * s) 1 (by omega))⟩) (fun s hs => ⟨(hW2 250 s (by omega)).trans (hW1 250 s (by omega)), (hW2 251 s (by omega)).trans (hW1 251 s (by omega))⟩)
    have gLN : LN I2 := LN_f hLN (fun s j hs hj => (hW2 (228 + 2 * s) j (by omega)).trans (hW1 (228 + 2 * s) j (by omega))) (fun s j hs hj => (hW2 252 (24 * s + j) (by omega)).trans (hW1 252 (24 * s + j) (by omega)))
    have gLPc : LPc I2 := LPc_f hR hLPc ((hW2 236 0 (by omega)).trans (hW1 236 0 (by omega))) (fun k j h1 h2 h3 => (hW2 k j (by omega)).trans (hW1 k j (by omega))) (fun j h1 h2 h3 h4 => (hW2 236 j (by omega)).trans (hW1 236 j (by omega)))
    have gLPk : LPk I2 := LPk_f hR hLPk ((hW2 0 2 (by omega)).trans (hW1 0 2 (by omega))) (fun k j h1 h2 => (hW2 k j (by omega)).trans (hW1 k j (by omega))) (fun j => (hW2 237 j (by omega)).trans (hW1 237 j (by omega)))
    have gLTc : LTc I2 := LTc_f hR hLTc ((hW2 1 (5) (by omega)).trans (hW1 1 (5) (by omega))) (fun j => (hW2 5 (j) (by omega)).trans (hW1 5 (j) (by omega))) ((hW2 236 (2) (by omega)).trans (hW1 236 (2) (by omega))) (fun j h1 h2 => (hW2 236 (j) (by omega)).trans (hW1 236 (j) (by omega)))
    have gLTk : LTk I2 := LTk_f hLTk ((hW2 0 (2) (by omega)).trans (hW1 0 (2) (by omega))) ((hW2 102 (5) (by omega)).trans (hW1 102 (5) (by omega))) (fun j => (hW2 106 (j) (by omega)).trans (hW1 106 (j) (by omega))) (fun j => (hW2 237 (j) (by omega)).trans (hW1 237 (j) (by omega)))
    have gLGc : LGc I2 := LGc_f hLGc (fun k j h1 h2 => (hW2 k j (by omega)).trans (hW1 k j (by omega))) (fun j h1 h2 => (hW2 236 (j) (by omega)).trans (hW1 236 (j) (by omega)))
    have gLGk : LGk I2 := LGk_f hLGk ((hW2 0 (2) (by omega)).trans (hW1 0 (2) (by omega))) (fun k j h1 h2 => (hW2 k j (by omega)).trans (hW1 k j (by omega))) (fun j => (hW2 237 (j) (by omega)).trans (hW1 237 (j) (by omega)))
    have gLRc : LRc I2 := LRc_f hR hLRc ((hW2 236 0 (by omega)).trans (hW1 236 0 (by omega))) (fun k j h1 h2 h3 h4 => (hW2 k j (by omega)).trans (hW1 k j (by omega))) (fun j h1 h2 h3 => (hW2 236 (j) (by omega)).trans (hW1 236 (j) (by omega)))
    have gLRk : LRk I2 := LRk_f hR hLRk ((hW2 0 2 (by omega)).trans (hW1 0 2 (by omega))) (fun k j h1 h2 => (hW2 k j (by omega)).trans (hW1 k j (by omega))) (fun j => (hW2 237 j (by omega)).trans (hW1 237 j (by omega)))
    have gI : LI I2 := ((hW2 0 (2) (by omega)).trans (hW1 0 (2) (by omega))).trans (hI.trans ((hW2 235 (2) (by omega)).trans (hW1 235 (2) (by omega))).symm)
    have gL0 : LA 1 1 1 0 1 I2 := LA_f hL0 (fun j hj => (hW2 1 (j + 1) (by omega)).trans (hW1 1 (j + 1) (by omega))) (fun j hj => (hW2 236 (0 + 1 * j) (by omega)).trans (hW1 236 (0 + 1 * j) (by omega)))
    have gB0 : LB 1 1 1 0 1 I2 := LB_f hB0 ((hW2 0 (2) (by omega)).trans (hW1 0 (2) (by omega))) (fun j hj => (hW2 102 (j + 1) (by omega)).trans (hW1 102 (j + 1) (by omega))) (fun j hj => (hW2 237 (0 + 1 * j) (by omega)).trans (hW1 237 (0 + 1 * j) (by omega)))
    have gL1 : LA 4 0 5 4 1 I2 := LA_f hL1 (fun j hj => (hW2 4 (j + 0) (by omega)).trans (hW1 4 (j + 0) (by omega))) (fun j hj => (hW2 236 (4 + 1 * j) (by omega)).trans (hW1 236 (4 + 1 * j) (by omega)))
    have gB1 : LB 4 0 5 4 1 I2 := LB_f hB1 ((hW2 0 (2) (by omega)).trans (hW1 0 (2) (by omega))) (fun j hj => (hW2 105 (j + 0) (by omega)).trans (hW1 105 (j + 0) (by omega))) (fun j hj => (hW2 237 (4 + 1 * j) (by omega)).trans (hW1 237 (4 + 1 * j) (by omega)))
    have gL2 : LA 12 6 1 1 1 I2 := LA_f hL2 (fun j hj => (hW2 12 (j + 6) (by omega)).trans (hW1 12 (j + 6) (by omega))) (fun j hj => (hW2 236 (1 + 1 * j) (by omega)).trans (hW1 236 (1 + 1 * j) (by omega)))
    have gB2 : LB 12 6 1 1 1 I2 := LB_f hB2 ((hW2 0 (2) (by omega)).trans (hW1 0 (2) (by omega))) (fun j hj => (hW2 113 (j + 6) (by omega)).trans (hW1 113 (j + 6) (by omega))) (fun j hj => (hW2 237 (1 + 1 * j) (by omega)).trans (hW1 237 (1 + 1 * j) (by omega)))
    have gL3 : LA 15 0 20 188 6 I2 := LA_f hL3 (fun j hj => (hW2 15 (j + 0) (by omega)).trans (hW1 15 (j + 0) (by omega))) (fun j hj => (hW2 236 (188 + 6 * j) (by omega)).trans (hW1 236 (188 + 6 * j) (by omega)))
    have gB3 : LB 15 0 20 188 6 I2 := LB_f hB3 ((hW2 0 (2) (by omega)).trans (hW1 0 (2) (by omega))) (fun j hj => (hW2 116 (j + 0) (by omega)).trans (hW1 116 (j + 0) (by omega))) (fun j hj => (hW2 237 (188 + 6 * j) (by omega)).trans (hW1 237 (188 + 6 * j) (by omega)))
    have gL4 : LA 8 0 6 16 4 I2 := LA_f hL4 (fun j hj => (hW2 8 (j + 0) (by omega)).trans (hW1 8 (j + 0) (by omega))) (fun j hj => (hW2 236 (16 + 4 * j) (by omega)).trans (hW1 236 (16 + 4 * j) (by omega)))
    have gB4 : LB 8 0 6 16 4 I2 := LB_f hB4 ((hW2 0 (2) (by omega)).trans (hW1 0 (2) (by omega))) (fun j hj => (hW2 109 (j + 0) (by omega)).trans (hW1 109 (j + 0) (by omega))) (fun j hj => (hW2 237 (16 + 4 * j) (by omega)).trans (hW1 237 (16 + 4 * j) (by omega)))
    exact ⟨gI, gL0, gB0, gL1, gB1, gL2, gB2, gL3, gB3, gL4, gB4, gLH, gLN, gLPc, gLPk, gLTc, gLTk, gLGc, gLGk, gLRc, gLRk⟩
  exact law_tail h ih hF hR2 hK2
theorem law_c12 (h : Bd G i) (ih : NXT G i) (hF : FS F) (hR : Rg I) (hK : LK I) : GoN G 1000 kL_law 0 NP 668 (lvl i) [] F I Qlw := by
  refine law_wp law_oc ckL_law [1665] ?_
  refine ⟨rfl, ixl h (by decide), ixh h (by decide), ?_⟩
  refine ⟨rfl, ixl h (by decide), ixh h (by decide), ?_⟩
  refine ⟨⟨_, rfl, (by decide)⟩, ?_⟩
  refine c_yields hF hR  (fun r1 I1 hR1 hA1 hr1 hW1 => ?_)
  refine ⟨rfl, ixl h (by decide), ixh h (by decide), ?_⟩
  refine ⟨rfl, ixl h (by decide), ixh h (by decide), ?_⟩
  refine ⟨⟨_, rfl, (by decide)⟩, ?_⟩
  refine r_yields hF hR1  (fun r2 I2 hR2 hA2 hr2 hW2 => ?_)
  have hK2 : LK I2 := by
    have hI : I 0 2 = I 235 2 := hK.1
    have hL0 : LA 1 1 1 0 1 I := hK.2.1
    have hB0 : LB 1 1 1 0 1 I := hK.2.2.1
    have hL1 : LA 4 0 5 4 1 I := hK.2.2.2.1
    have hB1 : LB 4 0 5 4 1 I := hK.2.2.2.2.1
    have hL2 : LA 12 6 1 1 1 I := hK.2.2.2.2.2.1
    have hB2 : LB 12 6 1 1 1 I := hK.2.2.2.2.2.2.1
    have hL3 : LA 15 0 20 188 6 I := hK.2.2.2.2.2.2.2.1
    have hB3 : LB 15 0 20 188 6 I := hK.2.2.2.2.2.2.2.2.1
    have hL4 : LA 8 0 6 16 4 I := hK.2.2.2.2.2.2.2.2.2.1
    have hB4 : LB 8 0 6 16 4 I := hK.2.2.2.2.2.2.2.2.2.2.1
    have hLH : LH I := hK.2.2.2.2.2.2.2.2.2.2.2.1
    have hLN : LN I := hK.2.2.2.2.2.2.2.2.2.2.2.2.1
    have hLPc : LPc I := hK.2.2.2.2.2.2.2.2.2.2.2.2.2.1
    have hLPk : LPk I := hK.2.2.2.2.2.2.2.2.2.2.2.2.2.2.1
    have hLTc : LTc I := hK.2.2.2.2.2.2.2.2.2.2.2.2.2.2.2.1
    have hLTk : LTk I := hK.2.2.2.2.2.2.2.2.2.2.2.2.2.2.2.2.1
    have hLGc : LGc I := hK.2.2.2.2.2.2.2.2.2.2.2.2.2.2.2.2.2.1
    have hLGk : LGk I := hK.2.2.2.2.2.2.2.2.2.2.2.2.2.2.2.2.2.2.1
    have hLRc : LRc I := hK.2.2.2.2.2.2.2.2.2.2.2.2.2.2.2.2.2.2.2.1
    have hLRk : LRk I := hK.2.2.2.2.2.2.2.2.2.2.2.2.2.2.2.2.2.2.2.2
    have gLH : LH I2 := LH_f hLH (fun s hs => ⟨(hW2 (227 + 2 * s) 0 (by omega)).trans (hW1 (227 + 2 * s) 0 (by omega)), (hW2 (227 + 2 * s) 1 (by omega)).trans (hW1 (227 + 2 * s) 1 (by omega))⟩) (fun s hs => ⟨(hW2 250 s (by omega)).trans (hW1 250 s (by omega)), (hW2 251 s (by omega)).trans (hW1 251 s (by omega))⟩)
    have gLN : LN I2 := LN_f hLN (fun s j hs hj => (hW2 (228 + 2 * s) j (by omega)).trans (hW1 (228 + 2 * s) j (by omega))) (fun s j hs hj => (hW2 252 (24 * s + j) (by omega)).trans (hW1 252 (24 * s + j) (by omega)))
    have gLPc : LPc I2 := LPc_f hR hLPc ((hW2 236 0 (by omega)).trans (hW1 236 0 (by omega))) (fun k j h1 h2 h3 => (hW2 k j (by omega)).trans (hW1 k j (by omega))) (fun j h1 h2 h3 h4 => (hW2 236 j (by omega)).trans (hW1 236 j (by omega)))
    have gLPk : LPk I2 := LPk_f hR hLPk ((hW2 0 2 (by omega)).trans (hW1 0 2 (by omega))) (fun k j h1 h2 => (hW2 k j (by omega)).trans (hW1 k j (by omega))) (fun j => (hW2 237 j (by omega)).trans (hW1 237 j (by omega)))
    have gLTc : LTc I2 := LTc_f hR hLTc ((hW2 1 (5) (by omega)).trans (hW1 1 (5) (by omega))) (fun j => (hW2 5 (j) (by omega)).trans (hW1 5 (j) (by omega))) ((hW2 236 (2) (by omega)).trans (hW1 236 (2) (by omega))) (fun j h1 h2 => (hW2 236 (j) (by omega)).trans (hW1 236 (j) (by omega)))
    have gLTk : LTk I2 := LTk_f hLTk ((hW2 0 (2) (by omega)).trans (hW1 0 (2) (by omega))) ((hW2 102 (5) (by omega)).trans (hW1 102 (5) (by omega))) (fun j => (hW2 106 (j) (by omega)).trans (hW1 106 (j) (by omega))) (fun j => (hW2 237 (j) (by omega)).trans (hW1 237 (j) (by omega)))
    have gLGc : LGc I2 := LGc_f hLGc (fun k j h1 h2 => (hW2 k j (by omega)).trans (hW1 k j (by omega))) (fun j h1 h2 => (hW2 236 (j) (by omega)).trans (hW1 236 (j) (by omega)))
    have gLGk : LGk I2 := LGk_f hLGk ((hW2 0 (2) (by omega)).trans (hW1 0 (2) (by omega))) (fun k j h1 h2 => (hW2 k j (by omega)).trans (hW1 k j (by omega))) (fun j => (hW2 237 (j) (by omega)).trans (hW1 237 (j) (by omega)))
    have gLRc : LRc I2 := LRc_f hR hLRc ((hW2 236 0 (by omega)).trans (hW1 236 0 (by omega))) (fun k j h1 h2 h3 h4 => (hW2 k j (by omega)).trans (hW1 k j (by omega))) (fun j h1 h2 h3 => (hW2 236 (j) (by omega)).trans (hW1 236 (j) (by omega)))
    have gLRk : LRk I2 := LRk_f hR hLRk ((hW2 0 2 (by omega)).trans (hW1 0 2 (by omega))) (fun k j h1 h2 => (hW2 k j (by omega)).trans (hW1 k j (by omega))) (fun j => (hW2 237 j (by omega)).trans (hW1 237 j (by omega)))
    have gI : LI I2 := ((hW2 0 (2) (by omega)).trans (hW1 0 (2) (by omega))).trans (hI.trans ((hW2 235 (2) (by omega)).trans (hW1 235 (2) (by omega))).symm)
    have gL0 : LA 1 1 1 0 1 I2 := LA_f hL0 (fun j hj => (hW2 1 (j + 1) (by omega)).trans (hW1 1 (j + 1) (by omega))) (fun j hj => (hW2 236 (0 + 1 * j) (by omega)).trans (hW1 236 (0 + 1 * j) (by omega)))
    have gB0 : LB 1 1 1 0 1 I2 := LB_f hB0 ((hW2 0 (2) (by omega)).trans (hW1 0 (2) (by omega))) (fun j hj => (hW2 102 (j + 1) (by omega)).trans (hW1 102 (j + 1) (by omega))) (fun j hj => (hW2 237 (0 + 1 * j) (by omega)).trans (hW1 237 (0 + 1 * j) (by omega)))
    have gL1 : LA 4 0 5 4 1 I2 := LA_f hL1 (fun j hj => (hW2 4 (j + 0) (by omega)).trans (hW1 4 (j + 0) (by omega))) (fun j hj => (hW2 236 (4 + 1 * j) (by omega)).trans (hW1 236 (4 + 1 * j) (by omega)))
    have gB1 : LB 4 0 5 4 1 I2 := LB_f hB1 ((hW2 0 (2) (by omega)).trans (hW1 0 (2) (by omega))) (fun j hj => (hW2 105 (j + 0) (by omega)).trans (hW1 105 (j + 0) (by omega))) (fun j hj => (hW2 237 (4 + 1 * j) (by omega)).trans (hW1 237 (4 + 1 * j) (by omega)))
    have gL2 : LA 12 6 1 1 1 I2 := LA_f hL2 (fun j hj => (hW2 12 (j + 6) (by omega)).trans (hW1 12 (j + 6) (by omega))) (fun j hj => (hW2 236 (1 + 1 * j) (by omega)).trans (hW1 236 (1 + 1 * j) (by omega)))
    have gB2 : LB 12 6 1 1 1 I2 := LB_f hB2 ((hW2 0 (2) (by omega)).trans (hW1 0 (2) (by omega))) (fun j hj => (hW2 113 (j + 6) (by omega)).trans (hW1 113 (j + 6) (by omega))) (fun j hj => (hW2 237 (1 + 1 * j) (by omega)).trans (hW1 237 (1 + 1 * j) (by omega)))
    have gL3 : LA 15 0 20 188 6 I2 := LA_f hL3 (fun j hj => (hW2 15 (j + 0) (by omega)).trans (hW1 15 (j + 0) (by omega))) (fun j hj => (hW2 236 (188 + 6 * j) (by omega)).trans (hW1 236 (188 + 6 * j) (by omega)))
    have gB3 : LB 15 0 20 188 6 I2 := LB_f hB3 ((hW2 0 (2) (by omega)).trans (hW1 0 (2) (by omega))) (fun j hj => (hW2 116 (j + 0) (by omega)).trans (hW1 116 (j + 0) (by omega))) (fun j hj => (hW2 237 (188 + 6 * j) (by omega)).trans (hW1 237 (188 + 6 * j) (by omega)))
    have gL4 : LA 8 0 6 16 4 I2 := LA_f hL4 (fun j hj => (hW2 8 (j + 0) (by omega)).trans (hW1 8 (j + 0) (by omega))) (fun j hj => (hW2 236 (16 + 4 * j) (by omega)).trans (hW1 236 (16 + 4 * j) (by omega)))
    have gB4 : LB 8 0 6 16 4 I2 := LB_f hB4 ((hW2 0 (2) (by omega)).trans (hW1 0 (2) (by omega))) (fun j hj => (hW2 109 (j + 0) (by omega)).trans (hW1 109 (j + 0) (by omega))) (fun j hj => (hW2 237 (16 + 4 * j) (by omega)).trans (hW1 237 (16 + 4 * j) (by omega)))
    exact ⟨gI, gL0, gB0, gL1, gB1, gL2, gB2, gL3, gB3, gL4, gB4, gLH, gLN, gLPc, gLPk, gLTc, gLTk, gLGc, gLGk, gLRc, gLRk⟩
  exact law_tail h ih hF hR2 hK2
theorem law_c13 (h : Bd G i) (ih : NXT G i) (hF : FS F) (hR : Rg I) (hK : LK I) : GoN G 1000 kL_law 0 NP 701 (lvl i) [] F I Qlw := by
  refine law_wp law_oc ckL_law [1665] ?_
  refine ⟨rfl, ixl h (by decide), ixh h (by decide), ?_⟩
  refine ⟨⟨_, rfl, (by decide)⟩, ?_⟩
  refine c_top hF hR  (fun r1 I1 hR1 hA1 hr1 hW1 => ?_)
  refine ⟨rfl, ixl h (by decide), ixh h (by decide), ?_⟩
  refine ⟨⟨_, rfl, (by decide)⟩, ?_⟩
  refine r_top hF hR1  (fun r2 I2 hR2 hA2 hr2 hW2 => ?_)
  have hK2 : LK I2 := by
    have hI : I 0 2 = I 235 2 := hK.1
    have hL0 : LA 1 1 1 0 1 I := hK.2.1
    have hB0 : LB 1 1 1 0 1 I := hK.2.2.1
    have hL1 : LA 4 0 5 4 1 I := hK.2.2.2.1
    have hB1 : LB 4 0 5 4 1 I := hK.2.2.2.2.1
    have hL2 : LA 12 6 1 1 1 I := hK.2.2.2.2.2.1
    have hB2 : LB 12 6 1 1 1 I := hK.2.2.2.2.2.2.1
    have hL3 : LA 15 0 20 188 6 I := hK.2.2.2.2.2.2.2.1
    have hB3 : LB 15 0 20 188 6 I := hK.2.2.2.2.2.2.2.2.1
    have hL4 : LA 8 0 6 16 4 I := hK.2.2.2.2.2.2.2.2.2.1
    have hB4 : LB 8 0 6 16 4 I := hK.2.2.2.2.2.2.2.2.2.2.1
    have hLH : LH I := hK.2.2.2.2.2.2.2.2.2.2.2.1
    have hLN : LN I := hK.2.2.2.2.2.2.2.2.2.2.2.2.1
    have hLPc : LPc I := hK.2.2.2.2.2.2.2.2.2.2.2.2.2.1
    have hLPk : LPk I := hK.2.2.2.2.2.2.2.2.2.2.2.2.2.2.1
    have hLTc : LTc I := hK.2.2.2.2.2.2.2.2.2.2.2.2.2.2.2.1
    have hLTk : LTk I := hK.2.2.2.2.2.2.2.2.2.2.2.2.2.2.2.2.1
    have hLGc : LGc I := hK.2.2.2.2.2.2.2.2.2.2.2.2.2.2.2.2.2.1
    have hLGk : LGk I := hK.2.2.2.2.2.2.2.2.2.2.2.2.2.2.2.2.2.2.1
    have hLRc : LRc I := hK.2.2.2.2.2.2.2.2.2.2.2.2.2.2.2.2.2.2.2.1
    have hLRk : LRk I := hK.2.2.2.2.2.2.2.2.2.2.2.2.2.2.2.2.2.2.2.2
    have gLH : LH I2 := LH_f hLH (fun s hs => ⟨(hW2 (227 + 2 * s) 0 (by omega)).trans (hW1 (227 + 2 * s) 0 (by omega)), (hW2 (227 + 2 * s) 1 (by omega)).trans (hW1 (227 + 2 * s) 1 (by omega))⟩) (fun s hs => ⟨(hW2 250 s (by omega)).trans (hW1 250 s (by omega)), (hW2 251 s (by omega)).trans (hW1 251 s (by omega))⟩)
    have gLN : LN I2 := LN_f hLN (fun s j hs hj => (hW2 (228 + 2 * s) j (by omega)).trans (hW1 (228 + 2 * s) j (by omega))) (fun s j hs hj => (hW2 252 (24 * s + j) (by omega)).trans (hW1 252 (24 * s + j) (by omega)))
    have gLPc : LPc I2 := LPc_f hR hLPc ((hW2 236 0 (by omega)).trans (hW1 236 0 (by omega))) (fun k j h1 h2 h3 => (hW2 k j (by omega)).trans (hW1 k j (by omega))) (fun j h1 h2 h3 h4 => (hW2 236 j (by omega)).trans (hW1 236 j (by omega)))
    have gLPk : LPk I2 := LPk_f hR hLPk ((hW2 0 2 (by omega)).trans (hW1 0 2 (by omega))) (fun k j h1 h2 => (hW2 k j (by omega)).trans (hW1 k j (by omega))) (fun j => (hW2 237 j (by omega)).trans (hW1 237 j (by omega)))
    have gLTc : LTc I2 := LTc_f hR hLTc ((hW2 1 (5) (by omega)).trans (hW1 1 (5) (by omega))) (fun j => (hW2 5 (j) (by omega)).trans (hW1 5 (j) (by omega))) ((hW2 236 (2) (by omega)).trans (hW1 236 (2) (by omega))) (fun j h1 h2 => (hW2 236 (j) (by omega)).trans (hW1 236 (j) (by omega)))
    have gLTk : LTk I2 := LTk_f hLTk ((hW2 0 (2) (by omega)).trans (hW1 0 (2) (by omega))) ((hW2 102 (5) (by omega)).trans (hW1 102 (5) (by omega))) (fun j => (hW2 106 (j) (by omega)).trans (hW1 106 (j) (by omega))) (fun j => (hW2 237 (j) (by omega)).trans (hW1 237 (j) (by omega)))
    have gLGc : LGc I2 := LGc_f hLGc (fun k j h1 h2 => (hW2 k j (by omega)).trans (hW1 k j (by omega))) (fun j h1 h2 => (hW2 236 (j) (by omega)).trans (hW1 236 (j) (by omega)))
    have gLGk : LGk I2 := LGk_f hLGk ((hW2 0 (2) (by omega)).trans (hW1 0 (2) (by omega))) (fun k j h1 h2 => (hW2 k j (by omega)).trans (hW1 k j (by omega))) (fun j => (hW2 237 (j) (by omega)).trans (hW1 237 (j) (by omega)))
    have gLRc : LRc I2 := LRc_f hR hLRc ((hW2 236 0 (by omega)).trans (hW1 236 0 (by omega))) (fun k j h1 h2 h3 h4 => (hW2 k j (by omega)).trans (hW1 k j (by omega))) (fun j h1 h2 h3 => (hW2 236 (j) (by omega)).trans (hW1 236 (j) (by omega)))
    have gLRk : LRk I2 := LRk_f hR hLRk ((hW2 0 2 (by omega)).trans (hW1 0 2 (by omega))) (fun k j h1 h2 => (hW2 k j (by omega)).trans (hW1 k j (by omega))) (fun j => (hW2 237 j (by omega)).trans (hW1 237 j (by omega)))
    have gI : LI I2 := ((hW2 0 (2) (by omega)).trans (hW1 0 (2) (by omega))).trans (hI.trans ((hW2 235 (2) (by omega)).trans (hW1 235 (2) (by omega))).symm)
    have gL0 : LA 1 1 1 0 1 I2 := LA_f hL0 (fun j hj => (hW2 1 (j + 1) (by omega)).trans (hW1 1 (j + 1) (by omega))) (fun j hj => (hW2 236 (0 + 1 * j) (by omega)).trans (hW1 236 (0 + 1 * j) (by omega)))
    have gB0 : LB 1 1 1 0 1 I2 := LB_f hB0 ((hW2 0 (2) (by omega)).trans (hW1 0 (2) (by omega))) (fun j hj => (hW2 102 (j + 1) (by omega)).trans (hW1 102 (j + 1) (by omega))) (fun j hj => (hW2 237 (0 + 1 * j) (by omega)).trans (hW1 237 (0 + 1 * j) (by omega)))
    have gL1 : LA 4 0 5 4 1 I2 := LA_f hL1 (fun j hj => (hW2 4 (j + 0) (by omega)).trans (hW1 4 (j + 0) (by omega))) (fun j hj => (hW2 236 (4 + 1 * j) (by omega)).trans (hW1 236 (4 + 1 * j) (by omega)))
    have gB1 : LB 4 0 5 4 1 I2 := LB_f hB1 ((hW2 0 (2) (by omega)).trans (hW1 0 (2) (by omega))) (fun j hj => (hW2 105 (j + 0) (by omega)).trans (hW1 105 (j + 0) (by omega))) (fun j hj => (hW2 237 (4 + 1 * j) (by omega)).trans (hW1 237 (4 + 1 * j) (by omega)))
    have gL2 : LA 12 6 1 1 1 I2 := LA_f hL2 (fun j hj => (hW2 12 (j + 6) (by omega)).trans (hW1 12 (j + 6) (by omega))) (fun j hj => (hW2 236 (1 + 1 * j) (by omega)).trans (hW1 236 (1 + 1 * j) (by omega)))
    have gB2 : LB 12 6 1 1 1 I2 := LB_f hB2 ((hW2 0 (2) (by omega)).trans (hW1 0 (2) (by omega))) (fun j hj => (hW2 113 (j + 6) (by omega)).trans (hW1 113 (j + 6) (by omega))) (fun j hj => (hW2 237 (1 + 1 * j) (by omega)).trans (hW1 237 (1 + 1 * j) (by omega)))
    have gL3 : LA 15 0 20 188 6 I2 := LA_f hL3 (fun j hj => (hW2 15 (j + 0) (by omega)).trans (hW1 15 (j + 0) (by omega))) (fun j hj => (hW2 236 (188 + 6 * j) (by omega)).trans (hW1 236 (188 + 6 * j) (by omega)))
    have gB3 : LB 15 0 20 188 6 I2 := LB_f hB3 ((hW2 0 (2) (by omega)).trans (hW1 0 (2) (by omega))) (fun j hj => (hW2 116 (j + 0) (by omega)).trans (hW1 116 (j + 0) (by omega))) (fun j hj => (hW2 237 (188 + 6 * j) (by omega)).trans (hW1 237 (188 + 6 * j) (by omega)))
    have gL4 : LA 8 0 6 16 4 I2 := LA_f hL4 (fun j hj => (hW2 8 (j + 0) (by omega)).trans (hW1 8 (j + 0) (by omega))) (fun j hj => (hW2 236 (16 + 4 * j) (by omega)).trans (hW1 236 (16 + 4 * j) (by omega)))
    have gB4 : LB 8 0 6 16 4 I2 := LB_f hB4 ((hW2 0 (2) (by omega)).trans (hW1 0 (2) (by omega))) (fun j hj => (hW2 109 (j + 0) (by omega)).trans (hW1 109 (j + 0) (by omega))) (fun j hj => (hW2 237 (16 + 4 * j) (by omega)).trans (hW1 237 (16 + 4 * j) (by omega)))
    exact ⟨gI, gL0, gB0, gL1, gB1, gL2, gB2, gL3, gB3, gL4, gB4, gLH, gLN, gLPc, gLPk, gLTc, gLTk, gLGc, gLGk, gLRc, gLRk⟩
  exact law_tail h ih hF hR2 hK2
theorem law_c14 (h : Bd G i) (ih : NXT G i) (hF : FS F) (hR : Rg I) (hK : LK I) : GoN G 1000 kL_law 0 NP 724 (lvl i) [] F I Qlw := by
  refine law_wp law_oc ckL_law [1665] ?_
  refine ⟨rfl, ixl h (by decide), ixh h (by decide), ?_⟩
  refine ⟨rfl, ixl h (by decide), ixh h (by decide), ?_⟩
  refine ⟨⟨_, rfl, (by decide)⟩, ?_⟩
  refine c_breaks hF hR  (fun r1 I1 hR1 hA1 hr1 hW1 => ?_)
  refine ⟨rfl, ixl h (by decide), ixh h (by decide), ?_⟩
  refine ⟨rfl, ixl h (by decide), ixh h (by decide), ?_⟩
  refine ⟨⟨_, rfl, (by decide)⟩, ?_⟩
  refine r_breaks hF hR1  (fun r2 I2 hR2 hA2 hr2 hW2 => ?_)
  have hK2 : LK I2 := by
    have hI : I 0 2 = I 235 2 := hK.1
    have hL0 : LA 1 1 1 0 1 I := hK.2.1
    have hB0 : LB 1 1 1 0 1 I := hK.2.2.1
    have hL1 : LA 4 0 5 4 1 I := hK.2.2.2.1
    have hB1 : LB 4 0 5 4 1 I := hK.2.2.2.2.1
    have hL2 : LA 12 6 1 1 1 I := hK.2.2.2.2.2.1
    have hB2 : LB 12 6 1 1 1 I := hK.2.2.2.2.2.2.1
    have hL3 : LA 15 0 20 188 6 I := hK.2.2.2.2.2.2.2.1
    have hB3 : LB 15 0 20 188 6 I := hK.2.2.2.2.2.2.2.2.1
    have hL4 : LA 8 0 6 16 4 I := hK.2.2.2.2.2.2.2.2.2.1
    have hB4 : LB 8 0 6 16 4 I := hK.2.2.2.2.2.2.2.2.2.2.1
    have hLH : LH I := hK.2.2.2.2.2.2.2.2.2.2.2.1
    have hLN : LN I := hK.2.2.2.2.2.2.2.2.2.2.2.2.1
    have hLPc : LPc I := hK.2.2.2.2.2.2.2.2.2.2.2.2.2.1
    have hLPk : LPk I := hK.2.2.2.2.2.2.2.2.2.2.2.2.2.2.1
    have hLTc : LTc I := hK.2.2.2.2.2.2.2.2.2.2.2.2.2.2.2.1
    have hLTk : LTk I := hK.2.2.2.2.2.2.2.2.2.2.2.2.2.2.2.2.1
    have hLGc : LGc I := hK.2.2.2.2.2.2.2.2.2.2.2.2.2.2.2.2.2.1
    have hLGk : LGk I := hK.2.2.2.2.2.2.2.2.2.2.2.2.2.2.2.2.2.2.1
    have hLRc : LRc I := hK.2.2.2.2.2.2.2.2.2.2.2.2.2.2.2.2.2.2.2.1
    have hLRk : LRk I := hK.2.2.2.2.2.2.2.2.2.2.2.2.2.2.2.2.2.2.2.2
    have gLH : LH I2 := LH_f hLH (fun s hs => ⟨(hW2 (227 + 2 * s) 0 (by omega)).trans (hW1 (227 + 2 * s) 0 (by omega)), (hW2 (227 + 2 * s) 1 (by omega)).trans (hW1 (227 + 2 * s) 1 (by omega))⟩) (fun s hs => ⟨(hW2 250 s (by omega)).trans (hW1 250 s (by omega)), (hW2 251 s (by omega)).trans (hW1 251 s (by omega))⟩)
    have gLN : LN I2 := LN_f hLN (fun s j hs hj => (hW2 (228 + 2 * s) j (by omega)).trans (hW1 (228 + 2 * s) j (by omega))) (fun s j hs hj => (hW2 252 (24 * s + j) (by omega)).trans (hW1 252 (24 * s + j) (by omega)))
    have gLPc : LPc I2 := LPc_f hR hLPc ((hW2 236 0 (by omega)).trans (hW1 236 0 (by omega))) (fun k j h1 h2 h3 => (hW2 k j (by omega)).trans (hW1 k j (by omega))) (fun j h1 h2 h3 h4 => (hW2 236 j (by omega)).trans (hW1 236 j (by omega)))
    have gLPk : LPk I2 := LPk_f hR hLPk ((hW2 0 2 (by omega)).trans (hW1 0 2 (by omega))) (fun k j h1 h2 => (hW2 k j (by omega)).trans (hW1 k j (by omega))) (fun j => (hW2 237 j (by omega)).trans (hW1 237 j (by omega)))
    have gLTc : LTc I2 := LTc_f hR hLTc ((hW2 1 (5) (by omega)).trans (hW1 1 (5) (by omega))) (fun j => (hW2 5 (j) (by omega)).trans (hW1 5 (j) (by omega))) ((hW2 236 (2) (by omega)).trans (hW1 236 (2) (by omega))) (fun j h1 h2 => (hW2 236 (j) (by omega)).trans (hW1 236 (j) (by omega)))
    have gLTk : LTk I2 := LTk_f hLTk ((hW2 0 (2) (by omega)).trans (hW1 0 (2) (by omega))) ((hW2 102 (5) (by omega)).trans (hW1 102 (5) (by omega))) (fun j => (hW2 106 (j) (by omega)).trans (hW1 106 (j) (by omega))) (fun j => (hW2 237 (j) (by omega)).trans (hW1 237 (j) (by omega)))
    have gLGc : LGc I2 := LGc_f hLGc (fun k j h1 h2 => (hW2 k j (by omega)).trans (hW1 k j (by omega))) (fun j h1 h2 => (hW2 236 (j) (by omega)).trans (hW1 236 (j) (by omega)))
    have gLGk : LGk I2 := LGk_f hLGk ((hW2 0 (2) (by omega)).trans (hW1 0 (2) (by omega))) (fun k j h1 h2 => (hW2 k j (by omega)).trans (hW1 k j (by omega))) (fun j => (hW2 237 (j) (by omega)).trans (hW1 237 (j) (by omega)))
    have gLRc : LRc I2 := LRc_f hR hLRc ((hW2 236 0 (by omega)).trans (hW1 236 0 (by omega))) (fun k j h1 h2 h3 h4 => (hW2 k j (by omega)).trans (hW1 k j (by omega))) (fun j h1 h2 h3 => (hW2 236 (j) (by omega)).trans (hW1 236 (j) (by omega)))
    have gLRk : LRk I2 := LRk_f hR hLRk ((hW2 0 2 (by omega)).trans (hW1 0 2 (by omega))) (fun k j h1 h2 => (hW2 k j (by omega)).trans (hW1 k j (by omega))) (fun j => (hW2 237 j (by omega)).trans (hW1 237 j (by omega)))
    have gI : LI I2 := ((hW2 0 (2) (by omega)).trans (hW1 0 (2) (by omega))).trans (hI.trans ((hW2 235 (2) (by omega)).trans (hW1 235 (2) (by omega))).symm)
    have gL0 : LA 1 1 1 0 1 I2 := LA_f hL0 (fun j hj => (hW2 1 (j + 1) (by omega)).trans (hW1 1 (j + 1) (by omega))) (fun j hj => (hW2 236 (0 + 1 * j) (by omega)).trans (hW1 236 (0 + 1 * j) (by omega)))
    have gB0 : LB 1 1 1 0 1 I2 := LB_f hB0 ((hW2 0 (2) (by omega)).trans (hW1 0 (2) (by omega))) (fun j hj => (hW2 102 (j + 1) (by omega)).trans (hW1 102 (j + 1) (by omega))) (fun j hj => (hW2 237 (0 + 1 * j) (by omega)).trans (hW1 237 (0 + 1 * j) (by omega)))
    have gL1 : LA 4 0 5 4 1 I2 := LA_f hL1 (fun j hj => (hW2 4 (j + 0) (by omega)).trans (hW1 4 (j + 0) (by omega))) (fun j hj => (hW2 236 (4 + 1 * j) (by omega)).trans (hW1 236 (4 + 1 * j) (by omega)))
    have gB1 : LB 4 0 5 4 1 I2 := LB_f hB1 ((hW2 0 (2) (by omega)).trans (hW1 0 (2) (by omega))) (fun j hj => (hW2 105 (j + 0) (by omega)).trans (hW1 105 (j + 0) (by omega))) (fun j hj => (hW2 237 (4 + 1 * j) (by omega)).trans (hW1 237 (4 + 1 * j) (by omega)))
    have gL2 : LA 12 6 1 1 1 I2 := LA_f hL2 (fun j hj => (hW2 12 (j + 6) (by omega)).trans (hW1 12 (j + 6) (by omega))) (fun j hj => (hW2 236 (1 + 1 * j) (by omega)).trans (hW1 236 (1 + 1 * j) (by omega)))
    have gB2 : LB 12 6 1 1 1 I2 := LB_f hB2 ((hW2 0 (2) (by omega)).trans (hW1 0 (2) (by omega))) (fun j hj => (hW2 113 (j + 6) (by omega)).trans (hW1 113 (j + 6) (by omega))) (fun j hj => (hW2 237 (1 + 1 * j) (by omega)).trans (hW1 237 (1 + 1 * j) (by omega)))
    have gL3 : LA 15 0 20 188 6 I2 := LA_f hL3 (fun j hj => (hW2 15 (j + 0) (by omega)).trans (hW1 15 (j + 0) (by omega))) (fun j hj => (hW2 236 (188 + 6 * j) (by omega)).trans (hW1 236 (188 + 6 * j) (by omega)))
    have gB3 : LB 15 0 20 188 6 I2 := LB_f hB3 ((hW2 0 (2) (by omega)).trans (hW1 0 (2) (by omega))) (fun j hj => (hW2 116 (j + 0) (by omega)).trans (hW1 116 (j + 0) (by omega))) (fun j hj => (hW2 237 (188 + 6 * j) (by omega)).trans (hW1 237 (188 + 6 * j) (by omega)))
    have gL4 : LA 8 0 6 16 4 I2 := LA_f hL4 (fun j hj => (hW2 8 (j + 0) (by omega)).trans (hW1 8 (j + 0) (by omega))) (fun j hj => (hW2 236 (16 + 4 * j) (by omega)).trans (hW1 236 (16 + 4 * j) (by omega)))
    have gB4 : LB 8 0 6 16 4 I2 := LB_f hB4 ((hW2 0 (2) (by omega)).trans (hW1 0 (2) (by omega))) (fun j hj => (hW2 109 (j + 0) (by omega)).trans (hW1 109 (j + 0) (by omega))) (fun j hj => (hW2 237 (16 + 4 * j) (by omega)).trans (hW1 237 (16 + 4 * j) (by omega)))
    exact ⟨gI, gL0, gB0, gL1, gB1, gL2, gB2, gL3, gB3, gL4, gB4, gLH, gLN, gLPc, gLPk, gLTc, gLTk, gLGc, gLGk, gLRc, gLRk⟩
  exact law_tail h ih hF hR2 hK2
theorem law_c15 (h : Bd G i) (ih : NXT G i) (hF : FS F) (hR : Rg I) (hK : LK I) : GoN G 1000 kL_law 0 NP 757 (lvl i) [] F I Qlw := by
  refine law_wp law_oc ckL_law [1665] ?_
  refine ⟨rfl, ixl h (by decide), ixh h (by decide), ?_⟩
  refine ⟨rfl, ixl h (by decide), ixh h (by decide), ?_⟩
  refine ⟨⟨_, rfl, (by decide)⟩, ?_⟩
  refine c_spent hF hR  (fun r1 I1 hR1 hA1 hr1 hW1 => ?_)
  refine ⟨rfl, ixl h (by decide), ixh h (by decide), ?_⟩
  refine ⟨rfl, ixl h (by decide), ixh h (by decide), ?_⟩
  refine ⟨⟨_, rfl, (by decide)⟩, ?_⟩
  refine r_spent hF hR1  (fun r2 I2 hR2 hA2 hr2 hW2 => ?_)
  have hK2 : LK I2 := by
    have hI : I 0 2 = I 235 2 := hK.1
    have hL0 : LA 1 1 1 0 1 I := hK.2.1
    have hB0 : LB 1 1 1 0 1 I := hK.2.2.1
    have hL1 : LA 4 0 5 4 1 I := hK.2.2.2.1
    have hB1 : LB 4 0 5 4 1 I := hK.2.2.2.2.1
    have hL2 : LA 12 6 1 1 1 I := hK.2.2.2.2.2.1
    have hB2 : LB 12 6 1 1 1 I := hK.2.2.2.2.2.2.1
    have hL3 : LA 15 0 20 188 6 I := hK.2.2.2.2.2.2.2.1
    have hB3 : LB 15 0 20 188 6 I := hK.2.2.2.2.2.2.2.2.1
    have hL4 : LA 8 0 6 16 4 I := hK.2.2.2.2.2.2.2.2.2.1
    have hB4 : LB 8 0 6 16 4 I := hK.2.2.2.2.2.2.2.2.2.2.1
    have hLH : LH I := hK.2.2.2.2.2.2.2.2.2.2.2.1
    have hLN : LN I := hK.2.2.2.2.2.2.2.2.2.2.2.2.1
    have hLPc : LPc I := hK.2.2.2.2.2.2.2.2.2.2.2.2.2.1
    have hLPk : LPk I := hK.2.2.2.2.2.2.2.2.2.2.2.2.2.2.1
    have hLTc : LTc I := hK.2.2.2.2.2.2.2.2.2.2.2.2.2.2.2.1
    have hLTk : LTk I := hK.2.2.2.2.2.2.2.2.2.2.2.2.2.2.2.2.1
    have hLGc : LGc I := hK.2.2.2.2.2.2.2.2.2.2.2.2.2.2.2.2.2.1
    have hLGk : LGk I := hK.2.2.2.2.2.2.2.2.2.2.2.2.2.2.2.2.2.2.1
    have hLRc : LRc I := hK.2.2.2.2.2.2.2.2.2.2.2.2.2.2.2.2.2.2.2.1
    have hLRk : LRk I := hK.2.2.2.2.2.2.2.2.2.2.2.2.2.2.2.2.2.2.2.2
    have gLH : LH I2 := LH_f hLH (fun s hs => ⟨(hW2 (227 + 2 * s) 0 (by omega)).trans (hW1 (227 + 2 * s) 0 (by omega)), (hW2 (227 + 2 * s) 1 (by omega)).trans (hW1 (227 + 2 * s) 1 (by omega))⟩) (fun s hs => ⟨(hW2 250 s (by omega)).trans (hW1 250 s (by omega)), (hW2 251 s (by omega)).trans (hW1 251 s (by omega))⟩)
    have gLN : LN I2 := LN_f hLN (fun s j hs hj => (hW2 (228 + 2 * s) j (by omega)).trans (hW1 (228 + 2 * s) j (by omega))) (fun s j hs hj => (hW2 252 (24 * s + j) (by omega)).trans (hW1 252 (24 * s + j) (by omega)))
    have gLPc : LPc I2 := LPc_f hR hLPc ((hW2 236 0 (by omega)).trans (hW1 236 0 (by omega))) (fun k j h1 h2 h3 => (hW2 k j (by omega)).trans (hW1 k j (by omega))) (fun j h1 h2 h3 h4 => (hW2 236 j (by omega)).trans (hW1 236 j (by omega)))
    have gLPk : LPk I2 := LPk_f hR hLPk ((hW2 0 2 (by omega)).trans (hW1 0 2 (by omega))) (fun k j h1 h2 => (hW2 k j (by omega)).trans (hW1 k j (by omega))) (fun j => (hW2 237 j (by omega)).trans (hW1 237 j (by omega)))
    have gLTc : LTc I2 := LTc_f hR hLTc ((hW2 1 (5) (by omega)).trans (hW1 1 (5) (by omega))) (fun j => (hW2 5 (j) (by omega)).trans (hW1 5 (j) (by omega))) ((hW2 236 (2) (by omega)).trans (hW1 236 (2) (by omega))) (fun j h1 h2 => (hW2 236 (j) (by omega)).trans (hW1 236 (j) (by omega)))
    have gLTk : LTk I2 := LTk_f hLTk ((hW2 0 (2) (by omega)).trans (hW1 0 (2) (by omega))) ((hW2 102 (5) (by omega)).trans (hW1 102 (5) (by omega))) (fun j => (hW2 106 (j) (by omega)).trans (hW1 106 (j) (by omega))) (fun j => (hW2 237 (j) (by omega)).trans (hW1 237 (j) (by omega)))
    have gLGc : LGc I2 := LGc_f hLGc (fun k j h1 h2 => (hW2 k j (by omega)).trans (hW1 k j (by omega))) (fun j h1 h2 => (hW2 236 (j) (by omega)).trans (hW1 236 (j) (by omega)))
    have gLGk : LGk I2 := LGk_f hLGk ((hW2 0 (2) (by omega)).trans (hW1 0 (2) (by omega))) (fun k j h1 h2 => (hW2 k j (by omega)).trans (hW1 k j (by omega))) (fun j => (hW2 237 (j) (by omega)).trans (hW1 237 (j) (by omega)))
    have gLRc : LRc I2 := LRc_f hR hLRc ((hW2 236 0 (by omega)).trans (hW1 236 0 (by omega))) (fun k j h1 h2 h3 h4 => (hW2 k j (by omega)).trans (hW1 k j (by omega))) (fun j h1 h2 h3 => (hW2 236 (j) (by omega)).trans (hW1 236 (j) (by omega)))
    have gLRk : LRk I2 := LRk_f hR hLRk ((hW2 0 2 (by omega)).trans (hW1 0 2 (by omega))) (fun k j h1 h2 => (hW2 k j (by omega)).trans (hW1 k j (by omega))) (fun j => (hW2 237 j (by omega)).trans (hW1 237 j (by omega)))
    have gI : LI I2 := ((hW2 0 (2) (by omega)).trans (hW1 0 (2) (by omega))).trans (hI.trans ((hW2 235 (2) (by omega)).trans (hW1 235 (2) (by omega))).symm)
    have gL0 : LA 1 1 1 0 1 I2 := LA_f hL0 (fun j hj => (hW2 1 (j + 1) (by omega)).trans (hW1 1 (j + 1) (by omega))) (fun j hj => (hW2 236 (0 + 1 * j) (by omega)).trans (hW1 236 (0 + 1 * j) (by omega)))
    have gB0 : LB 1 1 1 0 1 I2 := LB_f hB0 ((hW2 0 (2) (by omega)).trans (hW1 0 (2) (by omega))) (fun j hj => (hW2 102 (j + 1) (by omega)).trans (hW1 102 (j + 1) (by omega))) (fun j hj => (hW2 237 (0 + 1 * j) (by omega)).trans (hW1 237 (0 + 1 * j) (by omega)))
    have gL1 : LA 4 0 5 4 1 I2 := LA_f hL1 (fun j hj => (hW2 4 (j + 0) (by omega)).trans (hW1 4 (j + 0) (by omega))) (fun j hj => (hW2 236 (4 + 1 * j) (by omega)).trans (hW1 236 (4 + 1 * j) (by omega)))
    have gB1 : LB 4 0 5 4 1 I2 := LB_f hB1 ((hW2 0 (2) (by omega)).trans (hW1 0 (2) (by omega))) (fun j hj => (hW2 105 (j + 0) (by omega)).trans (hW1 105 (j + 0) (by omega))) (fun j hj => (hW2 237 (4 + 1 * j) (by omega)).trans (hW1 237 (4 + 1 * j) (by omega)))
    have gL2 : LA 12 6 1 1 1 I2 := LA_f hL2 (fun j hj => (hW2 12 (j + 6) (by omega)).trans (hW1 12 (j + 6) (by omega))) (fun j hj => (hW2 236 (1 + 1 * j) (by omega)).trans (hW1 236 (1 + 1 * j) (by omega)))
    have gB2 : LB 12 6 1 1 1 I2 := LB_f hB2 ((hW2 0 (2) (by omega)).trans (hW1 0 (2) (by omega))) (fun j hj => (hW2 113 (j + 6) (by omega)).trans (hW1 113 (j + 6) (by omega))) (fun j hj => (hW2 237 (1 + 1 * j) (by omega)).trans (hW1 237 (1 + 1 * j) (by omega)))
    have gL3 : LA 15 0 20 188 6 I2 := LA_f hL3 (fun j hj => (hW2 15 (j + 0) (by omega)).trans (hW1 15 (j + 0) (by omega))) (fun j hj => (hW2 236 (188 + 6 * j) (by omega)).trans (hW1 236 (188 + 6 * j) (by omega)))
    have gB3 : LB 15 0 20 188 6 I2 := LB_f hB3 ((hW2 0 (2) (by omega)).trans (hW1 0 (2) (by omega))) (fun j hj => (hW2 116 (j + 0) (by omega)).trans (hW1 116 (j + 0) (by omega))) (fun j hj => (hW2 237 (188 + 6 * j) (by omega)).trans (hW1 237 (188 + 6 * j) (by omega)))
    have gL4 : LA 8 0 6 16 4 I2 := LA_f hL4 (fun j hj => (hW2 8 (j + 0) (by omega)).trans (hW1 8 (j + 0) (by omega))) (fun j hj => (hW2 236 (16 + 4 * j) (by omega)).trans (hW1 236 (16 + 4 * j) (by omega)))
    have gB4 : LB 8 0 6 16 4 I2 := LB_f hB4 ((hW2 0 (2) (by omega)).trans (hW1 0 (2) (by omega))) (fun j hj => (hW2 109 (j + 0) (by omega)).trans (hW1 109 (j + 0) (by omega))) (fun j hj => (hW2 237 (16 + 4 * j) (by omega)).trans (hW1 237 (16 + 4 * j) (by omega)))
    exact ⟨gI, gL0, gB0, gL1, gB1, gL2, gB2, gL3, gB3, gL4, gB4, gLH, gLN, gLPc, gLPk, gLTc, gLTk, gLGc, gLGk, gLRc, gLRk⟩
  exact law_tail h ih hF hR2 hK2
theorem law_c16 (h : Bd G i) (ih : NXT G i) (hF : FS F) (hR : Rg I) (hK : LK I) : GoN G 1000 kL_law 0 NP 790 (lvl i) [] F I Qlw := by
  refine law_wp law_oc ckL_law [1665] ?_
  refine ⟨rfl, ixl h (by decide), ixh h (by decide), ?_⟩
  refine ⟨rfl, ixl h (by decide), ixh h (by decide), ?_⟩
  refine ⟨⟨_, rfl, (by decide)⟩, ?_⟩
  refine c_number hF hR  (fun r1 I1 hR1 hA1 hr1 hW1 => ?_)
  refine ⟨rfl, ixl h (by decide), ixh h (by decide), ?_⟩
  refine ⟨rfl, ixl h (by decide), ixh h (by decide), ?_⟩
  refine ⟨⟨_, rfl, (by decide)⟩, ?_⟩
  refine r_number_ hF hR1  (fun r2 I2 hR2 hA2 hr2 hW2 => ?_)
  have hK2 : LK I2 := by
    have hI : I 0 2 = I 235 2 := hK.1
    have hL0 : LA 1 1 1 0 1 I := hK.2.1
    have hB0 : LB 1 1 1 0 1 I := hK.2.2.1
    have hL1 : LA 4 0 5 4 1 I := hK.2.2.2.1
    have hB1 : LB 4 0 5 4 1 I := hK.2.2.2.2.1
    have hL2 : LA 12 6 1 1 1 I := hK.2.2.2.2.2.1
    have hB2 : LB 12 6 1 1 1 I := hK.2.2.2.2.2.2.1
    have hL3 : LA 15 0 20 188 6 I := hK.2.2.2.2.2.2.2.1
    have hB3 : LB 15 0 20 188 6 I := hK.2.2.2.2.2.2.2.2.1
    have hL4 : LA 8 0 6 16 4 I := hK.2.2.2.2.2.2.2.2.2.1
    have hB4 : LB 8 0 6 16 4 I := hK.2.2.2.2.2.2.2.2.2.2.1
    have hLH : LH I := hK.2.2.2.2.2.2.2.2.2.2.2.1
    have hLN : LN I := hK.2.2.2.2.2.2.2.2.2.2.2.2.1
    have hLPc : LPc I := hK.2.2.2.2.2.2.2.2.2.2.2.2.2.1
    have hLPk : LPk I := hK.2.2.2.2.2.2.2.2.2.2.2.2.2.2.1
    have hLTc : LTc I := hK.2.2.2.2.2.2.2.2.2.2.2.2.2.2.2.1
    have hLTk : LTk I := hK.2.2.2.2.2.2.2.2.2.2.2.2.2.2.2.2.1
    have hLGc : LGc I := hK.2.2.2.2.2.2.2.2.2.2.2.2.2.2.2.2.2.1
    have hLGk : LGk I := hK.2.2.2.2.2.2.2.2.2.2.2.2.2.2.2.2.2.2.1
    have hLRc : LRc I := hK.2.2.2.2.2.2.2.2.2.2.2.2.2.2.2.2.2.2.2.1
    have hLRk : LRk I := hK.2.2.2.2.2.2.2.2.2.2.2.2.2.2.2.2.2.2.2.2
    have gLH : LH I2 := LH_f hLH (fun s hs => ⟨(hW2 (227 + 2 * s) 0 (by omega)).trans (hW1 (227 + 2 * s) 0 (by omega)), (hW2 (227 + 2 * s) 1 (by omega)).trans (hW1 (227 + 2 * s) 1 (by omega))⟩) (fun s hs => ⟨(hW2 250 s (by omega)).trans (hW1 250 s (by omega)), (hW2 251 s (by omega)).trans (hW1 251 s (by omega))⟩)
    have gLN : LN I2 := LN_f hLN (fun s j hs hj => (hW2 (228 + 2 * s) j (by omega)).trans (hW1 (228 + 2 * s) j (by omega))) (fun s j hs hj => (hW2 252 (24 * s + j) (by omega)).trans (hW1 252 (24 * s + j) (by omega)))
    have gLPc : LPc I2 := LPc_f hR hLPc ((hW2 236 0 (by omega)).trans (hW1 236 0 (by omega))) (fun k j h1 h2 h3 => (hW2 k j (by omega)).trans (hW1 k j (by omega))) (fun j h1 h2 h3 h4 => (hW2 236 j (by omega)).trans (hW1 236 j (by omega)))
    have gLPk : LPk I2 := LPk_f hR hLPk ((hW2 0 2 (by omega)).trans (hW1 0 2 (by omega))) (fun k j h1 h2 => (hW2 k j (by omega)).trans (hW1 k j (by omega))) (fun j => (hW2 237 j (by omega)).trans (hW1 237 j (by omega)))
    have gLTc : LTc I2 := LTc_f hR hLTc ((hW2 1 (5) (by omega)).trans (hW1 1 (5) (by omega))) (fun j => (hW2 5 (j) (by omega)).trans (hW1 5 (j) (by omega))) ((hW2 236 (2) (by omega)).trans (hW1 236 (2) (by omega))) (fun j h1 h2 => (hW2 236 (j) (by omega)).trans (hW1 236 (j) (by omega)))
    have gLTk : LTk I2 := LTk_f hLTk ((hW2 0 (2) (by omega)).trans (hW1 0 (2) (by omega))) ((hW2 102 (5) (by omega)).trans (hW1 102 (5) (by omega))) (fun j => (hW2 106 (j) (by omega)).trans (hW1 106 (j) (by omega))) (fun j => (hW2 237 (j) (by omega)).trans (hW1 237 (j) (by omega)))
    have gLGc : LGc I2 := LGc_f hLGc (fun k j h1 h2 => (hW2 k j (by omega)).trans (hW1 k j (by omega))) (fun j h1 h2 => (hW2 236 (j) (by omega)).trans (hW1 236 (j) (by omega)))
    have gLGk : LGk I2 := LGk_f hLGk ((hW2 0 (2) (by omega)).trans (hW1 0 (2) (by omega))) (fun k j h1 h2 => (hW2 k j (by omega)).trans (hW1 k j (by omega))) (fun j => (hW2 237 (j) (by omega)).trans (hW1 237 (j) (by omega)))
    have gLRc : LRc I2 := LRc_f hR hLRc ((hW2 236 0 (by omega)).trans (hW1 236 0 (by omega))) (fun k j h1 h2 h3 h4 => (hW2 k j (by omega)).trans (hW1 k j (by omega))) (fun j h1 h2 h3 => (hW2 236 (j) (by omega)).trans (hW1 236 (j) (by omega)))
    have gLRk : LRk I2 := LRk_f hR hLRk ((hW2 0 2 (by omega)).trans (hW1 0 2 (by omega))) (fun k j h1 h2 => (hW2 k j (by omega)).trans (hW1 k j (by omega))) (fun j => (hW2 237 j (by omega)).trans (hW1 237 j (by omega)))
    have gI : LI I2 := ((hW2 0 (2) (by omega)).trans (hW1 0 (2) (by omega))).trans (hI.trans ((hW2 235 (2) (by omega)).trans (hW1 235 (2) (by omega))).symm)
    have gL0 : LA 1 1 1 0 1 I2 := LA_f hL0 (fun j hj => (hW2 1 (j + 1) (by omega)).trans (hW1 1 (j + 1) (by omega))) (fun j hj => (hW2 236 (0 + 1 * j) (by omega)).trans (hW1 236 (0 + 1 * j) (by omega)))
    have gB0 : LB 1 1 1 0 1 I2 := LB_f hB0 ((hW2 0 (2) (by omega)).trans (hW1 0 (2) (by omega))) (fun j hj => (hW2 102 (j + 1) (by omega)).trans (hW1 102 (j + 1) (by omega))) (fun j hj => (hW2 237 (0 + 1 * j) (by omega)).trans (hW1 237 (0 + 1 * j) (by omega)))
    have gL1 : LA 4 0 5 4 1 I2 := LA_f hL1 (fun j hj => (hW2 4 (j + 0) (by omega)).trans (hW1 4 (j + 0) (by omega))) (fun j hj => (hW2 236 (4 + 1 * j) (by omega)).trans (hW1 236 (4 + 1 * j) (by omega)))
    have gB1 : LB 4 0 5 4 1 I2 := LB_f hB1 ((hW2 0 (2) (by omega)).trans (hW1 0 (2) (by omega))) (fun j hj => (hW2 105 (j + 0) (by omega)).trans (hW1 105 (j + 0) (by omega))) (fun j hj => (hW2 237 (4 + 1 * j) (by omega)).trans (hW1 237 (4 + 1 * j) (by omega)))
    have gL2 : LA 12 6 1 1 1 I2 := LA_f hL2 (fun j hj => (hW2 12 (j + 6) (by omega)).trans (hW1 12 (j + 6) (by omega))) (fun j hj => (hW2 236 (1 + 1 * j) (by omega)).trans (hW1 236 (1 + 1 * j) (by omega)))
    have gB2 : LB 12 6 1 1 1 I2 := LB_f hB2 ((hW2 0 (2) (by omega)).trans (hW1 0 (2) (by omega))) (fun j hj => (hW2 113 (j + 6) (by omega)).trans (hW1 113 (j + 6) (by omega))) (fun j hj => (hW2 237 (1 + 1 * j) (by omega)).trans (hW1 237 (1 + 1 * j) (by omega)))
    have gL3 : LA 15 0 20 188 6 I2 := LA_f hL3 (fun j hj => (hW2 15 (j + 0) (by omega)).trans (hW1 15 (j + 0) (by omega))) (fun j hj => (hW2 236 (188 + 6 * j) (by omega)).trans (hW1 236 (188 + 6 * j) (by omega)))
    have gB3 : LB 15 0 20 188 6 I2 := LB_f hB3 ((hW2 0 (2) (by omega)).trans (hW1 0 (2) (by omega))) (fun j hj => (hW2 116 (j + 0) (by omega)).trans (hW1 116 (j + 0) (by omega))) (fun j hj => (hW2 237 (188 + 6 * j) (by omega)).trans (hW1 237 (188 + 6 * j) (by omega)))
    have gL4 : LA 8 0 6 16 4 I2 := LA_f hL4 (fun j hj => (hW2 8 (j + 0) (by omega)).trans (hW1 8 (j + 0) (by omega))) (fun j hj => (hW2 236 (16 + 4 * j) (by omega)).trans (hW1 236 (16 + 4 * j) (by omega)))
    have gB4 : LB 8 0 6 16 4 I2 := LB_f hB4 ((hW2 0 (2) (by omega)).trans (hW1 0 (2) (by omega))) (fun j hj => (hW2 109 (j + 0) (by omega)).trans (hW1 109 (j + 0) (by omega))) (fun j hj => (hW2 237 (16 + 4 * j) (by omega)).trans (hW1 237 (16 + 4 * j) (by omega)))
    exact ⟨gI, gL0, gB0, gL1, gB1, gL2, gB2, gL3, gB3, gL4, gB4, gLH, gLN, gLPc, gLPk, gLTc, gLTk, gLGc, gLGk, gLRc, gLRk⟩
  exact law_tail h ih hF hR2 hK2
theorem law_c17 (h : Bd G i) (ih : NXT G i) (hF : FS F) (hR : Rg I) (hK : LK I) : GoN G 1000 kL_law 0 NP 823 (lvl i) [] F I Qlw := by
  refine law_wp law_oc ckL_law [1665] ?_
  refine ⟨rfl, ixl h (by decide), ixh h (by decide), ?_⟩
  refine ⟨rfl, ixl h (by decide), ixh h (by decide), ?_⟩
  refine ⟨rfl, ixl h (by decide), ixh h (by decide), ?_⟩
  refine ⟨⟨_, rfl, (by decide)⟩, ?_⟩
  refine c_curve hF hR  (fun r1 I1 hR1 hA1 hr1 hW1 => ?_)
  refine ⟨rfl, ixl h (by decide), ixh h (by decide), ?_⟩
  refine ⟨rfl, ixl h (by decide), ixh h (by decide), ?_⟩
  refine ⟨rfl, ixl h (by decide), ixh h (by decide), ?_⟩
  refine ⟨⟨_, rfl, (by decide)⟩, ?_⟩
  refine r_curve hF hR1  (fun r2 I2 hR2 hA2 hr2 hW2 => ?_)
  have hK2 : LK I2 := by
    have hI : I 0 2 = I 235 2 := hK.1
    have hL0 : LA 1 1 1 0 1 I := hK.2.1
    have hB0 : LB 1 1 1 0 1 I := hK.2.2.1
    have hL1 : LA 4 0 5 4 1 I := hK.2.2.2.1
    have hB1 : LB 4 0 5 4 1 I := hK.2.2.2.2.1
    have hL2 : LA 12 6 1 1 1 I := hK.2.2.2.2.2.1
    have hB2 : LB 12 6 1 1 1 I := hK.2.2.2.2.2.2.1
    have hL3 : LA 15 0 20 188 6 I := hK.2.2.2.2.2.2.2.1
    have hB3 : LB 15 0 20 188 6 I := hK.2.2.2.2.2.2.2.2.1
    have hL4 : LA 8 0 6 16 4 I := hK.2.2.2.2.2.2.2.2.2.1
    have hB4 : LB 8 0 6 16 4 I := hK.2.2.2.2.2.2.2.2.2.2.1
    have hLH : LH I := hK.2.2.2.2.2.2.2.2.2.2.2.1
    have hLN : LN I := hK.2.2.2.2.2.2.2.2.2.2.2.2.1
    have hLPc : LPc I := hK.2.2.2.2.2.2.2.2.2.2.2.2.2.1
    have hLPk : LPk I := hK.2.2.2.2.2.2.2.2.2.2.2.2.2.2.1
    have hLTc : LTc I := hK.2.2.2.2.2.2.2.2.2.2.2.2.2.2.2.1
    have hLTk : LTk I := hK.2.2.2.2.2.2.2.2.2.2.2.2.2.2.2.2.1
    have hLGc : LGc I := hK.2.2.2.2.2.2.2.2.2.2.2.2.2.2.2.2.2.1
    have hLGk : LGk I := hK.2.2.2.2.2.2.2.2.2.2.2.2.2.2.2.2.2.2.1
    have hLRc : LRc I := hK.2.2.2.2.2.2.2.2.2.2.2.2.2.2.2.2.2.2.2.1
    have hLRk : LRk I := hK.2.2.2.2.2.2.2.2.2.2.2.2.2.2.2.2.2.2.2.2
    have gLH : LH I2 := LH_f hLH (fun s hs => ⟨(hW2 (227 + 2 * s) 0 (by omega)).trans (hW1 (227 + 2 * s) 0 (by omega)), (hW2 (227 + 2 * s) 1 (by omega)).trans (hW1 (227 + 2 * s) 1 (by omega))⟩) (fun s hs => ⟨(hW2 250 s (by omega)).trans (hW1 250 s (by omega)), (hW2 251 s (by omega)).trans (hW1 251 s (by omega))⟩)
    have gLN : LN I2 := LN_f hLN (fun s j hs hj => (hW2 (228 + 2 * s) j (by omega)).trans (hW1 (228 + 2 * s) j (by omega))) (fun s j hs hj => (hW2 252 (24 * s + j) (by omega)).trans (hW1 252 (24 * s + j) (by omega)))
    have gLPc : LPc I2 := LPc_f hR hLPc ((hW2 236 0 (by omega)).trans (hW1 236 0 (by omega))) (fun k j h1 h2 h3 => (hW2 k j (by omega)).trans (hW1 k j (by omega))) (fun j h1 h2 h3 h4 => (hW2 236 j (by omega)).trans (hW1 236 j (by omega)))
    have gLPk : LPk I2 := LPk_f hR hLPk ((hW2 0 2 (by omega)).trans (hW1 0 2 (by omega))) (fun k j h1 h2 => (hW2 k j (by omega)).trans (hW1 k j (by omega))) (fun j => (hW2 237 j (by omega)).trans (hW1 237 j (by omega)))
    have gLTc : LTc I2 := LTc_f hR hLTc ((hW2 1 (5) (by omega)).trans (hW1 1 (5) (by omega))) (fun j => (hW2 5 (j) (by omega)).trans (hW1 5 (j) (by omega))) ((hW2 236 (2) (by omega)).trans (hW1 236 (2) (by omega))) (fun j h1 h2 => (hW2 236 (j) (by omega)).trans (hW1 236 (j) (by omega)))
    have gLTk : LTk I2 := LTk_f hLTk ((hW2 0 (2) (by omega)).trans (hW1 0 (2) (by omega))) ((hW2 102 (5) (by omega)).trans (hW1 102 (5) (by omega))) (fun j => (hW2 106 (j) (by omega)).trans (hW1 106 (j) (by omega))) (fun j => (hW2 237 (j) (by omega)).trans (hW1 237 (j) (by omega)))
    have gLGc : LGc I2 := LGc_f hLGc (fun k j h1 h2 => (hW2 k j (by omega)).trans (hW1 k j (by omega))) (fun j h1 h2 => (hW2 236 (j) (by omega)).trans (hW1 236 (j) (by omega)))
    have gLGk : LGk I2 := LGk_f hLGk ((hW2 0 (2) (by omega)).trans (hW1 0 (2) (by omega))) (fun k j h1 h2 => (hW2 k j (by omega)).trans (hW1 k j (by omega))) (fun j => (hW2 237 (j) (by omega)).trans (hW1 237 (j) (by omega)))
    have gLRc : LRc I2 := LRc_f hR hLRc ((hW2 236 0 (by omega)).trans (hW1 236 0 (by omega))) (fun k j h1 h2 h3 h4 => (hW2 k j (by omega)).trans (hW1 k j (by omega))) (fun j h1 h2 h3 => (hW2 236 (j) (by omega)).trans (hW1 236 (j) (by omega)))
    have gLRk : LRk I2 := LRk_f hR hLRk ((hW2 0 2 (by omega)).trans (hW1 0 2 (by omega))) (fun k j h1 h2 => (hW2 k j (by omega)).trans (hW1 k j (by omega))) (fun j => (hW2 237 j (by omega)).trans (hW1 237 j (by omega)))
    have gI : LI I2 := ((hW2 0 (2) (by omega)).trans (hW1 0 (2) (by omega))).trans (hI.trans ((hW2 235 (2) (by omega)).trans (hW1 235 (2) (by omega))).symm)
    have gL0 : LA 1 1 1 0 1 I2 := LA_f hL0 (fun j hj => (hW2 1 (j + 1) (by omega)).trans (hW1 1 (j + 1) (by omega))) (fun j hj => (hW2 236 (0 + 1 * j) (by omega)).trans (hW1 236 (0 + 1 * j) (by omega)))
    have gB0 : LB 1 1 1 0 1 I2 := LB_f hB0 ((hW2 0 (2) (by omega)).trans (hW1 0 (2) (by omega))) (fun j hj => (hW2 102 (j + 1) (by omega)).trans (hW1 102 (j + 1) (by omega))) (fun j hj => (hW2 237 (0 + 1 * j) (by omega)).trans (hW1 237 (0 + 1 * j) (by omega)))
    have gL1 : LA 4 0 5 4 1 I2 := LA_f hL1 (fun j hj => (hW2 4 (j + 0) (by omega)).trans (hW1 4 (j + 0) (by omega))) (fun j hj => (hW2 236 (4 + 1 * j) (by omega)).trans (hW1 236 (4 + 1 * j) (by omega)))
    have gB1 : LB 4 0 5 4 1 I2 := LB_f hB1 ((hW2 0 (2) (by omega)).trans (hW1 0 (2) (by omega))) (fun j hj => (hW2 105 (j + 0) (by omega)).trans (hW1 105 (j + 0) (by omega))) (fun j hj => (hW2 237 (4 + 1 * j) (by omega)).trans (hW1 237 (4 + 1 * j) (by omega)))
    have gL2 : LA 12 6 1 1 1 I2 := LA_f hL2 (fun j hj => (hW2 12 (j + 6) (by omega)).trans (hW1 12 (j + 6) (by omega))) (fun j hj => (hW2 236 (1 + 1 * j) (by omega)).trans (hW1 236 (1 + 1 * j) (by omega)))
    have gB2 : LB 12 6 1 1 1 I2 := LB_f hB2 ((hW2 0 (2) (by omega)).trans (hW1 0 (2) (by omega))) (fun j hj => (hW2 113 (j + 6) (by omega)).trans (hW1 113 (j + 6) (by omega))) (fun j hj => (hW2 237 (1 + 1 * j) (by omega)).trans (hW1 237 (1 + 1 * j) (by omega)))
    have gL3 : LA 15 0 20 188 6 I2 := LA_f hL3 (fun j hj => (hW2 15 (j + 0) (by omega)).trans (hW1 15 (j + 0) (by omega))) (fun j hj => (hW2 236 (188 + 6 * j) (by omega)).trans (hW1 236 (188 + 6 * j) (by omega)))
    have gB3 : LB 15 0 20 188 6 I2 := LB_f hB3 ((hW2 0 (2) (by omega)).trans (hW1 0 (2) (by omega))) (fun j hj => (hW2 116 (j + 0) (by omega)).trans (hW1 116 (j + 0) (by omega))) (fun j hj => (hW2 237 (188 + 6 * j) (by omega)).trans (hW1 237 (188 + 6 * j) (by omega)))
    have gL4 : LA 8 0 6 16 4 I2 := LA_f hL4 (fun j hj => (hW2 8 (j + 0) (by omega)).trans (hW1 8 (j + 0) (by omega))) (fun j hj => (hW2 236 (16 + 4 * j) (by omega)).trans (hW1 236 (16 + 4 * j) (by omega)))
    have gB4 : LB 8 0 6 16 4 I2 := LB_f hB4 ((hW2 0 (2) (by omega)).trans (hW1 0 (2) (by omega))) (fun j hj => (hW2 109 (j + 0) (by omega)).trans (hW1 109 (j + 0) (by omega))) (fun j hj => (hW2 237 (16 + 4 * j) (by omega)).trans (hW1 237 (16 + 4 * j) (by omega)))
    exact ⟨gI, gL0, gB0, gL1, gB1, gL2, gB2, gL3, gB3, gL4, gB4, gLH, gLN, gLPc, gLPk, gLTc, gLTk, gLGc, gLGk, gLRc, gLRk⟩
  exact law_tail h ih hF hR2 hK2
theorem law_c18 (h : Bd G i) (ih : NXT G i) (hF : FS F) (hR : Rg I) (hK : LK I) : GoN G 1000 kL_law 0 NP 866 (lvl i) [] F I Qlw := by
  refine law_wp law_oc ckL_law [1665] ?_
  refine ⟨rfl, ixl h (by decide), ixh h (by decide), ?_⟩
  refine ⟨rfl, ixl h (by decide), ixh h (by decide), ?_⟩
  refine ⟨rfl, ixl h (by decide), ixh h (by decide), ?_⟩
  refine ⟨⟨_, rfl, (by decide)⟩, ?_⟩
  refine c_odd hF hR  (fun r1 I1 hR1 hA1 hr1 hW1 => ?_)
  refine ⟨rfl, ixl h (by decide), ixh h (by decide), ?_⟩
  refine ⟨rfl, ixl h (by decide), ixh h (by decide), ?_⟩
  refine ⟨rfl, ixl h (by decide), ixh h (by decide), ?_⟩
  refine ⟨⟨_, rfl, (by decide)⟩, ?_⟩
  refine r_odd hF hR1  (fun r2 I2 hR2 hA2 hr2 hW2 => ?_)
  have hK2 : LK I2 := by
    have hI : I 0 2 = I 235 2 := hK.1
    have hL0 : LA 1 1 1 0 1 I := hK.2.1
    have hB0 : LB 1 1 1 0 1 I := hK.2.2.1
    have hL1 : LA 4 0 5 4 1 I := hK.2.2.2.1
    have hB1 : LB 4 0 5 4 1 I := hK.2.2.2.2.1
    have hL2 : LA 12 6 1 1 1 I := hK.2.2.2.2.2.1
    have hB2 : LB 12 6 1 1 1 I := hK.2.2.2.2.2.2.1
    have hL3 : LA 15 0 20 188 6 I := hK.2.2.2.2.2.2.2.1
    have hB3 : LB 15 0 20 188 6 I := hK.2.2.2.2.2.2.2.2.1
    have hL4 : LA 8 0 6 16 4 I := hK.2.2.2.2.2.2.2.2.2.1
    have hB4 : LB 8 0 6 16 4 I := hK.2.2.2.2.2.2.2.2.2.2.1
    have hLH : LH I := hK.2.2.2.2.2.2.2.2.2.2.2.1
    have hLN : LN I := hK.2.2.2.2.2.2.2.2.2.2.2.2.1
    have hLPc : LPc I := hK.2.2.2.2.2.2.2.2.2.2.2.2.2.1
    have hLPk : LPk I := hK.2.2.2.2.2.2.2.2.2.2.2.2.2.2.1
    have hLTc : LTc I := hK.2.2.2.2.2.2.2.2.2.2.2.2.2.2.2.1
    have hLTk : LTk I := hK.2.2.2.2.2.2.2.2.2.2.2.2.2.2.2.2.1
    have hLGc : LGc I := hK.2.2.2.2.2.2.2.2.2.2.2.2.2.2.2.2.2.1
    have hLGk : LGk I := hK.2.2.2.2.2.2.2.2.2.2.2.2.2.2.2.2.2.2.1
    have hLRc : LRc I := hK.2.2.2.2.2.2.2.2.2.2.2.2.2.2.2.2.2.2.2.1
    have hLRk : LRk I := hK.2.2.2.2.2.2.2.2.2.2.2.2.2.2.2.2.2.2.2.2
    have gLH : LH I2 := LH_f hLH (fun s hs => ⟨(hW2 (227 + 2 * s) 0 (by omega)).trans (hW1 (227 + 2 * s) 0 (by omega)), (hW2 (227 + 2 * s) 1 (by omega)).trans (hW1 (227 + 2 * s) 1 (by omega))⟩) (fun s hs => ⟨(hW2 250 s (by omega)).trans (hW1 250 s (by omega)), (hW2 251 s (by omega)).trans (hW1 251 s (by omega))⟩)
    have gLN : LN I2 := LN_f hLN (fun s j hs hj => (hW2 (228 + 2 * s) j (by omega)).trans (hW1 (228 + 2 * s) j (by omega))) (fun s j hs hj => (hW2 252 (24 * s + j) (by omega)).trans (hW1 252 (24 * s + j) (by omega)))
    have gLPc : LPc I2 := LPc_f hR hLPc ((hW2 236 0 (by omega)).trans (hW1 236 0 (by omega))) (fun k j h1 h2 h3 => (hW2 k j (by omega)).trans (hW1 k j (by omega))) (fun j h1 h2 h3 h4 => (hW2 236 j (by omega)).trans (hW1 236 j (by omega)))
    have gLPk : LPk I2 := LPk_f hR hLPk ((hW2 0 2 (by omega)).trans (hW1 0 2 (by omega))) (fun k j h1 h2 => (hW2 k j (by omega)).trans (hW1 k j (by omega))) (fun j => (hW2 237 j (by omega)).trans (hW1 237 j (by omega)))
    have gLTc : LTc I2 := LTc_f hR hLTc ((hW2 1 (5) (by omega)).trans (hW1 1 (5) (by omega))) (fun j => (hW2 5 (j) (by omega)).trans (hW1 5 (j) (by omega))) ((hW2 236 (2) (by omega)).trans (hW1 236 (2) (by omega))) (fun j h1 h2 => (hW2 236 (j) (by omega)).trans (hW1 236 (j) (by omega)))
    have gLTk : LTk I2 := LTk_f hLTk ((hW2 0 (2) (by omega)).trans (hW1 0 (2) (by omega))) ((hW2 102 (5) (by omega)).trans (hW1 102 (5) (by omega))) (fun j => (hW2 106 (j) (by omega)).trans (hW1 106 (j) (by omega))) (fun j => (hW2 237 (j) (by omega)).trans (hW1 237 (j) (by omega)))
    have gLGc : LGc I2 := LGc_f hLGc (fun k j h1 h2 => (hW2 k j (by omega)).trans (hW1 k j (by omega))) (fun j h1 h2 => (hW2 236 (j) (by omega)).trans (hW1 236 (j) (by omega)))
    have gLGk : LGk I2 := LGk_f hLGk ((hW2 0 (2) (by omega)).trans (hW1 0 (2) (by omega))) (fun k j h1 h2 => (hW2 k j (by omega)).trans (hW1 k j (by omega))) (fun j => (hW2 237 (j) (by omega)).trans (hW1 237 (j) (by omega)))
    have gLRc : LRc I2 := LRc_f hR hLRc ((hW2 236 0 (by omega)).trans (hW1 236 0 (by omega))) (fun k j h1 h2 h3 h4 => (hW2 k j (by omega)).trans (hW1 k j (by omega))) (fun j h1 h2 h3 => (hW2 236 (j) (by omega)).trans (hW1 236 (j) (by omega)))
    have gLRk : LRk I2 := LRk_f hR hLRk ((hW2 0 2 (by omega)).trans (hW1 0 2 (by omega))) (fun k j h1 h2 => (hW2 k j (by omega)).trans (hW1 k j (by omega))) (fun j => (hW2 237 j (by omega)).trans (hW1 237 j (by omega)))
    have gI : LI I2 := ((hW2 0 (2) (by omega)).trans (hW1 0 (2) (by omega))).trans (hI.trans ((hW2 235 (2) (by omega)).trans (hW1 235 (2) (by omega))).symm)
    have gL0 : LA 1 1 1 0 1 I2 := LA_f hL0 (fun j hj => (hW2 1 (j + 1) (by omega)).trans (hW1 1 (j + 1) (by omega))) (fun j hj => (hW2 236 (0 + 1 * j) (by omega)).trans (hW1 236 (0 + 1 * j) (by omega)))
    have gB0 : LB 1 1 1 0 1 I2 := LB_f hB0 ((hW2 0 (2) (by omega)).trans (hW1 0 (2) (by omega))) (fun j hj => (hW2 102 (j + 1) (by omega)).trans (hW1 102 (j + 1) (by omega))) (fun j hj => (hW2 237 (0 + 1 * j) (by omega)).trans (hW1 237 (0 + 1 * j) (by omega)))
    have gL1 : LA 4 0 5 4 1 I2 := LA_f hL1 (fun j hj => (hW2 4 (j + 0) (by omega)).trans (hW1 4 (j + 0) (by omega))) (fun j hj => (hW2 236 (4 + 1 * j) (by omega)).trans (hW1 236 (4 + 1 * j) (by omega)))
    have gB1 : LB 4 0 5 4 1 I2 := LB_f hB1 ((hW2 0 (2) (by omega)).trans (hW1 0 (2) (by omega))) (fun j hj => (hW2 105 (j + 0) (by omega)).trans (hW1 105 (j + 0) (by omega))) (fun j hj => (hW2 237 (4 + 1 * j) (by omega)).trans (hW1 237 (4 + 1 * j) (by omega)))
    have gL2 : LA 12 6 1 1 1 I2 := LA_f hL2 (fun j hj => (hW2 12 (j + 6) (by omega)).trans (hW1 12 (j + 6) (by omega))) (fun j hj => (hW2 236 (1 + 1 * j) (by omega)).trans (hW1 236 (1 + 1 * j) (by omega)))
    have gB2 : LB 12 6 1 1 1 I2 := LB_f hB2 ((hW2 0 (2) (by omega)).trans (hW1 0 (2) (by omega))) (fun j hj => (hW2 113 (j + 6) (by omega)).trans (hW1 113 (j + 6) (by omega))) (fun j hj => (hW2 237 (1 + 1 * j) (by omega)).trans (hW1 237 (1 + 1 * j) (by omega)))
    have gL3 : LA 15 0 20 188 6 I2 := LA_f hL3 (fun j hj => (hW2 15 (j + 0) (by omega)).trans (hW1 15 (j + 0) (by omega))) (fun j hj => (hW2 236 (188 + 6 * j) (by omega)).trans (hW1 236 (188 + 6 * j) (by omega)))
    have gB3 : LB 15 0 20 188 6 I2 := LB_f hB3 ((hW2 0 (2) (by omega)).trans (hW1 0 (2) (by omega))) (fun j hj => (hW2 116 (j + 0) (by omega)).trans (hW1 116 (j + 0) (by omega))) (fun j hj => (hW2 237 (188 + 6 * j) (by omega)).trans (hW1 237 (188 + 6 * j) (by omega)))
    have gL4 : LA 8 0 6 16 4 I2 := LA_f hL4 (fun j hj => (hW2 8 (j + 0) (by omega)).trans (hW1 8 (j + 0) (by omega))) (fun j hj => (hW2 236 (16 + 4 * j) (by omega)).trans (hW1 236 (16 + 4 * j) (by omega)))
    have gB4 : LB 8 0 6 16 4 I2 := LB_f hB4 ((hW2 0 (2) (by omega)).trans (hW1 0 (2) (by omega))) (fun j hj => (hW2 109 (j + 0) (by omega)).trans (hW1 109 (j + 0) (by omega))) (fun j hj => (hW2 237 (16 + 4 * j) (by omega)).trans (hW1 237 (16 + 4 * j) (by omega)))
    exact ⟨gI, gL0, gB0, gL1, gB1, gL2, gB2, gL3, gB3, gL4, gB4, gLH, gLN, gLPc, gLPk, gLTc, gLTk, gLGc, gLGk, gLRc, gLRk⟩
  exact law_tail h ih hF hR2 hK2
theorem law_c19 (h : Bd G i) (ih : NXT G i) (hF : FS F) (hR : Rg I) (hK : LK I) : GoN G 1000 kL_law 0 NP 909 (lvl i) [] F I Qlw := by
  refine law_wp law_oc ckL_law [1665] ?_
  refine ⟨rfl, ixl h (by decide), ixh h (by decide), ?_⟩
  refine ⟨rfl, ixl h (by decide), ixh h (by decide), ?_⟩
  refine ⟨rfl, ixl h (by decide), ixh h (by decide), ?_⟩
  refine ⟨rfl, ixl h (by decide), ixh h (by decide), ?_⟩
  refine ⟨⟨_, rfl, (by decide)⟩, ?_⟩
  refine c_sure hF hR  (fun r1 I1 hR1 hA1 hr1 hW1 => ?_)
  refine ⟨rfl, ixl h (by decide), ixh h (by decide), ?_⟩
  refine ⟨rfl, ixl h (by decide), ixh h (by decide), ?_⟩
  refine ⟨rfl, ixl h (by decide), ixh h (by decide), ?_⟩
  refine ⟨rfl, ixl h (by decide), ixh h (by decide), ?_⟩
  refine ⟨⟨_, rfl, (by decide)⟩, ?_⟩
  refine r_sure hF hR1  (fun r2 I2 hR2 hA2 hr2 hW2 => ?_)
  have hK2 : LK I2 := by
    have hI : I 0 2 = I 235 2 := hK.1
    have hL0 : LA 1 1 1 0 1 I := hK.2.1
    have hB0 : LB 1 1 1 0 1 I := hK.2.2.1
    have hL1 : LA 4 0 5 4 1 I := hK.2.2.2.1
    have hB1 : LB 4 0 5 4 1 I := hK.2.2.2.2.1
    have hL2 : LA 12 6 1 1 1 I := hK.2.2.2.2.2.1
    have hB2 : LB 12 6 1 1 1 I := hK.2.2.2.2.2.2.1
    have hL3 : LA 15 0 20 188 6 I := hK.2.2.2.2.2.2.2.1
    have hB3 : LB 15 0 20 188 6 I := hK.2.2.2.2.2.2.2.2.1
    have hL4 : LA 8 0 6 16 4 I := hK.2.2.2.2.2.2.2.2.2.1
    have hB4 : LB 8 0 6 16 4 I := hK.2.2.2.2.2.2.2.2.2.2.1
    have hLH : LH I := hK.2.2.2.2.2.2.2.2.2.2.2.1
    have hLN : LN I := hK.2.2.2.2.2.2.2.2.2.2.2.2.1
    have hLPc : LPc I := hK.2.2.2.2.2.2.2.2.2.2.2.2.2.1
    have hLPk : LPk I := hK.2.2.2.2.2.2.2.2.2.2.2.2.2.2.1
    have hLTc : LTc I := hK.2.2.2.2.2.2.2.2.2.2.2.2.2.2.2.1
    have hLTk : LTk I := hK.2.2.2.2.2.2.2.2.2.2.2.2.2.2.2.2.1
    have hLGc : LGc I := hK.2.2.2.2.2.2.2.2.2.2.2.2.2.2.2.2.2.1
    have hLGk : LGk I := hK.2.2.2.2.2.2.2.2.2.2.2.2.2.2.2.2.2.2.1
    have hLRc : LRc I := hK.2.2.2.2.2.2.2.2.2.2.2.2.2.2.2.2.2.2.2.1
    have hLRk : LRk I := hK.2.2.2.2.2.2.2.2.2.2.2.2.2.2.2.2.2.2.2.2
    have gLH : LH I2 := LH_f hLH (fun s hs => ⟨(hW2 (227 + 2 * s) 0 (by omega)).trans (hW1 (227 + 2 * s) 0 (by omega)), (hW2 (227 + 2 * s) 1 (by omega)).trans (hW1 (227 + 2 * s) 1 (by omega))⟩) (fun s hs => ⟨(hW2 250 s (by omega)).trans (hW1 250 s (by omega)), (hW2 251 s (by omega)).trans (hW1 251 s (by omega))⟩)
    have gLN : LN I2 := LN_f hLN (fun s j hs hj => (hW2 (228 + 2 * s) j (by omega)).trans (hW1 (228 + 2 * s) j (by omega))) (fun s j hs hj => (hW2 252 (24 * s + j) (by omega)).trans (hW1 252 (24 * s + j) (by omega)))
    have gLPc : LPc I2 := LPc_f hR hLPc ((hW2 236 0 (by omega)).trans (hW1 236 0 (by omega))) (fun k j h1 h2 h3 => (hW2 k j (by omega)).trans (hW1 k j (by omega))) (fun j h1 h2 h3 h4 => (hW2 236 j (by omega)).trans (hW1 236 j (by omega)))
    have gLPk : LPk I2 := LPk_f hR hLPk ((hW2 0 2 (by omega)).trans (hW1 0 2 (by omega))) (fun k j h1 h2 => (hW2 k j (by omega)).trans (hW1 k j (by omega))) (fun j => (hW2 237 j (by omega)).trans (hW1 237 j (by omega)))
    have gLTc : LTc I2 := LTc_f hR hLTc ((hW2 1 (5) (by omega)).trans (hW1 1 (5) (by omega))) (fun j => (hW2 5 (j) (by omega)).trans (hW1 5 (j) (by omega))) ((hW2 236 (2) (by omega)).trans (hW1 236 (2) (by omega))) (fun j h1 h2 => (hW2 236 (j) (by omega)).trans (hW1 236 (j) (by omega)))
    have gLTk : LTk I2 := LTk_f hLTk ((hW2 0 (2) (by omega)).trans (hW1 0 (2) (by omega))) ((hW2 102 (5) (by omega)).trans (hW1 102 (5) (by omega))) (fun j => (hW2 106 (j) (by omega)).trans (hW1 106 (j) (by omega))) (fun j => (hW2 237 (j) (by omega)).trans (hW1 237 (j) (by omega)))
    have gLGc : LGc I2 := LGc_f hLGc (fun k j h1 h2 => (hW2 k j (by omega)).trans (hW1 k j (by omega))) (fun j h1 h2 => (hW2 236 (j) (by omega)).trans (hW1 236 (j) (by omega)))
    have gLGk : LGk I2 := LGk_f hLGk ((hW2 0 (2) (by omega)).trans (hW1 0 (2) (by omega))) (fun k j h1 h2 => (hW2 k j (by omega)).trans (hW1 k j (by omega))) (fun j => (hW2 237 (j) (by omega)).trans (hW1 237 (j) (by omega)))
    have gLRc : LRc I2 := LRc_f hR hLRc ((hW2 236 0 (by omega)).trans (hW1 236 0 (by omega))) (fun k j h1 h2 h3 h4 => (hW2 k j (by omega)).trans (hW1 k j (by omega))) (fun j h1 h2 h3 => (hW2 236 (j) (by omega)).trans (hW1 236 (j) (by omega)))
    have gLRk : LRk I2 := LRk_f hR hLRk ((hW2 0 2 (by omega)).trans (hW1 0 2 (by omega))) (fun k j h1 h2 => (hW2 k j (by omega)).trans (hW1 k j (by omega))) (fun j => (hW2 237 j (by omega)).trans (hW1 237 j (by omega)))
    have gI : LI I2 := ((hW2 0 (2) (by omega)).trans (hW1 0 (2) (by omega))).trans (hI.trans ((hW2 235 (2) (by omega)).trans (hW1 235 (2) (by omega))).symm)
    have gL0 : LA 1 1 1 0 1 I2 := LA_f hL0 (fun j hj => (hW2 1 (j + 1) (by omega)).trans (hW1 1 (j + 1) (by omega))) (fun j hj => (hW2 236 (0 + 1 * j) (by omega)).trans (hW1 236 (0 + 1 * j) (by omega)))
    have gB0 : LB 1 1 1 0 1 I2 := LB_f hB0 ((hW2 0 (2) (by omega)).trans (hW1 0 (2) (by omega))) (fun j hj => (hW2 102 (j + 1) (by omega)).trans (hW1 102 (j + 1) (by omega))) (fun j hj => (hW2 237 (0 + 1 * j) (by omega)).trans (hW1 237 (0 + 1 * j) (by omega)))
    have gL1 : LA 4 0 5 4 1 I2 := LA_f hL1 (fun j hj => (hW2 4 (j + 0) (by omega)).trans (hW1 4 (j + 0) (by omega))) (fun j hj => (hW2 236 (4 + 1 * j) (by omega)).trans (hW1 236 (4 + 1 * j) (by omega)))
    have gB1 : LB 4 0 5 4 1 I2 := LB_f hB1 ((hW2 0 (2) (by omega)).trans (hW1 0 (2) (by omega))) (fun j hj => (hW2 105 (j + 0) (by omega)).trans (hW1 105 (j + 0) (by omega))) (fun j hj => (hW2 237 (4 + 1 * j) (by omega)).trans (hW1 237 (4 + 1 * j) (by omega)))
    have gL2 : LA 12 6 1 1 1 I2 := LA_f hL2 (fun j hj => (hW2 12 (j + 6) (by omega)).trans (hW1 12 (j + 6) (by omega))) (fun j hj => (hW2 236 (1 + 1 * j) (by omega)).trans (hW1 236 (1 + 1 * j) (by omega)))
    have gB2 : LB 12 6 1 1 1 I2 := LB_f hB2 ((hW2 0 (2) (by omega)).trans (hW1 0 (2) (by omega))) (fun j hj => (hW2 113 (j + 6) (by omega)).trans (hW1 113 (j + 6) (by omega))) (fun j hj => (hW2 237 (1 + 1 * j) (by omega)).trans (hW1 237 (1 + 1 * j) (by omega)))
    have gL3 : LA 15 0 20 188 6 I2 := LA_f hL3 (fun j hj => (hW2 15 (j + 0) (by omega)).trans (hW1 15 (j + 0) (by omega))) (fun j hj => (hW2 236 (188 + 6 * j) (by omega)).trans (hW1 236 (188 + 6 * j) (by omega)))
    have gB3 : LB 15 0 20 188 6 I2 := LB_f hB3 ((hW2 0 (2) (by omega)).trans (hW1 0 (2) (by omega))) (fun j hj => (hW2 116 (j + 0) (by omega)).trans (hW1 116 (j + 0) (by omega))) (fun j hj => (hW2 237 (188 + 6 * j) (by omega)).trans (hW1 237 (188 + 6 * j) (by omega)))
    have gL4 : LA 8 0 6 16 4 I2 := LA_f hL4 (fun j hj => (hW2 8 (j + 0) (by omega)).trans (hW1 8 (j + 0) (by omega))) (fun j hj => (hW2 236 (16 + 4 * j) (by omega)).trans (hW1 236 (16 + 4 * j) (by omega)))
    have gB4 : LB 8 0 6 16 4 I2 := LB_f hB4 ((hW2 0 (2) (by omega)).trans (hW1 0 (2) (by omega))) (fun j hj => (hW2 109 (j + 0) (by omega)).trans (hW1 109 (j + 0) (by omega))) (fun j hj => (hW2 237 (16 + 4 * j) (by omega)).trans (hW1 237 (16 + 4 * j) (by omega)))
    exact ⟨gI, gL0, gB0, gL1, gB1, gL2, gB2, gL3, gB3, gL4, gB4, gLH, gLN, gLPc, gLPk, gLTc, gLTk, gLGc, gLGk, gLRc, gLRk⟩
  exact law_tail h ih hF hR2 hK2
theorem law_c20 (h : Bd G i) (ih : NXT G i) (hF : FS F) (hR : Rg I) (hK : LK I) : GoN G 1000 kL_law 0 NP 962 (lvl i) [] F I Qlw := by
  refine law_wp law_oc ckL_law [1665] ?_
  refine ⟨rfl, ixl h (by decide), ixh h (by decide), ?_⟩
  refine ⟨rfl, ixl h (by decide), ixh h (by decide), ?_⟩
  refine ⟨⟨_, rfl, (by decide)⟩, ?_⟩
  refine c_few hF hR  (fun r1 I1 hR1 hA1 hr1 hW1 => ?_)
  refine ⟨rfl, ixl h (by decide), ixh h (by decide), ?_⟩
  refine ⟨rfl, ixl h (by decide), ixh h (by decide), ?_⟩
  refine ⟨⟨_, rfl, (by decide)⟩, ?_⟩
  refine r_few hF hR1  (fun r2 I2 hR2 hA2 hr2 hW2 => ?_)
  have hK2 : LK I2 := by
    have hI : I 0 2 = I 235 2 := hK.1
    have hL0 : LA 1 1 1 0 1 I := hK.2.1
    have hB0 : LB 1 1 1 0 1 I := hK.2.2.1
    have hL1 : LA 4 0 5 4 1 I := hK.2.2.2.1
    have hB1 : LB 4 0 5 4 1 I := hK.2.2.2.2.1
    have hL2 : LA 12 6 1 1 1 I := hK.2.2.2.2.2.1
    have hB2 : LB 12 6 1 1 1 I := hK.2.2.2.2.2.2.1
    have hL3 : LA 15 0 20 188 6 I := hK.2.2.2.2.2.2.2.1
    have hB3 : LB 15 0 20 188 6 I := hK.2.2.2.2.2.2.2.2.1
    have hL4 : LA 8 0 6 16 4 I := hK.2.2.2.2.2.2.2.2.2.1
    have hB4 : LB 8 0 6 16 4 I := hK.2.2.2.2.2.2.2.2.2.2.1
    have hLH : LH I := hK.2.2.2.2.2.2.2.2.2.2.2.1
    have hLN : LN I := hK.2.2.2.2.2.2.2.2.2.2.2.2.1
    have hLPc : LPc I := hK.2.2.2.2.2.2.2.2.2.2.2.2.2.1
    have hLPk : LPk I := hK.2.2.2.2.2.2.2.2.2.2.2.2.2.2.1
    have hLTc : LTc I := hK.2.2.2.2.2.2.2.2.2.2.2.2.2.2.2.1
    have hLTk : LTk I := hK.2.2.2.2.2.2.2.2.2.2.2.2.2.2.2.2.1
    have hLGc : LGc I := hK.2.2.2.2.2.2.2.2.2.2.2.2.2.2.2.2.2.1
    have hLGk : LGk I := hK.2.2.2.2.2.2.2.2.2.2.2.2.2.2.2.2.2.2.1
    have hLRc : LRc I := hK.2.2.2.2.2.2.2.2.2.2.2.2.2.2.2.2.2.2.2.1
    have hLRk : LRk I := hK.2.2.2.2.2.2.2.2.2.2.2.2.2.2.2.2.2.2.2.2
    have gLH : LH I2 := LH_f hLH (fun s hs => ⟨(hW2 (227 + 2 * s) 0 (by omega)).trans (hW1 (227 + 2 * s) 0 (by omega)), (hW2 (227 + 2 * s) 1 (by omega)).trans (hW1 (227 + 2 * s) 1 (by omega))⟩) (fun s hs => ⟨(hW2 250 s (by omega)).trans (hW1 250 s (by omega)), (hW2 251 s (by omega)).trans (hW1 251 s (by omega))⟩)
    have gLN : LN I2 := LN_f hLN (fun s j hs hj => (hW2 (228 + 2 * s) j (by omega)).trans (hW1 (228 + 2 * s) j (by omega))) (fun s j hs hj => (hW2 252 (24 * s + j) (by omega)).trans (hW1 252 (24 * s + j) (by omega)))
    have gLPc : LPc I2 := LPc_f hR hLPc ((hW2 236 0 (by omega)).trans (hW1 236 0 (by omega))) (fun k j h1 h2 h3 => (hW2 k j (by omega)).trans (hW1 k j (by omega))) (fun j h1 h2 h3 h4 => (hW2 236 j (by omega)).trans (hW1 236 j (by omega)))
    have gLPk : LPk I2 := LPk_f hR hLPk ((hW2 0 2 (by omega)).trans (hW1 0 2 (by omega))) (fun k j h1 h2 => (hW2 k j (by omega)).trans (hW1 k j (by omega))) (fun j => (hW2 237 j (by omega)).trans (hW1 237 j (by omega)))
    have gLTc : LTc I2 := LTc_f hR hLTc ((hW2 1 (5) (by omega)).trans (hW1 1 (5) (by omega))) (fun j => (hW2 5 (j) (by omega)).trans (hW1 5 (j) (by omega))) ((hW2 236 (2) (by omega)).trans (hW1 236 (2) (by omega))) (fun j h1 h2 => (hW2 236 (j) (by omega)).trans (hW1 236 (j) (by omega)))
    have gLTk : LTk I2 := LTk_f hLTk ((hW2 0 (2) (by omega)).trans (hW1 0 (2) (by omega))) ((hW2 102 (5) (by omega)).trans (hW1 102 (5) (by omega))) (fun j => (hW2 106 (j) (by omega)).trans (hW1 106 (j) (by omega))) (fun j => (hW2 237 (j) (by omega)).trans (hW1 237 (j) (by omega)))
    have gLGc : LGc I2 := LGc_f hLGc (fun k j h1 h2 => (hW2 k j (by omega)).trans (hW1 k j (by omega))) (fun j h1 h2 => (hW2 236 (j) (by omega)).trans (hW1 236 (j) (by omega)))
    have gLGk : LGk I2 := LGk_f hLGk ((hW2 0 (2) (by omega)).trans (hW1 0 (2) (by omega))) (fun k j h1 h2 => (hW2 k j (by omega)).trans (hW1 k j (by omega))) (fun j => (hW2 237 (j) (by omega)).trans (hW1 237 (j) (by omega)))
    have gLRc : LRc I2 := LRc_f hR hLRc ((hW2 236 0 (by omega)).trans (hW1 236 0 (by omega))) (fun k j h1 h2 h3 h4 => (hW2 k j (by omega)).trans (hW1 k j (by omega))) (fun j h1 h2 h3 => (hW2 236 (j) (by omega)).trans (hW1 236 (j) (by omega)))
    have gLRk : LRk I2 := LRk_f hR hLRk ((hW2 0 2 (by omega)).trans (hW1 0 2 (by omega))) (fun k j h1 h2 => (hW2 k j (by omega)).trans (hW1 k j (by omega))) (fun j => (hW2 237 j (by omega)).trans (hW1 237 j (by omega)))
    have gI : LI I2 := ((hW2 0 (2) (by omega)).trans (hW1 0 (2) (by omega))).trans (hI.trans ((hW2 235 (2) (by omega)).trans (hW1 235 (2) (by omega))).symm)
    have gL0 : LA 1 1 1 0 1 I2 := LA_f hL0 (fun j hj => (hW2 1 (j + 1) (by omega)).trans (hW1 1 (j + 1) (by omega))) (fun j hj => (hW2 236 (0 + 1 * j) (by omega)).trans (hW1 236 (0 + 1 * j) (by omega)))
    have gB0 : LB 1 1 1 0 1 I2 := LB_f hB0 ((hW2 0 (2) (by omega)).trans (hW1 0 (2) (by omega))) (fun j hj => (hW2 102 (j + 1) (by omega)).trans (hW1 102 (j + 1) (by omega))) (fun j hj => (hW2 237 (0 + 1 * j) (by omega)).trans (hW1 237 (0 + 1 * j) (by omega)))
    have gL1 : LA 4 0 5 4 1 I2 := LA_f hL1 (fun j hj => (hW2 4 (j + 0) (by omega)).trans (hW1 4 (j + 0) (by omega))) (fun j hj => (hW2 236 (4 + 1 * j) (by omega)).trans (hW1 236 (4 + 1 * j) (by omega)))
    have gB1 : LB 4 0 5 4 1 I2 := LB_f hB1 ((hW2 0 (2) (by omega)).trans (hW1 0 (2) (by omega))) (fun j hj => (hW2 105 (j + 0) (by omega)).trans (hW1 105 (j + 0) (by omega))) (fun j hj => (hW2 237 (4 + 1 * j) (by omega)).trans (hW1 237 (4 + 1 * j) (by omega)))
    have gL2 : LA 12 6 1 1 1 I2 := LA_f hL2 (fun j hj => (hW2 12 (j + 6) (by omega)).trans (hW1 12 (j + 6) (by omega))) (fun j hj => (hW2 236 (1 + 1 * j) (by omega)).trans (hW1 236 (1 + 1 * j) (by omega)))
    have gB2 : LB 12 6 1 1 1 I2 := LB_f hB2 ((hW2 0 (2) (by omega)).trans (hW1 0 (2) (by omega))) (fun j hj => (hW2 113 (j + 6) (by omega)).trans (hW1 113 (j + 6) (by omega))) (fun j hj => (hW2 237 (1 + 1 * j) (by omega)).trans (hW1 237 (1 + 1 * j) (by omega)))
    have gL3 : LA 15 0 20 188 6 I2 := LA_f hL3 (fun j hj => (hW2 15 (j + 0) (by omega)).trans (hW1 15 (j + 0) (by omega))) (fun j hj => (hW2 236 (188 + 6 * j) (by omega)).trans (hW1 236 (188 + 6 * j) (by omega)))
    have gB3 : LB 15 0 20 188 6 I2 := LB_f hB3 ((hW2 0 (2) (by omega)).trans (hW1 0 (2) (by omega))) (fun j hj => (hW2 116 (j + 0) (by omega)).trans (hW1 116 (j + 0) (by omega))) (fun j hj => (hW2 237 (188 + 6 * j) (by omega)).trans (hW1 237 (188 + 6 * j) (by omega)))
    have gL4 : LA 8 0 6 16 4 I2 := LA_f hL4 (fun j hj => (hW2 8 (j + 0) (by omega)).trans (hW1 8 (j + 0) (by omega))) (fun j hj => (hW2 236 (16 + 4 * j) (by omega)).trans (hW1 236 (16 + 4 * j) (by omega)))
    have gB4 : LB 8 0 6 16 4 I2 := LB_f hB4 ((hW2 0 (2) (by omega)).trans (hW1 0 (2) (by omega))) (fun j hj => (hW2 109 (j + 0) (by omega)).trans (hW1 109 (j + 0) (by omega))) (fun j hj => (hW2 237 (16 + 4 * j) (by omega)).trans (hW1 237 (16 + 4 * j) (by omega)))
    exact ⟨gI, gL0, gB0, gL1, gB1, gL2, gB2, gL3, gB3, gL4, gB4, gLH, gLN, gLPc, gLPk, gLTc, gLTk, gLGc, gLGk, gLRc, gLRk⟩
  exact law_tail h ih hF hR2 hK2
theorem law_c21 (h : Bd G i) (ih : NXT G i) (hF : FS F) (hR : Rg I) (hK : LK I) : GoN G 1000 kL_law 0 NP 995 (lvl i) [] F I Qlw := by
  refine law_wp law_oc ckL_law [1665] ?_
  refine ⟨rfl, ixl h (by decide), ixh h (by decide), ?_⟩
  refine ⟨rfl, ixl h (by decide), ixh h (by decide), ?_⟩
  refine ⟨rfl, ixl h (by decide), ixh h (by decide), ?_⟩
  refine ⟨rfl, ixl h (by decide), ixh h (by decide), ?_⟩
  refine ⟨⟨_, rfl, (by decide)⟩, ?_⟩
  refine c_prove8 hF hR  (fun r1 I1 hR1 hA1 hr1 hW1 q1a => ?_)
  refine ⟨rfl, ixl h (by decide), ixh h (by decide), ?_⟩
  refine ⟨rfl, ixl h (by decide), ixh h (by decide), ?_⟩
  refine ⟨rfl, ixl h (by decide), ixh h (by decide), ?_⟩
  refine ⟨rfl, ixl h (by decide), ixh h (by decide), ?_⟩
  refine ⟨⟨_, rfl, (by decide)⟩, ?_⟩
  refine r_prove8 hF hR1  (fun r2 I2 hR2 hA2 hr2 hW2 q2a => ?_)
  have hK2 : LK I2 := by
    have hI : I 0 2 = I 235 2 := hK.1
    have hL0 : LA 1 1 1 0 1 I := hK.2.1
    have hB0 : LB 1 1 1 0 1 I := hK.2.2.1
    have hL1 : LA 4 0 5 4 1 I := hK.2.2.2.1
    have hB1 : LB 4 0 5 4 1 I := hK.2.2.2.2.1
    have hL2 : LA 12 6 1 1 1 I := hK.2.2.2.2.2.1
    have hB2 : LB 12 6 1 1 1 I := hK.2.2.2.2.2.2.1
    have hL3 : LA 15 0 20 188 6 I := hK.2.2.2.2.2.2.2.1
    have hB3 : LB 15 0 20 188 6 I := hK.2.2.2.2.2.2.2.2.1
    have hL4 : LA 8 0 6 16 4 I := hK.2.2.2.2.2.2.2.2.2.1
    have hB4 : LB 8 0 6 16 4 I := hK.2.2.2.2.2.2.2.2.2.2.1
    have hLH : LH I := hK.2.2.2.2.2.2.2.2.2.2.2.1
    have hLN : LN I := hK.2.2.2.2.2.2.2.2.2.2.2.2.1
    have hLPc : LPc I := hK.2.2.2.2.2.2.2.2.2.2.2.2.2.1
    have hLPk : LPk I := hK.2.2.2.2.2.2.2.2.2.2.2.2.2.2.1
    have hLTc : LTc I := hK.2.2.2.2.2.2.2.2.2.2.2.2.2.2.2.1
    have hLTk : LTk I := hK.2.2.2.2.2.2.2.2.2.2.2.2.2.2.2.2.1
    have hLGc : LGc I := hK.2.2.2.2.2.2.2.2.2.2.2.2.2.2.2.2.2.1
    have hLGk : LGk I := hK.2.2.2.2.2.2.2.2.2.2.2.2.2.2.2.2.2.2.1
    have hLRc : LRc I := hK.2.2.2.2.2.2.2.2.2.2.2.2.2.2.2.2.2.2.2.1
    have hLRk : LRk I := hK.2.2.2.2.2.2.2.2.2.2.2.2.2.2.2.2.2.2.2.2
    have gLH : LH I2 := LH_f hLH (fun s hs => ⟨(hW2 (227 + 2 * s) 0 (by omega)).trans (hW1 (227 + 2 * s) 0 (by omega)), (hW2 (227 + 2 * s) 1 (by omega)).trans (hW1 (227 + 2 * s) 1 (by omega))⟩) (fun s hs => ⟨(hW2 250 s (by omega)).trans (hW1 250 s (by omega)), (hW2 251 s (by omega)).trans (hW1 251 s (by omega))⟩)
    have gLN : LN I2 := LN_f hLN (fun s j hs hj => (hW2 (228 + 2 * s) j (by omega)).trans (hW1 (228 + 2 * s) j (by omega))) (fun s j hs hj => (hW2 252 (24 * s + j) (by omega)).trans (hW1 252 (24 * s + j) (by omega)))
    have gLPc : LPc I2 := LPc_f hR hLPc ((hW2 236 0 (by omega)).trans (hW1 236 0 (by omega))) (fun k j h1 h2 h3 => (hW2 k j (by omega)).trans (hW1 k j (by omega))) (fun j h1 h2 h3 h4 => (hW2 236 j (by omega)).trans (hW1 236 j (by omega)))
    have gLPk : LPk I2 := LPk_f hR hLPk ((hW2 0 2 (by omega)).trans (hW1 0 2 (by omega))) (fun k j h1 h2 => (hW2 k j (by omega)).trans (hW1 k j (by omega))) (fun j => (hW2 237 j (by omega)).trans (hW1 237 j (by omega)))
    have gLTc : LTc I2 := LTc_f hR hLTc ((hW2 1 (5) (by omega)).trans (hW1 1 (5) (by omega))) (fun j => (hW2 5 (j) (by omega)).trans (hW1 5 (j) (by omega))) ((hW2 236 (2) (by omega)).trans (hW1 236 (2) (by omega))) (fun j h1 h2 => (hW2 236 (j) (by omega)).trans (hW1 236 (j) (by omega)))
    have gLTk : LTk I2 := LTk_f hLTk ((hW2 0 (2) (by omega)).trans (hW1 0 (2) (by omega))) ((hW2 102 (5) (by omega)).trans (hW1 102 (5) (by omega))) (fun j => (hW2 106 (j) (by omega)).trans (hW1 106 (j) (by omega))) (fun j => (hW2 237 (j) (by omega)).trans (hW1 237 (j) (by omega)))
    have gLGc : LGc I2 := LGc_f hLGc (fun k j h1 h2 => (hW2 k j (by omega)).trans (hW1 k j (by omega))) (fun j h1 h2 => (hW2 236 (j) (by omega)).trans (hW1 236 (j) (by omega)))
    have gLGk : LGk I2 := LGk_f hLGk ((hW2 0 (2) (by omega)).trans (hW1 0 (2) (by omega))) (fun k j h1 h2 => (hW2 k j (by omega)).trans (hW1 k j (by omega))) (fun j => (hW2 237 (j) (by omega)).trans (hW1 237 (j) (by omega)))
    have gLRc : LRc I2 := LRc_f hR hLRc ((hW2 236 0 (by omega)).trans (hW1 236 0 (by omega))) (fun k j h1 h2 h3 h4 => (hW2 k j (by omega)).trans (hW1 k j (by omega))) (fun j h1 h2 h3 => (hW2 236 (j) (by omega)).trans (hW1 236 (j) (by omega)))
    have gLRk : LRk I2 := LRk_f hR hLRk ((hW2 0 2 (by omega)).trans (hW1 0 2 (by omega))) (fun k j h1 h2 => (hW2 k j (by omega)).trans (hW1 k j (by omega))) (fun j => (hW2 237 j (by omega)).trans (hW1 237 j (by omega)))
    have gI : LI I2 := ((hW2 0 (2) (by omega)).trans (hW1 0 (2) (by omega))).trans (hI.trans ((hW2 235 (2) (by omega)).trans (hW1 235 (2) (by omega))).symm)
    have gL0 : LA 1 1 1 0 1 I2 := LA_f hL0 (fun j hj => (hW2 1 (j + 1) (by omega)).trans (hW1 1 (j + 1) (by omega))) (fun j hj => (hW2 236 (0 + 1 * j) (by omega)).trans (hW1 236 (0 + 1 * j) (by omega)))
    have gB0 : LB 1 1 1 0 1 I2 := LB_f hB0 ((hW2 0 (2) (by omega)).trans (hW1 0 (2) (by omega))) (fun j hj => (hW2 102 (j + 1) (by omega)).trans (hW1 102 (j + 1) (by omega))) (fun j hj => (hW2 237 (0 + 1 * j) (by omega)).trans (hW1 237 (0 + 1 * j) (by omega)))
    have gL1 : LA 4 0 5 4 1 I2 := LA_f hL1 (fun j hj => (hW2 4 (j + 0) (by omega)).trans (hW1 4 (j + 0) (by omega))) (fun j hj => (hW2 236 (4 + 1 * j) (by omega)).trans (hW1 236 (4 + 1 * j) (by omega)))
    have gB1 : LB 4 0 5 4 1 I2 := LB_f hB1 ((hW2 0 (2) (by omega)).trans (hW1 0 (2) (by omega))) (fun j hj => (hW2 105 (j + 0) (by omega)).trans (hW1 105 (j + 0) (by omega))) (fun j hj => (hW2 237 (4 + 1 * j) (by omega)).trans (hW1 237 (4 + 1 * j) (by omega)))
    have gL2 : LA 12 6 1 1 1 I2 := LA_f hL2 (fun j hj => (hW2 12 (j + 6) (by omega)).trans (hW1 12 (j + 6) (by omega))) (fun j hj => (hW2 236 (1 + 1 * j) (by omega)).trans (hW1 236 (1 + 1 * j) (by omega)))
    have gB2 : LB 12 6 1 1 1 I2 := LB_f hB2 ((hW2 0 (2) (by omega)).trans (hW1 0 (2) (by omega))) (fun j hj => (hW2 113 (j + 6) (by omega)).trans (hW1 113 (j + 6) (by omega))) (fun j hj => (hW2 237 (1 + 1 * j) (by omega)).trans (hW1 237 (1 + 1 * j) (by omega)))
    have gL3 : LA 15 0 20 188 6 I2 := LA_f hL3 (fun j hj => (hW2 15 (j + 0) (by omega)).trans (hW1 15 (j + 0) (by omega))) (fun j hj => (hW2 236 (188 + 6 * j) (by omega)).trans (hW1 236 (188 + 6 * j) (by omega)))
    have gB3 : LB 15 0 20 188 6 I2 := LB_f hB3 ((hW2 0 (2) (by omega)).trans (hW1 0 (2) (by omega))) (fun j hj => (hW2 116 (j + 0) (by omega)).trans (hW1 116 (j + 0) (by omega))) (fun j hj => (hW2 237 (188 + 6 * j) (by omega)).trans (hW1 237 (188 + 6 * j) (by omega)))
    have gL4 : LA 8 0 6 16 4 I2 := by
      intro j hj
      exact ((hW2 8 (j + 0) (by omega)).trans (q1a.1 j hj)).trans ((congrArg (fun z => ite _ _ z) ((hL4 j hj).trans (hW1 236 (16 + 4 * j) (by omega)).symm)).trans (q2a.1 j hj).symm)
    have gB4 : LB 8 0 6 16 4 I2 := LB_f hB4 ((hW2 0 (2) (by omega)).trans (hW1 0 (2) (by omega))) (fun j hj => (hW2 109 (j + 0) (by omega)).trans (hW1 109 (j + 0) (by omega))) (fun j hj => (hW2 237 (16 + 4 * j) (by omega)).trans (hW1 237 (16 + 4 * j) (by omega)))
    exact ⟨gI, gL0, gB0, gL1, gB1, gL2, gB2, gL3, gB3, gL4, gB4, gLH, gLN, gLPc, gLPk, gLTc, gLTk, gLGc, gLGk, gLRc, gLRk⟩
  exact law_tail h ih hF hR2 hK2
theorem law_c22 (h : Bd G i) (ih : NXT G i) (hF : FS F) (hR : Rg I) (hK : LK I) : GoN G 1000 kL_law 0 NP 1048 (lvl i) [] F I Qlw := by
  refine law_wp law_oc ckL_law [1665] ?_
  refine ⟨rfl, ixl h (by decide), ixh h (by decide), ?_⟩
  refine ⟨rfl, ixl h (by decide), ixh h (by decide), ?_⟩
  refine ⟨rfl, ixl h (by decide), ixh h (by decide), ?_⟩
  refine ⟨⟨_, rfl, (by decide)⟩, ?_⟩
  refine c_led hF hR  (fun r1 I1 hR1 hA1 hr1 hW1 => ?_)
  refine ⟨rfl, ixl h (by decide), ixh h (by decide), ?_⟩
  refine ⟨rfl, ixl h (by decide), ixh h (by decide), ?_⟩
  refine ⟨rfl, ixl h (by decide), ixh h (by decide), ?_⟩
  refine ⟨⟨_, rfl, (by decide)⟩, ?_⟩
  refine r_led hF hR1  (fun r2 I2 hR2 hA2 hr2 hW2 => ?_)
  have hK2 : LK I2 := by
    have hI : I 0 2 = I 235 2 := hK.1
    have hL0 : LA 1 1 1 0 1 I := hK.2.1
    have hB0 : LB 1 1 1 0 1 I := hK.2.2.1
    have hL1 : LA 4 0 5 4 1 I := hK.2.2.2.1
    have hB1 : LB 4 0 5 4 1 I := hK.2.2.2.2.1
    have hL2 : LA 12 6 1 1 1 I := hK.2.2.2.2.2.1
    have hB2 : LB 12 6 1 1 1 I := hK.2.2.2.2.2.2.1
    have hL3 : LA 15 0 20 188 6 I := hK.2.2.2.2.2.2.2.1
    have hB3 : LB 15 0 20 188 6 I := hK.2.2.2.2.2.2.2.2.1
    have hL4 : LA 8 0 6 16 4 I := hK.2.2.2.2.2.2.2.2.2.1
    have hB4 : LB 8 0 6 16 4 I := hK.2.2.2.2.2.2.2.2.2.2.1
    have hLH : LH I := hK.2.2.2.2.2.2.2.2.2.2.2.1
    have hLN : LN I := hK.2.2.2.2.2.2.2.2.2.2.2.2.1
    have hLPc : LPc I := hK.2.2.2.2.2.2.2.2.2.2.2.2.2.1
    have hLPk : LPk I := hK.2.2.2.2.2.2.2.2.2.2.2.2.2.2.1
    have hLTc : LTc I := hK.2.2.2.2.2.2.2.2.2.2.2.2.2.2.2.1
    have hLTk : LTk I := hK.2.2.2.2.2.2.2.2.2.2.2.2.2.2.2.2.1
    have hLGc : LGc I := hK.2.2.2.2.2.2.2.2.2.2.2.2.2.2.2.2.2.1
    have hLGk : LGk I := hK.2.2.2.2.2.2.2.2.2.2.2.2.2.2.2.2.2.2.1
    have hLRc : LRc I := hK.2.2.2.2.2.2.2.2.2.2.2.2.2.2.2.2.2.2.2.1
    have hLRk : LRk I := hK.2.2.2.2.2.2.2.2.2.2.2.2.2.2.2.2.2.2.2.2
    have gLH : LH I2 := LH_f hLH (fun s hs => ⟨(hW2 (227 + 2 * s) 0 (by omega)).trans (hW1 (227 + 2 * s) 0 (by omega)), (hW2 (227 + 2 * s) 1 (by omega)).trans (hW1 (227 + 2 * s) 1 (by omega))⟩) (fun s hs => ⟨(hW2 250 s (by omega)).trans (hW1 250 s (by omega)), (hW2 251 s (by omega)).trans (hW1 251 s (by omega))⟩)
    have gLN : LN I2 := LN_f hLN (fun s j hs hj => (hW2 (228 + 2 * s) j (by omega)).trans (hW1 (228 + 2 * s) j (by omega))) (fun s j hs hj => (hW2 252 (24 * s + j) (by omega)).trans (hW1 252 (24 * s + j) (by omega)))
    have gLPc : LPc I2 := LPc_f hR hLPc ((hW2 236 0 (by omega)).trans (hW1 236 0 (by omega))) (fun k j h1 h2 h3 => (hW2 k j (by omega)).trans (hW1 k j (by omega))) (fun j h1 h2 h3 h4 => (hW2 236 j (by omega)).trans (hW1 236 j (by omega)))
    have gLPk : LPk I2 := LPk_f hR hLPk ((hW2 0 2 (by omega)).trans (hW1 0 2 (by omega))) (fun k j h1 h2 => (hW2 k j (by omega)).trans (hW1 k j (by omega))) (fun j => (hW2 237 j (by omega)).trans (hW1 237 j (by omega)))
    have gLTc : LTc I2 := LTc_f hR hLTc ((hW2 1 (5) (by omega)).trans (hW1 1 (5) (by omega))) (fun j => (hW2 5 (j) (by omega)).trans (hW1 5 (j) (by omega))) ((hW2 236 (2) (by omega)).trans (hW1 236 (2) (by omega))) (fun j h1 h2 => (hW2 236 (j) (by omega)).trans (hW1 236 (j) (by omega)))
    have gLTk : LTk I2 := LTk_f hLTk ((hW2 0 (2) (by omega)).trans (hW1 0 (2) (by omega))) ((hW2 102 (5) (by omega)).trans (hW1 102 (5) (by omega))) (fun j => (hW2 106 (j) (by omega)).trans (hW1 106 (j) (by omega))) (fun j => (hW2 237 (j) (by omega)).trans (hW1 237 (j) (by omega)))
    have gLGc : LGc I2 := LGc_f hLGc (fun k j h1 h2 => (hW2 k j (by omega)).trans (hW1 k j (by omega))) (fun j h1 h2 => (hW2 236 (j) (by omega)).trans (hW1 236 (j) (by omega)))
    have gLGk : LGk I2 := LGk_f hLGk ((hW2 0 (2) (by omega)).trans (hW1 0 (2) (by omega))) (fun k j h1 h2 => (hW2 k j (by omega)).trans (hW1 k j (by omega))) (fun j => (hW2 237 (j) (by omega)).trans (hW1 237 (j) (by omega)))
    have gLRc : LRc I2 := LRc_f hR hLRc ((hW2 236 0 (by omega)).trans (hW1 236 0 (by omega))) (fun k j h1 h2 h3 h4 => (hW2 k j (by omega)).trans (hW1 k j (by omega))) (fun j h1 h2 h3 => (hW2 236 (j) (by omega)).trans (hW1 236 (j) (by omega)))
    have gLRk : LRk I2 := LRk_f hR hLRk ((hW2 0 2 (by omega)).trans (hW1 0 2 (by omega))) (fun k j h1 h2 => (hW2 k j (by omega)).trans (hW1 k j (by omega))) (fun j => (hW2 237 j (by omega)).trans (hW1 237 j (by omega)))
    have gI : LI I2 := ((hW2 0 (2) (by omega)).trans (hW1 0 (2) (by omega))).trans (hI.trans ((hW2 235 (2) (by omega)).trans (hW1 235 (2) (by omega))).symm)
    have gL0 : LA 1 1 1 0 1 I2 := LA_f hL0 (fun j hj => (hW2 1 (j + 1) (by omega)).trans (hW1 1 (j + 1) (by omega))) (fun j hj => (hW2 236 (0 + 1 * j) (by omega)).trans (hW1 236 (0 + 1 * j) (by omega)))
    have gB0 : LB 1 1 1 0 1 I2 := LB_f hB0 ((hW2 0 (2) (by omega)).trans (hW1 0 (2) (by omega))) (fun j hj => (hW2 102 (j + 1) (by omega)).trans (hW1 102 (j + 1) (by omega))) (fun j hj => (hW2 237 (0 + 1 * j) (by omega)).trans (hW1 237 (0 + 1 * j) (by omega)))
    have gL1 : LA 4 0 5 4 1 I2 := LA_f hL1 (fun j hj => (hW2 4 (j + 0) (by omega)).trans (hW1 4 (j + 0) (by omega))) (fun j hj => (hW2 236 (4 + 1 * j) (by omega)).trans (hW1 236 (4 + 1 * j) (by omega)))
    have gB1 : LB 4 0 5 4 1 I2 := LB_f hB1 ((hW2 0 (2) (by omega)).trans (hW1 0 (2) (by omega))) (fun j hj => (hW2 105 (j + 0) (by omega)).trans (hW1 105 (j + 0) (by omega))) (fun j hj => (hW2 237 (4 + 1 * j) (by omega)).trans (hW1 237 (4 + 1 * j) (by omega)))
    have gL2 : LA 12 6 1 1 1 I2 := LA_f hL2 (fun j hj => (hW2 12 (j + 6) (by omega)).trans (hW1 12 (j + 6) (by omega))) (fun j hj => (hW2 236 (1 + 1 * j) (by omega)).trans (hW1 236 (1 + 1 * j) (by omega)))
    have gB2 : LB 12 6 1 1 1 I2 := LB_f hB2 ((hW2 0 (2) (by omega)).trans (hW1 0 (2) (by omega))) (fun j hj => (hW2 113 (j + 6) (by omega)).trans (hW1 113 (j + 6) (by omega))) (fun j hj => (hW2 237 (1 + 1 * j) (by omega)).trans (hW1 237 (1 + 1 * j) (by omega)))
    have gL3 : LA 15 0 20 188 6 I2 := LA_f hL3 (fun j hj => (hW2 15 (j + 0) (by omega)).trans (hW1 15 (j + 0) (by omega))) (fun j hj => (hW2 236 (188 + 6 * j) (by omega)).trans (hW1 236 (188 + 6 * j) (by omega)))
    have gB3 : LB 15 0 20 188 6 I2 := LB_f hB3 ((hW2 0 (2) (by omega)).trans (hW1 0 (2) (by omega))) (fun j hj => (hW2 116 (j + 0) (by omega)).trans (hW1 116 (j + 0) (by omega))) (fun j hj => (hW2 237 (188 + 6 * j) (by omega)).trans (hW1 237 (188 + 6 * j) (by omega)))
    have gL4 : LA 8 0 6 16 4 I2 := LA_f hL4 (fun j hj => (hW2 8 (j + 0) (by omega)).trans (hW1 8 (j + 0) (by omega))) (fun j hj => (hW2 236 (16 + 4 * j) (by omega)).trans (hW1 236 (16 + 4 * j) (by omega)))
    have gB4 : LB 8 0 6 16 4 I2 := LB_f hB4 ((hW2 0 (2) (by omega)).trans (hW1 0 (2) (by omega))) (fun j hj => (hW2 109 (j + 0) (by omega)).trans (hW1 109 (j + 0) (by omega))) (fun j hj => (hW2 237 (16 + 4 * j) (by omega)).trans (hW1 237 (16 + 4 * j) (by omega)))
    exact ⟨gI, gL0, gB0, gL1, gB1, gL2, gB2, gL3, gB3, gL4, gB4, gLH, gLN, gLPc, gLPk, gLTc, gLTk, gLGc, gLGk, gLRc, gLRk⟩
  exact law_tail h ih hF hR2 hK2
theorem law_c23 (h : Bd G i) (ih : NXT G i) (hF : FS F) (hR : Rg I) (hK : LK I) : GoN G 1000 kL_law 0 NP 1091 (lvl i) [] F I Qlw := by
  refine law_wp law_oc ckL_law [1665] ?_
  refine ⟨rfl, ixl h (by decide), ixh h (by decide), ?_⟩
  refine ⟨rfl, ixl h (by decide), ixh h (by decide), ?_⟩
  refine ⟨rfl, ixl h (by decide), ixh h (by decide), ?_⟩
  refine ⟨⟨_, rfl, (by decide)⟩, ?_⟩
  refine c_enter11 hF hR (by have a1 : I 1 1 = I 236 0 := (show I 1 1 = I 236 0 from hK.2.1 0 (by decide)); have a4 := Rg.n0 hR; omega) (SF := SFI I) (LF := LFI I) (NF := NFI I) (LRc_q hK.2.2.2.2.2.2.2.2.2.2.2.2.2.2.2.2.2.2.2.1 (show I 1 1 = I 236 0 from hK.2.1 0 (by decide))) (fnN_c hK.2.2.2.2.2.2.2.2.2.2.2.2.2.1 (show I 1 1 = I 236 0 from hK.2.1 0 (by decide))) (fnN_n (show I 1 1 = I 236 0 from hK.2.1 0 (by decide))) (fnN_b hK.2.2.2.2.2.2.2.2.2.2.2.2.2.2.2.2.2.2.2.1) (by have a1 : I 12 6 = I 236 1 := (hK.2.2.2.2.2.1) 0 (by decide); have a4 := Rg.n1 hR; omega) (fun r1 I1 hR1 hA1 hr1 hW1 q1a => ?_)
  refine ⟨rfl, ixl h (by decide), ixh h (by decide), ?_⟩
  refine ⟨rfl, ixl h (by decide), ixh h (by decide), ?_⟩
  refine ⟨rfl, ixl h (by decide), ixh h (by decide), ?_⟩
  refine ⟨⟨_, rfl, (by decide)⟩, ?_⟩
  refine r_enter11 hF hR1 (SF := SFI I) (LF := LFI I) (NF := NFI I) (LRc_w hK.2.2.2.2.2.2.2.2.2.2.2.2.2.2.2.2.2.2.2.1 (fun j => hW1 236 j (by omega))) (fnN_r (fun j => hW1 236 j (by omega))) (fnN_m (fun j => hW1 236 j (by omega))) (fnN_b hK.2.2.2.2.2.2.2.2.2.2.2.2.2.2.2.2.2.2.2.1) (fun r2 I2 hR2 hA2 hr2 hW2 q2a => ?_)
  have hK2 : LK I2 := by
    have hI : I 0 2 = I 235 2 := hK.1
    have hL0 : LA 1 1 1 0 1 I := hK.2.1
    have hB0 : LB 1 1 1 0 1 I := hK.2.2.1
    have hL1 : LA 4 0 5 4 1 I := hK.2.2.2.1
    have hB1 : LB 4 0 5 4 1 I := hK.2.2.2.2.1
    have hL2 : LA 12 6 1 1 1 I := hK.2.2.2.2.2.1
    have hB2 : LB 12 6 1 1 1 I := hK.2.2.2.2.2.2.1
    have hL3 : LA 15 0 20 188 6 I := hK.2.2.2.2.2.2.2.1
    have hB3 : LB 15 0 20 188 6 I := hK.2.2.2.2.2.2.2.2.1
    have hL4 : LA 8 0 6 16 4 I := hK.2.2.2.2.2.2.2.2.2.1
    have hB4 : LB 8 0 6 16 4 I := hK.2.2.2.2.2.2.2.2.2.2.1
    have hLH : LH I := hK.2.2.2.2.2.2.2.2.2.2.2.1
    have hLN : LN I := hK.2.2.2.2.2.2.2.2.2.2.2.2.1
    have hLPc : LPc I := hK.2.2.2.2.2.2.2.2.2.2.2.2.2.1
    have hLPk : LPk I := hK.2.2.2.2.2.2.2.2.2.2.2.2.2.2.1
    have hLTc : LTc I := hK.2.2.2.2.2.2.2.2.2.2.2.2.2.2.2.1
    have hLTk : LTk I := hK.2.2.2.2.2.2.2.2.2.2.2.2.2.2.2.2.1
    have hLGc : LGc I := hK.2.2.2.2.2.2.2.2.2.2.2.2.2.2.2.2.2.1
    have hLGk : LGk I := hK.2.2.2.2.2.2.2.2.2.2.2.2.2.2.2.2.2.2.1
    have hLRc : LRc I := hK.2.2.2.2.2.2.2.2.2.2.2.2.2.2.2.2.2.2.2.1
    have hLRk : LRk I := hK.2.2.2.2.2.2.2.2.2.2.2.2.2.2.2.2.2.2.2.2
    have gLH : LH I2 := LH_f hLH (fun s hs => ⟨(hW2 (227 + 2 * s) 0 (by omega)).trans (hW1 (227 + 2 * s) 0 (by omega)), (hW2 (227 + 2 * s) 1 (by omega)).trans (hW1 (227 + 2 * s) 1 (by omega))⟩) (fun s hs => ⟨(hW2 250 s (by omega)).trans (hW1 250 s (by omega)), (hW2 251 s (by omega)).trans (hW1 251 s (by omega))⟩)
    have gLN : LN I2 := LN_f hLN (fun s j hs hj => (hW2 (228 + 2 * s) j (by omega)).trans (hW1 (228 + 2 * s) j (by omega))) (fun s j hs hj => (hW2 252 (24 * s + j) (by omega)).trans (hW1 252 (24 * s + j) (by omega)))
    have gLPc : LPc I2 := LPc_f hR hLPc ((hW2 236 0 (by omega)).trans (hW1 236 0 (by omega))) (fun k j h1 h2 h3 => (hW2 k j (by omega)).trans (hW1 k j (by omega))) (fun j h1 h2 h3 h4 => (hW2 236 j (by omega)).trans (hW1 236 j (by omega)))
    have gLPk : LPk I2 := LPk_f hR hLPk ((hW2 0 2 (by omega)).trans (hW1 0 2 (by omega))) (fun k j h1 h2 => (hW2 k j (by omega)).trans (hW1 k j (by omega))) (fun j => (hW2 237 j (by omega)).trans (hW1 237 j (by omega)))
    have gLTc : LTc I2 := LTc_f hR hLTc ((hW2 1 (5) (by omega)).trans (hW1 1 (5) (by omega))) (fun j => (hW2 5 (j) (by omega)).trans (hW1 5 (j) (by omega))) ((hW2 236 (2) (by omega)).trans (hW1 236 (2) (by omega))) (fun j h1 h2 => (hW2 236 (j) (by omega)).trans (hW1 236 (j) (by omega)))
    have gLTk : LTk I2 := LTk_f hLTk ((hW2 0 (2) (by omega)).trans (hW1 0 (2) (by omega))) ((hW2 102 (5) (by omega)).trans (hW1 102 (5) (by omega))) (fun j => (hW2 106 (j) (by omega)).trans (hW1 106 (j) (by omega))) (fun j => (hW2 237 (j) (by omega)).trans (hW1 237 (j) (by omega)))
    have gLGc : LGc I2 := LGc_f hLGc (fun k j h1 h2 => (hW2 k j (by omega)).trans (hW1 k j (by omega))) (fun j h1 h2 => (hW2 236 (j) (by omega)).trans (hW1 236 (j) (by omega)))
    have gLGk : LGk I2 := LGk_f hLGk ((hW2 0 (2) (by omega)).trans (hW1 0 (2) (by omega))) (fun k j h1 h2 => (hW2 k j (by omega)).trans (hW1 k j (by omega))) (fun j => (hW2 237 (j) (by omega)).trans (hW1 237 (j) (by omega)))
    have gLRc : LRc I2 := LRc_f hR hLRc ((hW2 236 0 (by omega)).trans (hW1 236 0 (by omega))) (fun k j h1 h2 h3 h4 => (hW2 k j (by omega)).trans (hW1 k j (by omega))) (fun j h1 h2 h3 => (hW2 236 (j) (by omega)).trans (hW1 236 (j) (by omega)))
    have gLRk : LRk I2 := LRk_f hR hLRk ((hW2 0 2 (by omega)).trans (hW1 0 2 (by omega))) (fun k j h1 h2 => (hW2 k j (by omega)).trans (hW1 k j (by omega))) (fun j => (hW2 237 j (by omega)).trans (hW1 237 j (by omega)))
    have gI : LI I2 := ((hW2 0 (2) (by omega)).trans (hW1 0 (2) (by omega))).trans (hI.trans ((hW2 235 (2) (by omega)).trans (hW1 235 (2) (by omega))).symm)
    have gL0 : LA 1 1 1 0 1 I2 := LA_f hL0 (fun j hj => (hW2 1 (j + 1) (by omega)).trans (hW1 1 (j + 1) (by omega))) (fun j hj => (hW2 236 (0 + 1 * j) (by omega)).trans (hW1 236 (0 + 1 * j) (by omega)))
    have gB0 : LB 1 1 1 0 1 I2 := LB_f hB0 ((hW2 0 (2) (by omega)).trans (hW1 0 (2) (by omega))) (fun j hj => (hW2 102 (j + 1) (by omega)).trans (hW1 102 (j + 1) (by omega))) (fun j hj => (hW2 237 (0 + 1 * j) (by omega)).trans (hW1 237 (0 + 1 * j) (by omega)))
    have gL1 : LA 4 0 5 4 1 I2 := LA_f hL1 (fun j hj => (hW2 4 (j + 0) (by omega)).trans (hW1 4 (j + 0) (by omega))) (fun j hj => (hW2 236 (4 + 1 * j) (by omega)).trans (hW1 236 (4 + 1 * j) (by omega)))
    have gB1 : LB 4 0 5 4 1 I2 := LB_f hB1 ((hW2 0 (2) (by omega)).trans (hW1 0 (2) (by omega))) (fun j hj => (hW2 105 (j + 0) (by omega)).trans (hW1 105 (j + 0) (by omega))) (fun j hj => (hW2 237 (4 + 1 * j) (by omega)).trans (hW1 237 (4 + 1 * j) (by omega)))
    have gL2 : LA 12 6 1 1 1 I2 := by
      intro j hj
      obtain rfl : j = 0 := by omega
      show I2 12 6 = I2 236 1
      exact (hW2 12 6 (by omega)).trans (en_n ((hL2 0 (by decide)).trans (hW1 236 1 (by omega)).symm) q1a q2a)
    have gB2 : LB 12 6 1 1 1 I2 := LB_f hB2 ((hW2 0 (2) (by omega)).trans (hW1 0 (2) (by omega))) (fun j hj => (hW2 113 (j + 6) (by omega)).trans (hW1 113 (j + 6) (by omega))) (fun j hj => (hW2 237 (1 + 1 * j) (by omega)).trans (hW1 237 (1 + 1 * j) (by omega)))
    have gL3 : LA 15 0 20 188 6 I2 := by
      intro j hj
      exact (hW2 15 j (by omega)).trans (en_15 ((hL2 0 (by decide)).trans (hW1 236 1 (by omega)).symm) q1a q2a (fun j hj => (hL3 j hj).trans (hW1 236 (188 + 6 * j) (by omega)).symm) j hj)
    have gB3 : LB 15 0 20 188 6 I2 := LB_f hB3 ((hW2 0 (2) (by omega)).trans (hW1 0 (2) (by omega))) (fun j hj => (hW2 116 (j + 0) (by omega)).trans (hW1 116 (j + 0) (by omega))) (fun j hj => (hW2 237 (188 + 6 * j) (by omega)).trans (hW1 237 (188 + 6 * j) (by omega)))
    have gL4 : LA 8 0 6 16 4 I2 := LA_f hL4 (fun j hj => (hW2 8 (j + 0) (by omega)).trans (hW1 8 (j + 0) (by omega))) (fun j hj => (hW2 236 (16 + 4 * j) (by omega)).trans (hW1 236 (16 + 4 * j) (by omega)))
    have gB4 : LB 8 0 6 16 4 I2 := LB_f hB4 ((hW2 0 (2) (by omega)).trans (hW1 0 (2) (by omega))) (fun j hj => (hW2 109 (j + 0) (by omega)).trans (hW1 109 (j + 0) (by omega))) (fun j hj => (hW2 237 (16 + 4 * j) (by omega)).trans (hW1 237 (16 + 4 * j) (by omega)))
    exact ⟨gI, gL0, gB0, gL1, gB1, gL2, gB2, gL3, gB3, gL4, gB4, gLH, gLN, gLPc, gLPk, gLTc, gLTk, gLGc, gLGk, gLRc, gLRk⟩
  exact law_tail h ih hF hR2 hK2
theorem law_c24 (h : Bd G i) (ih : NXT G i) (hF : FS F) (hR : Rg I) (hK : LK I) : GoN G 1000 kL_law 0 NP 1134 (lvl i) [] F I Qlw := by
  refine law_wp law_oc ckL_law [1665] ?_
  refine ⟨rfl, ixl h (by decide), ixh h (by decide), ?_⟩
  refine ⟨rfl, ixl h (by decide), ixh h (by decide), ?_⟩
  refine ⟨⟨_, rfl, (by decide)⟩, ?_⟩
  refine c_entryIs hF hR  (fun r1 I1 hR1 hA1 hr1 hW1 => ?_)
  refine ⟨rfl, ixl h (by decide), ixh h (by decide), ?_⟩
  refine ⟨rfl, ixl h (by decide), ixh h (by decide), ?_⟩
  refine ⟨⟨_, rfl, (by decide)⟩, ?_⟩
  refine r_entryIs hF hR1  (fun r2 I2 hR2 hA2 hr2 hW2 => ?_)
  have hK2 : LK I2 := by
    have hI : I 0 2 = I 235 2 := hK.1
    have hL0 : LA 1 1 1 0 1 I := hK.2.1
    have hB0 : LB 1 1 1 0 1 I := hK.2.2.1
    have hL1 : LA 4 0 5 4 1 I := hK.2.2.2.1
    have hB1 : LB 4 0 5 4 1 I := hK.2.2.2.2.1
    have hL2 : LA 12 6 1 1 1 I := hK.2.2.2.2.2.1
    have hB2 : LB 12 6 1 1 1 I := hK.2.2.2.2.2.2.1
    have hL3 : LA 15 0 20 188 6 I := hK.2.2.2.2.2.2.2.1
    have hB3 : LB 15 0 20 188 6 I := hK.2.2.2.2.2.2.2.2.1
    have hL4 : LA 8 0 6 16 4 I := hK.2.2.2.2.2.2.2.2.2.1
    have hB4 : LB 8 0 6 16 4 I := hK.2.2.2.2.2.2.2.2.2.2.1
    have hLH : LH I := hK.2.2.2.2.2.2.2.2.2.2.2.1
    have hLN : LN I := hK.2.2.2.2.2.2.2.2.2.2.2.2.1
    have hLPc : LPc I := hK.2.2.2.2.2.2.2.2.2.2.2.2.2.1
    have hLPk : LPk I := hK.2.2.2.2.2.2.2.2.2.2.2.2.2.2.1
    have hLTc : LTc I := hK.2.2.2.2.2.2.2.2.2.2.2.2.2.2.2.1
    have hLTk : LTk I := hK.2.2.2.2.2.2.2.2.2.2.2.2.2.2.2.2.1
    have hLGc : LGc I := hK.2.2.2.2.2.2.2.2.2.2.2.2.2.2.2.2.2.1
    have hLGk : LGk I := hK.2.2.2.2.2.2.2.2.2.2.2.2.2.2.2.2.2.2.1
    have hLRc : LRc I := hK.2.2.2.2.2.2.2.2.2.2.2.2.2.2.2.2.2.2.2.1
    have hLRk : LRk I := hK.2.2.2.2.2.2.2.2.2.2.2.2.2.2.2.2.2.2.2.2
    have gLH : LH I2 := LH_f hLH (fun s hs => ⟨(hW2 (227 + 2 * s) 0 (by omega)).trans (hW1 (227 + 2 * s) 0 (by omega)), (hW2 (227 + 2 * s) 1 (by omega)).trans (hW1 (227 + 2 * s) 1 (by omega))⟩) (fun s hs => ⟨(hW2 250 s (by omega)).trans (hW1 250 s (by omega)), (hW2 251 s (by omega)).trans (hW1 251 s (by omega))⟩)
    have gLN : LN I2 := LN_f hLN (fun s j hs hj => (hW2 (228 + 2 * s) j (by omega)).trans (hW1 (228 + 2 * s) j (by omega))) (fun s j hs hj => (hW2 252 (24 * s + j) (by omega)).trans (hW1 252 (24 * s + j) (by omega)))
    have gLPc : LPc I2 := LPc_f hR hLPc ((hW2 236 0 (by omega)).trans (hW1 236 0 (by omega))) (fun k j h1 h2 h3 => (hW2 k j (by omega)).trans (hW1 k j (by omega))) (fun j h1 h2 h3 h4 => (hW2 236 j (by omega)).trans (hW1 236 j (by omega)))
    have gLPk : LPk I2 := LPk_f hR hLPk ((hW2 0 2 (by omega)).trans (hW1 0 2 (by omega))) (fun k j h1 h2 => (hW2 k j (by omega)).trans (hW1 k j (by omega))) (fun j => (hW2 237 j (by omega)).trans (hW1 237 j (by omega)))
    have gLTc : LTc I2 := LTc_f hR hLTc ((hW2 1 (5) (by omega)).trans (hW1 1 (5) (by omega))) (fun j => (hW2 5 (j) (by omega)).trans (hW1 5 (j) (by omega))) ((hW2 236 (2) (by omega)).trans (hW1 236 (2) (by omega))) (fun j h1 h2 => (hW2 236 (j) (by omega)).trans (hW1 236 (j) (by omega)))
    have gLTk : LTk I2 := LTk_f hLTk ((hW2 0 (2) (by omega)).trans (hW1 0 (2) (by omega))) ((hW2 102 (5) (by omega)).trans (hW1 102 (5) (by omega))) (fun j => (hW2 106 (j) (by omega)).trans (hW1 106 (j) (by omega))) (fun j => (hW2 237 (j) (by omega)).trans (hW1 237 (j) (by omega)))
    have gLGc : LGc I2 := LGc_f hLGc (fun k j h1 h2 => (hW2 k j (by omega)).trans (hW1 k j (by omega))) (fun j h1 h2 => (hW2 236 (j) (by omega)).trans (hW1 236 (j) (by omega)))
    have gLGk : LGk I2 := LGk_f hLGk ((hW2 0 (2) (by omega)).trans (hW1 0 (2) (by omega))) (fun k j h1 h2 => (hW2 k j (by omega)).trans (hW1 k j (by omega))) (fun j => (hW2 237 (j) (by omega)).trans (hW1 237 (j) (by omega)))
    have gLRc : LRc I2 := LRc_f hR hLRc ((hW2 236 0 (by omega)).trans (hW1 236 0 (by omega))) (fun k j h1 h2 h3 h4 => (hW2 k j (by omega)).trans (hW1 k j (by omega))) (fun j h1 h2 h3 => (hW2 236 (j) (by omega)).trans (hW1 236 (j) (by omega)))
    have gLRk : LRk I2 := LRk_f hR hLRk ((hW2 0 2 (by omega)).trans (hW1 0 2 (by omega))) (fun k j h1 h2 => (hW2 k j (by omega)).trans (hW1 k j (by omega))) (fun j => (hW2 237 j (by omega)).trans (hW1 237 j (by omega)))
    have gI : LI I2 := ((hW2 0 (2) (by omega)).trans (hW1 0 (2) (by omega))).trans (hI.trans ((hW2 235 (2) (by omega)).trans (hW1 235 (2) (by omega))).symm)
    have gL0 : LA 1 1 1 0 1 I2 := LA_f hL0 (fun j hj => (hW2 1 (j + 1) (by omega)).trans (hW1 1 (j + 1) (by omega))) (fun j hj => (hW2 236 (0 + 1 * j) (by omega)).trans (hW1 236 (0 + 1 * j) (by omega)))
    have gB0 : LB 1 1 1 0 1 I2 := LB_f hB0 ((hW2 0 (2) (by omega)).trans (hW1 0 (2) (by omega))) (fun j hj => (hW2 102 (j + 1) (by omega)).trans (hW1 102 (j + 1) (by omega))) (fun j hj => (hW2 237 (0 + 1 * j) (by omega)).trans (hW1 237 (0 + 1 * j) (by omega)))
    have gL1 : LA 4 0 5 4 1 I2 := LA_f hL1 (fun j hj => (hW2 4 (j + 0) (by omega)).trans (hW1 4 (j + 0) (by omega))) (fun j hj => (hW2 236 (4 + 1 * j) (by omega)).trans (hW1 236 (4 + 1 * j) (by omega)))
    have gB1 : LB 4 0 5 4 1 I2 := LB_f hB1 ((hW2 0 (2) (by omega)).trans (hW1 0 (2) (by omega))) (fun j hj => (hW2 105 (j + 0) (by omega)).trans (hW1 105 (j + 0) (by omega))) (fun j hj => (hW2 237 (4 + 1 * j) (by omega)).trans (hW1 237 (4 + 1 * j) (by omega)))
    have gL2 : LA 12 6 1 1 1 I2 := LA_f hL2 (fun j hj => (hW2 12 (j + 6) (by omega)).trans (hW1 12 (j + 6) (by omega))) (fun j hj => (hW2 236 (1 + 1 * j) (by omega)).trans (hW1 236 (1 + 1 * j) (by omega)))
    have gB2 : LB 12 6 1 1 1 I2 := LB_f hB2 ((hW2 0 (2) (by omega)).trans (hW1 0 (2) (by omega))) (fun j hj => (hW2 113 (j + 6) (by omega)).trans (hW1 113 (j + 6) (by omega))) (fun j hj => (hW2 237 (1 + 1 * j) (by omega)).trans (hW1 237 (1 + 1 * j) (by omega)))
    have gL3 : LA 15 0 20 188 6 I2 := LA_f hL3 (fun j hj => (hW2 15 (j + 0) (by omega)).trans (hW1 15 (j + 0) (by omega))) (fun j hj => (hW2 236 (188 + 6 * j) (by omega)).trans (hW1 236 (188 + 6 * j) (by omega)))
    have gB3 : LB 15 0 20 188 6 I2 := LB_f hB3 ((hW2 0 (2) (by omega)).trans (hW1 0 (2) (by omega))) (fun j hj => (hW2 116 (j + 0) (by omega)).trans (hW1 116 (j + 0) (by omega))) (fun j hj => (hW2 237 (188 + 6 * j) (by omega)).trans (hW1 237 (188 + 6 * j) (by omega)))
    have gL4 : LA 8 0 6 16 4 I2 := LA_f hL4 (fun j hj => (hW2 8 (j + 0) (by omega)).trans (hW1 8 (j + 0) (by omega))) (fun j hj => (hW2 236 (16 + 4 * j) (by omega)).trans (hW1 236 (16 + 4 * j) (by omega)))
    have gB4 : LB 8 0 6 16 4 I2 := LB_f hB4 ((hW2 0 (2) (by omega)).trans (hW1 0 (2) (by omega))) (fun j hj => (hW2 109 (j + 0) (by omega)).trans (hW1 109 (j + 0) (by omega))) (fun j hj => (hW2 237 (16 + 4 * j) (by omega)).trans (hW1 237 (16 + 4 * j) (by omega)))
    exact ⟨gI, gL0, gB0, gL1, gB1, gL2, gB2, gL3, gB3, gL4, gB4, gLH, gLN, gLPc, gLPk, gLTc, gLTk, gLGc, gLGk, gLRc, gLRk⟩
  exact law_tail h ih hF hR2 hK2
theorem law_c25 (h : Bd G i) (ih : NXT G i) (hF : FS F) (hR : Rg I) (hK : LK I) : GoN G 1000 kL_law 0 NP 1167 (lvl i) [] F I Qlw := by
  refine law_wp law_oc ckL_law [1665] ?_
  refine ⟨rfl, ixl h (by decide), ixh h (by decide), ?_⟩
  refine ⟨rfl, ixl h (by decide), ixh h (by decide), ?_⟩
  refine ⟨⟨_, rfl, (by decide)⟩, ?_⟩
  refine c_back11 hF hR (by have a1 : I 12 6 = I 236 1 := (hK.2.2.2.2.2.1) 0 (by decide); have a4 := Rg.n1 hR; omega) (fun r1 I1 hR1 hA1 hr1 hW1 q1a => ?_)
  refine ⟨rfl, ixl h (by decide), ixh h (by decide), ?_⟩
  refine ⟨rfl, ixl h (by decide), ixh h (by decide), ?_⟩
  refine ⟨⟨_, rfl, (by decide)⟩, ?_⟩
  refine r_back11 hF hR1  (fun r2 I2 hR2 hA2 hr2 hW2 q2a => ?_)
  have hK2 : LK I2 := by
    have hI : I 0 2 = I 235 2 := hK.1
    have hL0 : LA 1 1 1 0 1 I := hK.2.1
    have hB0 : LB 1 1 1 0 1 I := hK.2.2.1
    have hL1 : LA 4 0 5 4 1 I := hK.2.2.2.1
    have hB1 : LB 4 0 5 4 1 I := hK.2.2.2.2.1
    have hL2 : LA 12 6 1 1 1 I := hK.2.2.2.2.2.1
    have hB2 : LB 12 6 1 1 1 I := hK.2.2.2.2.2.2.1
    have hL3 : LA 15 0 20 188 6 I := hK.2.2.2.2.2.2.2.1
    have hB3 : LB 15 0 20 188 6 I := hK.2.2.2.2.2.2.2.2.1
    have hL4 : LA 8 0 6 16 4 I := hK.2.2.2.2.2.2.2.2.2.1
    have hB4 : LB 8 0 6 16 4 I := hK.2.2.2.2.2.2.2.2.2.2.1
    have hLH : LH I := hK.2.2.2.2.2.2.2.2.2.2.2.1
    have hLN : LN I := hK.2.2.2.2.2.2.2.2.2.2.2.2.1
    have hLPc : LPc I := hK.2.2.2.2.2.2.2.2.2.2.2.2.2.1
    have hLPk : LPk I := hK.2.2.2.2.2.2.2.2.2.2.2.2.2.2.1
    have hLTc : LTc I := hK.2.2.2.2.2.2.2.2.2.2.2.2.2.2.2.1
    have hLTk : LTk I := hK.2.2.2.2.2.2.2.2.2.2.2.2.2.2.2.2.1
    have hLGc : LGc I := hK.2.2.2.2.2.2.2.2.2.2.2.2.2.2.2.2.2.1
    have hLGk : LGk I := hK.2.2.2.2.2.2.2.2.2.2.2.2.2.2.2.2.2.2.1
    have hLRc : LRc I := hK.2.2.2.2.2.2.2.2.2.2.2.2.2.2.2.2.2.2.2.1
    have hLRk : LRk I := hK.2.2.2.2.2.2.2.2.2.2.2.2.2.2.2.2.2.2.2.2
    have gLH : LH I2 := LH_f hLH (fun s hs => ⟨(hW2 (227 + 2 * s) 0 (by omega)).trans (hW1 (227 + 2 * s) 0 (by omega)), (hW2 (227 + 2 * s) 1 (by omega)).trans (hW1 (227 + 2 * s) 1 (by omega))⟩) (fun s hs => ⟨(hW2 250 s (by omega)).trans (hW1 250 s (by omega)), (hW2 251 s (by omega)).trans (hW1 251 s (by omega))⟩)
    have gLN : LN I2 := LN_f hLN (fun s j hs hj => (hW2 (228 + 2 * s) j (by omega)).trans (hW1 (228 + 2 * s) j (by omega))) (fun s j hs hj => (hW2 252 (24 * s + j) (by omega)).trans (hW1 252 (24 * s + j) (by omega)))
    have gLPc : LPc I2 := LPc_f hR hLPc ((hW2 236 0 (by omega)).trans (hW1 236 0 (by omega))) (fun k j h1 h2 h3 => (hW2 k j (by omega)).trans (hW1 k j (by omega))) (fun j h1 h2 h3 h4 => (hW2 236 j (by omega)).trans (hW1 236 j (by omega)))
    have gLPk : LPk I2 := LPk_f hR hLPk ((hW2 0 2 (by omega)).trans (hW1 0 2 (by omega))) (fun k j h1 h2 => (hW2 k j (by omega)).trans (hW1 k j (by omega))) (fun j => (hW2 237 j (by omega)).trans (hW1 237 j (by omega)))
    have gLTc : LTc I2 := LTc_f hR hLTc ((hW2 1 (5) (by omega)).trans (hW1 1 (5) (by omega))) (fun j => (hW2 5 (j) (by omega)).trans (hW1 5 (j) (by omega))) ((hW2 236 (2) (by omega)).trans (hW1 236 (2) (by omega))) (fun j h1 h2 => (hW2 236 (j) (by omega)).trans (hW1 236 (j) (by omega)))
    have gLTk : LTk I2 := LTk_f hLTk ((hW2 0 (2) (by omega)).trans (hW1 0 (2) (by omega))) ((hW2 102 (5) (by omega)).trans (hW1 102 (5) (by omega))) (fun j => (hW2 106 (j) (by omega)).trans (hW1 106 (j) (by omega))) (fun j => (hW2 237 (j) (by omega)).trans (hW1 237 (j) (by omega)))
    have gLGc : LGc I2 := LGc_f hLGc (fun k j h1 h2 => (hW2 k j (by omega)).trans (hW1 k j (by omega))) (fun j h1 h2 => (hW2 236 (j) (by omega)).trans (hW1 236 (j) (by omega)))
    have gLGk : LGk I2 := LGk_f hLGk ((hW2 0 (2) (by omega)).trans (hW1 0 (2) (by omega))) (fun k j h1 h2 => (hW2 k j (by omega)).trans (hW1 k j (by omega))) (fun j => (hW2 237 (j) (by omega)).trans (hW1 237 (j) (by omega)))
    have gLRc : LRc I2 := LRc_f hR hLRc ((hW2 236 0 (by omega)).trans (hW1 236 0 (by omega))) (fun k j h1 h2 h3 h4 => (hW2 k j (by omega)).trans (hW1 k j (by omega))) (fun j h1 h2 h3 => (hW2 236 (j) (by omega)).trans (hW1 236 (j) (by omega)))
    have gLRk : LRk I2 := LRk_f hR hLRk ((hW2 0 2 (by omega)).trans (hW1 0 2 (by omega))) (fun k j h1 h2 => (hW2 k j (by omega)).trans (hW1 k j (by omega))) (fun j => (hW2 237 j (by omega)).trans (hW1 237 j (by omega)))
    have gI : LI I2 := ((hW2 0 (2) (by omega)).trans (hW1 0 (2) (by omega))).trans (hI.trans ((hW2 235 (2) (by omega)).trans (hW1 235 (2) (by omega))).symm)
    have gL0 : LA 1 1 1 0 1 I2 := LA_f hL0 (fun j hj => (hW2 1 (j + 1) (by omega)).trans (hW1 1 (j + 1) (by omega))) (fun j hj => (hW2 236 (0 + 1 * j) (by omega)).trans (hW1 236 (0 + 1 * j) (by omega)))
    have gB0 : LB 1 1 1 0 1 I2 := LB_f hB0 ((hW2 0 (2) (by omega)).trans (hW1 0 (2) (by omega))) (fun j hj => (hW2 102 (j + 1) (by omega)).trans (hW1 102 (j + 1) (by omega))) (fun j hj => (hW2 237 (0 + 1 * j) (by omega)).trans (hW1 237 (0 + 1 * j) (by omega)))
    have gL1 : LA 4 0 5 4 1 I2 := LA_f hL1 (fun j hj => (hW2 4 (j + 0) (by omega)).trans (hW1 4 (j + 0) (by omega))) (fun j hj => (hW2 236 (4 + 1 * j) (by omega)).trans (hW1 236 (4 + 1 * j) (by omega)))
    have gB1 : LB 4 0 5 4 1 I2 := LB_f hB1 ((hW2 0 (2) (by omega)).trans (hW1 0 (2) (by omega))) (fun j hj => (hW2 105 (j + 0) (by omega)).trans (hW1 105 (j + 0) (by omega))) (fun j hj => (hW2 237 (4 + 1 * j) (by omega)).trans (hW1 237 (4 + 1 * j) (by omega)))
    have gL2 : LA 12 6 1 1 1 I2 := LA_f hL2 (fun j hj => (hW2 12 (j + 6) (by omega)).trans (hW1 12 (j + 6) (by omega))) (fun j hj => (hW2 236 (1 + 1 * j) (by omega)).trans (hW1 236 (1 + 1 * j) (by omega)))
    have gB2 : LB 12 6 1 1 1 I2 := LB_f hB2 ((hW2 0 (2) (by omega)).trans (hW1 0 (2) (by omega))) (fun j hj => (hW2 113 (j + 6) (by omega)).trans (hW1 113 (j + 6) (by omega))) (fun j hj => (hW2 237 (1 + 1 * j) (by omega)).trans (hW1 237 (1 + 1 * j) (by omega)))
    have gL3 : LA 15 0 20 188 6 I2 := LA_f hL3 (fun j hj => (hW2 15 (j + 0) (by omega)).trans (hW1 15 (j + 0) (by omega))) (fun j hj => (hW2 236 (188 + 6 * j) (by omega)).trans (hW1 236 (188 + 6 * j) (by omega)))
    have gB3 : LB 15 0 20 188 6 I2 := LB_f hB3 ((hW2 0 (2) (by omega)).trans (hW1 0 (2) (by omega))) (fun j hj => (hW2 116 (j + 0) (by omega)).trans (hW1 116 (j + 0) (by omega))) (fun j hj => (hW2 237 (188 + 6 * j) (by omega)).trans (hW1 237 (188 + 6 * j) (by omega)))
    have gL4 : LA 8 0 6 16 4 I2 := LA_f hL4 (fun j hj => (hW2 8 (j + 0) (by omega)).trans (hW1 8 (j + 0) (by omega))) (fun j hj => (hW2 236 (16 + 4 * j) (by omega)).trans (hW1 236 (16 + 4 * j) (by omega)))
    have gB4 : LB 8 0 6 16 4 I2 := LB_f hB4 ((hW2 0 (2) (by omega)).trans (hW1 0 (2) (by omega))) (fun j hj => (hW2 109 (j + 0) (by omega)).trans (hW1 109 (j + 0) (by omega))) (fun j hj => (hW2 237 (16 + 4 * j) (by omega)).trans (hW1 237 (16 + 4 * j) (by omega)))
    exact ⟨gI, gL0, gB0, gL1, gB1, gL2, gB2, gL3, gB3, gL4, gB4, gLH, gLN, gLPc, gLPk, gLTc, gLTk, gLGc, gLGk, gLRc, gLRk⟩
  exact law_tail h ih hF hR2 hK2
theorem law_c26 (h : Bd G i) (ih : NXT G i) (hF : FS F) (hR : Rg I) (hK : LK I) : GoN G 1000 kL_law 0 NP 1200 (lvl i) [] F I Qlw := by
  refine law_wp law_oc ckL_law [1665] ?_
  refine ⟨rfl, ixl h (by decide), ixh h (by decide), ?_⟩
  refine ⟨rfl, ixl h (by decide), ixh h (by decide), ?_⟩
  refine ⟨⟨_, rfl, (by decide)⟩, ?_⟩
  refine c_book hF hR  (fun r1 I1 hR1 hA1 hr1 hW1 => ?_)
  refine ⟨rfl, ixl h (by decide), ixh h (by decide), ?_⟩
  refine ⟨rfl, ixl h (by decide), ixh h (by decide), ?_⟩
  refine ⟨⟨_, rfl, (by decide)⟩, ?_⟩
  refine r_book hF hR1  (fun r2 I2 hR2 hA2 hr2 hW2 => ?_)
  have hK2 : LK I2 := by
    have hI : I 0 2 = I 235 2 := hK.1
    have hL0 : LA 1 1 1 0 1 I := hK.2.1
    have hB0 : LB 1 1 1 0 1 I := hK.2.2.1
    have hL1 : LA 4 0 5 4 1 I := hK.2.2.2.1
    have hB1 : LB 4 0 5 4 1 I := hK.2.2.2.2.1
    have hL2 : LA 12 6 1 1 1 I := hK.2.2.2.2.2.1
    have hB2 : LB 12 6 1 1 1 I := hK.2.2.2.2.2.2.1
    have hL3 : LA 15 0 20 188 6 I := hK.2.2.2.2.2.2.2.1
    have hB3 : LB 15 0 20 188 6 I := hK.2.2.2.2.2.2.2.2.1
    have hL4 : LA 8 0 6 16 4 I := hK.2.2.2.2.2.2.2.2.2.1
    have hB4 : LB 8 0 6 16 4 I := hK.2.2.2.2.2.2.2.2.2.2.1
    have hLH : LH I := hK.2.2.2.2.2.2.2.2.2.2.2.1
    have hLN : LN I := hK.2.2.2.2.2.2.2.2.2.2.2.2.1
    have hLPc : LPc I := hK.2.2.2.2.2.2.2.2.2.2.2.2.2.1
    have hLPk : LPk I := hK.2.2.2.2.2.2.2.2.2.2.2.2.2.2.1
    have hLTc : LTc I := hK.2.2.2.2.2.2.2.2.2.2.2.2.2.2.2.1
    have hLTk : LTk I := hK.2.2.2.2.2.2.2.2.2.2.2.2.2.2.2.2.1
    have hLGc : LGc I := hK.2.2.2.2.2.2.2.2.2.2.2.2.2.2.2.2.2.1
    have hLGk : LGk I := hK.2.2.2.2.2.2.2.2.2.2.2.2.2.2.2.2.2.2.1
    have hLRc : LRc I := hK.2.2.2.2.2.2.2.2.2.2.2.2.2.2.2.2.2.2.2.1
    have hLRk : LRk I := hK.2.2.2.2.2.2.2.2.2.2.2.2.2.2.2.2.2.2.2.2
    have gLH : LH I2 := LH_f hLH (fun s hs => ⟨(hW2 (227 + 2 * s) 0 (by omega)).trans (hW1 (227 + 2 * s) 0 (by omega)), (hW2 (227 + 2 * s) 1 (by omega)).trans (hW1 (227 + 2 * s) 1 (by omega))⟩) (fun s hs => ⟨(hW2 250 s (by omega)).trans (hW1 250 s (by omega)), (hW2 251 s (by omega)).trans (hW1 251 s (by omega))⟩)
    have gLN : LN I2 := LN_f hLN (fun s j hs hj => (hW2 (228 + 2 * s) j (by omega)).trans (hW1 (228 + 2 * s) j (by omega))) (fun s j hs hj => (hW2 252 (24 * s + j) (by omega)).trans (hW1 252 (24 * s + j) (by omega)))
    have gLPc : LPc I2 := LPc_f hR hLPc ((hW2 236 0 (by omega)).trans (hW1 236 0 (by omega))) (fun k j h1 h2 h3 => (hW2 k j (by omega)).trans (hW1 k j (by omega))) (fun j h1 h2 h3 h4 => (hW2 236 j (by omega)).trans (hW1 236 j (by omega)))
    have gLPk : LPk I2 := LPk_f hR hLPk ((hW2 0 2 (by omega)).trans (hW1 0 2 (by omega))) (fun k j h1 h2 => (hW2 k j (by omega)).trans (hW1 k j (by omega))) (fun j => (hW2 237 j (by omega)).trans (hW1 237 j (by omega)))
    have gLTc : LTc I2 := LTc_f hR hLTc ((hW2 1 (5) (by omega)).trans (hW1 1 (5) (by omega))) (fun j => (hW2 5 (j) (by omega)).trans (hW1 5 (j) (by omega))) ((hW2 236 (2) (by omega)).trans (hW1 236 (2) (by omega))) (fun j h1 h2 => (hW2 236 (j) (by omega)).trans (hW1 236 (j) (by omega)))
    have gLTk : LTk I2 := LTk_f hLTk ((hW2 0 (2) (by omega)).trans (hW1 0 (2) (by omega))) ((hW2 102 (5) (by omega)).trans (hW1 102 (5) (by omega))) (fun j => (hW2 106 (j) (by omega)).trans (hW1 106 (j) (by omega))) (fun j => (hW2 237 (j) (by omega)).trans (hW1 237 (j) (by omega)))
    have gLGc : LGc I2 := LGc_f hLGc (fun k j h1 h2 => (hW2 k j (by omega)).trans (hW1 k j (by omega))) (fun j h1 h2 => (hW2 236 (j) (by omega)).trans (hW1 236 (j) (by omega)))
    have gLGk : LGk I2 := LGk_f hLGk ((hW2 0 (2) (by omega)).trans (hW1 0 (2) (by omega))) (fun k j h1 h2 => (hW2 k j (by omega)).trans (hW1 k j (by omega))) (fun j => (hW2 237 (j) (by omega)).trans (hW1 237 (j) (by omega)))
    have gLRc : LRc I2 := LRc_f hR hLRc ((hW2 236 0 (by omega)).trans (hW1 236 0 (by omega))) (fun k j h1 h2 h3 h4 => (hW2 k j (by omega)).trans (hW1 k j (by omega))) (fun j h1 h2 h3 => (hW2 236 (j) (by omega)).trans (hW1 236 (j) (by omega)))
    have gLRk : LRk I2 := LRk_f hR hLRk ((hW2 0 2 (by omega)).trans (hW1 0 2 (by omega))) (fun k j h1 h2 => (hW2 k j (by omega)).trans (hW1 k j (by omega))) (fun j => (hW2 237 j (by omega)).trans (hW1 237 j (by omega)))
    have gI : LI I2 := ((hW2 0 (2) (by omega)).trans (hW1 0 (2) (by omega))).trans (hI.trans ((hW2 235 (2) (by omega)).trans (hW1 235 (2) (by omega))).symm)
    have gL0 : LA 1 1 1 0 1 I2 := LA_f hL0 (fun j hj => (hW2 1 (j + 1) (by omega)).trans (hW1 1 (j + 1) (by omega))) (fun j hj => (hW2 236 (0 + 1 * j) (by omega)).trans (hW1 236 (0 + 1 * j) (by omega)))
    have gB0 : LB 1 1 1 0 1 I2 := LB_f hB0 ((hW2 0 (2) (by omega)).trans (hW1 0 (2) (by omega))) (fun j hj => (hW2 102 (j + 1) (by omega)).trans (hW1 102 (j + 1) (by omega))) (fun j hj => (hW2 237 (0 + 1 * j) (by omega)).trans (hW1 237 (0 + 1 * j) (by omega)))
    have gL1 : LA 4 0 5 4 1 I2 := LA_f hL1 (fun j hj => (hW2 4 (j + 0) (by omega)).trans (hW1 4 (j + 0) (by omega))) (fun j hj => (hW2 236 (4 + 1 * j) (by omega)).trans (hW1 236 (4 + 1 * j) (by omega)))
    have gB1 : LB 4 0 5 4 1 I2 := LB_f hB1 ((hW2 0 (2) (by omega)).trans (hW1 0 (2) (by omega))) (fun j hj => (hW2 105 (j + 0) (by omega)).trans (hW1 105 (j + 0) (by omega))) (fun j hj => (hW2 237 (4 + 1 * j) (by omega)).trans (hW1 237 (4 + 1 * j) (by omega)))
    have gL2 : LA 12 6 1 1 1 I2 := LA_f hL2 (fun j hj => (hW2 12 (j + 6) (by omega)).trans (hW1 12 (j + 6) (by omega))) (fun j hj => (hW2 236 (1 + 1 * j) (by omega)).trans (hW1 236 (1 + 1 * j) (by omega)))
    have gB2 : LB 12 6 1 1 1 I2 := LB_f hB2 ((hW2 0 (2) (by omega)).trans (hW1 0 (2) (by omega))) (fun j hj => (hW2 113 (j + 6) (by omega)).trans (hW1 113 (j + 6) (by omega))) (fun j hj => (hW2 237 (1 + 1 * j) (by omega)).trans (hW1 237 (1 + 1 * j) (by omega)))
    have gL3 : LA 15 0 20 188 6 I2 := LA_f hL3 (fun j hj => (hW2 15 (j + 0) (by omega)).trans (hW1 15 (j + 0) (by omega))) (fun j hj => (hW2 236 (188 + 6 * j) (by omega)).trans (hW1 236 (188 + 6 * j) (by omega)))
    have gB3 : LB 15 0 20 188 6 I2 := LB_f hB3 ((hW2 0 (2) (by omega)).trans (hW1 0 (2) (by omega))) (fun j hj => (hW2 116 (j + 0) (by omega)).trans (hW1 116 (j + 0) (by omega))) (fun j hj => (hW2 237 (188 + 6 * j) (by omega)).trans (hW1 237 (188 + 6 * j) (by omega)))
    have gL4 : LA 8 0 6 16 4 I2 := LA_f hL4 (fun j hj => (hW2 8 (j + 0) (by omega)).trans (hW1 8 (j + 0) (by omega))) (fun j hj => (hW2 236 (16 + 4 * j) (by omega)).trans (hW1 236 (16 + 4 * j) (by omega)))
    have gB4 : LB 8 0 6 16 4 I2 := LB_f hB4 ((hW2 0 (2) (by omega)).trans (hW1 0 (2) (by omega))) (fun j hj => (hW2 109 (j + 0) (by omega)).trans (hW1 109 (j + 0) (by omega))) (fun j hj => (hW2 237 (16 + 4 * j) (by omega)).trans (hW1 237 (16 + 4 * j) (by omega)))
    exact ⟨gI, gL0, gB0, gL1, gB1, gL2, gB2, gL3, gB3, gL4, gB4, gLH, gLN, gLPc, gLPk, gLTc, gLTk, gLGc, gLGk, gLRc, gLRk⟩
  exact law_tail h ih hF hR2 hK2
theorem law_c27 (h : Bd G i) (ih : NXT G i) (hF : FS F) (hR : Rg I) (hK : LK I) : GoN G 1000 kL_law 0 NP 1233 (lvl i) [] F I Qlw := by
  refine law_wp law_oc ckL_law [1665] ?_
  refine ⟨rfl, ixl h (by decide), ixh h (by decide), ?_⟩
  refine ⟨⟨_, rfl, (by decide)⟩, ?_⟩
  refine c_hangs11 hF hR (CHN_t (CHN_r hR) (fun j hj => (hK.2.2.2.2.2.2.2.2.2.1) j hj)) (by have a1 : I 12 6 = I 236 1 := (hK.2.2.2.2.2.1) 0 (by decide); have a4 := Rg.n1 hR; omega) (fun j hj => by have e : I 15 j = I 236 (188 + 6 * j) := (hK.2.2.2.2.2.2.2.1) j (by have a1 : I 12 6 = I 236 1 := (hK.2.2.2.2.2.1) 0 (by decide); have a4 := Rg.n1 hR; omega); rw [e]; exact MT_r hR j (by have a1 : I 12 6 = I 236 1 := (hK.2.2.2.2.2.1) 0 (by decide); omega)) (fun r1 I1 hR1 hA1 hr1 hW1 q1a => ?_)
  refine ⟨rfl, ixl h (by decide), ixh h (by decide), ?_⟩
  refine ⟨⟨_, rfl, (by decide)⟩, ?_⟩
  refine r_hangs11 hF hR1 (CHN_r hR1) (MT_r hR1) (fun r2 I2 hR2 hA2 hr2 hW2 q2a => ?_)
  refine ⟨fun _ => ?_, fun c => absurd (hg_e hR1 ((show I 12 6 = I 236 1 from (hK.2.2.2.2.2.1) 0 (by decide)).trans (hW1 236 1 (by omega)).symm) (fun j hj => ((hK.2.2.2.2.2.2.2.1) j hj).trans (hW1 236 (188 + 6 * j) (by omega)).symm) (fun j hj => ((hK.2.2.2.2.2.2.2.2.2.1) j hj).trans (hW1 236 (16 + 4 * j) (by omega)).symm) q1a q2a) c⟩
  have hK2 : LK I2 := by
    have hI : I 0 2 = I 235 2 := hK.1
    have hL0 : LA 1 1 1 0 1 I := hK.2.1
    have hB0 : LB 1 1 1 0 1 I := hK.2.2.1
    have hL1 : LA 4 0 5 4 1 I := hK.2.2.2.1
    have hB1 : LB 4 0 5 4 1 I := hK.2.2.2.2.1
    have hL2 : LA 12 6 1 1 1 I := hK.2.2.2.2.2.1
    have hB2 : LB 12 6 1 1 1 I := hK.2.2.2.2.2.2.1
    have hL3 : LA 15 0 20 188 6 I := hK.2.2.2.2.2.2.2.1
    have hB3 : LB 15 0 20 188 6 I := hK.2.2.2.2.2.2.2.2.1
    have hL4 : LA 8 0 6 16 4 I := hK.2.2.2.2.2.2.2.2.2.1
    have hB4 : LB 8 0 6 16 4 I := hK.2.2.2.2.2.2.2.2.2.2.1
    have hLH : LH I := hK.2.2.2.2.2.2.2.2.2.2.2.1
    have hLN : LN I := hK.2.2.2.2.2.2.2.2.2.2.2.2.1
    have hLPc : LPc I := hK.2.2.2.2.2.2.2.2.2.2.2.2.2.1
    have hLPk : LPk I := hK.2.2.2.2.2.2.2.2.2.2.2.2.2.2.1
    have hLTc : LTc I := hK.2.2.2.2.2.2.2.2.2.2.2.2.2.2.2.1
    have hLTk : LTk I := hK.2.2.2.2.2.2.2.2.2.2.2.2.2.2.2.2.1
    have hLGc : LGc I := hK.2.2.2.2.2.2.2.2.2.2.2.2.2.2.2.2.2.1
    have hLGk : LGk I := hK.2.2.2.2.2.2.2.2.2.2.2.2.2.2.2.2.2.2.1
    have hLRc : LRc I := hK.2.2.2.2.2.2.2.2.2.2.2.2.2.2.2.2.2.2.2.1
    have hLRk : LRk I := hK.2.2.2.2.2.2.2.2.2.2.2.2.2.2.2.2.2.2.2.2
    have gLH : LH I2 := LH_f hLH (fun s hs => ⟨(hW2 (227 + 2 * s) 0 (by omega)).trans (hW1 (227 + 2 * s) 0 (by omega)), (hW2 (227 + 2 * s) 1 (by omega)).trans (hW1 (227 + 2 * s) 1 (by omega))⟩) (fun s hs => ⟨(hW2 250 s (by omega)).trans (hW1 250 s (by omega)), (hW2 251 s (by omega)).trans (hW1 251 s (by omega))⟩)
    have gLN : LN I2 := LN_f hLN (fun s j hs hj => (hW2 (228 + 2 * s) j (by omega)).trans (hW1 (228 + 2 * s) j (by omega))) (fun s j hs hj => (hW2 252 (24 * s + j) (by omega)).trans (hW1 252 (24 * s + j) (by omega)))
    have gLPc : LPc I2 := LPc_f hR hLPc ((hW2 236 0 (by omega)).trans (hW1 236 0 (by omega))) (fun k j h1 h2 h3 => (hW2 k j (by omega)).trans (hW1 k j (by omega))) (fun j h1 h2 h3 h4 => (hW2 236 j (by omega)).trans (hW1 236 j (by omega)))
    have gLPk : LPk I2 := LPk_f hR hLPk ((hW2 0 2 (by omega)).trans (hW1 0 2 (by omega))) (fun k j h1 h2 => (hW2 k j (by omega)).trans (hW1 k j (by omega))) (fun j => (hW2 237 j (by omega)).trans (hW1 237 j (by omega)))
    have gLTc : LTc I2 := LTc_f hR hLTc ((hW2 1 (5) (by omega)).trans (hW1 1 (5) (by omega))) (fun j => (hW2 5 (j) (by omega)).trans (hW1 5 (j) (by omega))) ((hW2 236 (2) (by omega)).trans (hW1 236 (2) (by omega))) (fun j h1 h2 => (hW2 236 (j) (by omega)).trans (hW1 236 (j) (by omega)))
    have gLTk : LTk I2 := LTk_f hLTk ((hW2 0 (2) (by omega)).trans (hW1 0 (2) (by omega))) ((hW2 102 (5) (by omega)).trans (hW1 102 (5) (by omega))) (fun j => (hW2 106 (j) (by omega)).trans (hW1 106 (j) (by omega))) (fun j => (hW2 237 (j) (by omega)).trans (hW1 237 (j) (by omega)))
    have gLGc : LGc I2 := LGc_f hLGc (fun k j h1 h2 => (hW2 k j (by omega)).trans (hW1 k j (by omega))) (fun j h1 h2 => (hW2 236 (j) (by omega)).trans (hW1 236 (j) (by omega)))
    have gLGk : LGk I2 := LGk_f hLGk ((hW2 0 (2) (by omega)).trans (hW1 0 (2) (by omega))) (fun k j h1 h2 => (hW2 k j (by omega)).trans (hW1 k j (by omega))) (fun j => (hW2 237 (j) (by omega)).trans (hW1 237 (j) (by omega)))
    have gLRc : LRc I2 := LRc_f hR hLRc ((hW2 236 0 (by omega)).trans (hW1 236 0 (by omega))) (fun k j h1 h2 h3 h4 => (hW2 k j (by omega)).trans (hW1 k j (by omega))) (fun j h1 h2 h3 => (hW2 236 (j) (by omega)).trans (hW1 236 (j) (by omega)))
    have gLRk : LRk I2 := LRk_f hR hLRk ((hW2 0 2 (by omega)).trans (hW1 0 2 (by omega))) (fun k j h1 h2 => (hW2 k j (by omega)).trans (hW1 k j (by omega))) (fun j => (hW2 237 j (by omega)).trans (hW1 237 j (by omega)))
    have gI : LI I2 := ((hW2 0 (2) (by omega)).trans (hW1 0 (2) (by omega))).trans (hI.trans ((hW2 235 (2) (by omega)).trans (hW1 235 (2) (by omega))).symm)
    have gL0 : LA 1 1 1 0 1 I2 := LA_f hL0 (fun j hj => (hW2 1 (j + 1) (by omega)).trans (hW1 1 (j + 1) (by omega))) (fun j hj => (hW2 236 (0 + 1 * j) (by omega)).trans (hW1 236 (0 + 1 * j) (by omega)))
    have gB0 : LB 1 1 1 0 1 I2 := LB_f hB0 ((hW2 0 (2) (by omega)).trans (hW1 0 (2) (by omega))) (fun j hj => (hW2 102 (j + 1) (by omega)).trans (hW1 102 (j + 1) (by omega))) (fun j hj => (hW2 237 (0 + 1 * j) (by omega)).trans (hW1 237 (0 + 1 * j) (by omega)))
    have gL1 : LA 4 0 5 4 1 I2 := LA_f hL1 (fun j hj => (hW2 4 (j + 0) (by omega)).trans (hW1 4 (j + 0) (by omega))) (fun j hj => (hW2 236 (4 + 1 * j) (by omega)).trans (hW1 236 (4 + 1 * j) (by omega)))
    have gB1 : LB 4 0 5 4 1 I2 := LB_f hB1 ((hW2 0 (2) (by omega)).trans (hW1 0 (2) (by omega))) (fun j hj => (hW2 105 (j + 0) (by omega)).trans (hW1 105 (j + 0) (by omega))) (fun j hj => (hW2 237 (4 + 1 * j) (by omega)).trans (hW1 237 (4 + 1 * j) (by omega)))
    have gL2 : LA 12 6 1 1 1 I2 := LA_f hL2 (fun j hj => (hW2 12 (j + 6) (by omega)).trans (hW1 12 (j + 6) (by omega))) (fun j hj => (hW2 236 (1 + 1 * j) (by omega)).trans (hW1 236 (1 + 1 * j) (by omega)))
    have gB2 : LB 12 6 1 1 1 I2 := LB_f hB2 ((hW2 0 (2) (by omega)).trans (hW1 0 (2) (by omega))) (fun j hj => (hW2 113 (j + 6) (by omega)).trans (hW1 113 (j + 6) (by omega))) (fun j hj => (hW2 237 (1 + 1 * j) (by omega)).trans (hW1 237 (1 + 1 * j) (by omega)))
    have gL3 : LA 15 0 20 188 6 I2 := LA_f hL3 (fun j hj => (hW2 15 (j + 0) (by omega)).trans (hW1 15 (j + 0) (by omega))) (fun j hj => (hW2 236 (188 + 6 * j) (by omega)).trans (hW1 236 (188 + 6 * j) (by omega)))
    have gB3 : LB 15 0 20 188 6 I2 := LB_f hB3 ((hW2 0 (2) (by omega)).trans (hW1 0 (2) (by omega))) (fun j hj => (hW2 116 (j + 0) (by omega)).trans (hW1 116 (j + 0) (by omega))) (fun j hj => (hW2 237 (188 + 6 * j) (by omega)).trans (hW1 237 (188 + 6 * j) (by omega)))
    have gL4 : LA 8 0 6 16 4 I2 := LA_f hL4 (fun j hj => (hW2 8 (j + 0) (by omega)).trans (hW1 8 (j + 0) (by omega))) (fun j hj => (hW2 236 (16 + 4 * j) (by omega)).trans (hW1 236 (16 + 4 * j) (by omega)))
    have gB4 : LB 8 0 6 16 4 I2 := LB_f hB4 ((hW2 0 (2) (by omega)).trans (hW1 0 (2) (by omega))) (fun j hj => (hW2 109 (j + 0) (by omega)).trans (hW1 109 (j + 0) (by omega))) (fun j hj => (hW2 237 (16 + 4 * j) (by omega)).trans (hW1 237 (16 + 4 * j) (by omega)))
    exact ⟨gI, gL0, gB0, gL1, gB1, gL2, gB2, gL3, gB3, gL4, gB4, gLH, gLN, gLPc, gLPk, gLTc, gLTk, gLGc, gLGk, gLRc, gLRk⟩
  exact law_tail h ih hF hR2 hK2
theorem law_c28 (h : Bd G i) (ih : NXT G i) (hF : FS F) (hR : Rg I) (hK : LK I) : GoN G 1000 kL_law 0 NP 1256 (lvl i) [] F I Qlw := by
  refine law_wp law_oc ckL_law [1665] ?_
  refine ⟨rfl, ixl h (by decide), ixh h (by decide), ?_⟩
  refine ⟨rfl, ixl h (by decide), ixh h (by decide), ?_⟩
  refine ⟨rfl, ixl h (by decide), ixh h (by decide), ?_⟩
  refine ⟨⟨_, rfl, (by decide)⟩, ?_⟩
  refine c_plates hF hR  (fun r1 I1 hR1 hA1 hr1 hW1 => ?_)
  refine ⟨rfl, ixl h (by decide), ixh h (by decide), ?_⟩
  refine ⟨rfl, ixl h (by decide), ixh h (by decide), ?_⟩
  refine ⟨rfl, ixl h (by decide), ixh h (by decide), ?_⟩
  refine ⟨⟨_, rfl, (by decide)⟩, ?_⟩
  refine r_plates hF hR1  (fun r2 I2 hR2 hA2 hr2 hW2 => ?_)
  have hK2 : LK I2 := by
    have hI : I 0 2 = I 235 2 := hK.1
    have hL0 : LA 1 1 1 0 1 I := hK.2.1
    have hB0 : LB 1 1 1 0 1 I := hK.2.2.1
    have hL1 : LA 4 0 5 4 1 I := hK.2.2.2.1
    have hB1 : LB 4 0 5 4 1 I := hK.2.2.2.2.1
    have hL2 : LA 12 6 1 1 1 I := hK.2.2.2.2.2.1
    have hB2 : LB 12 6 1 1 1 I := hK.2.2.2.2.2.2.1
    have hL3 : LA 15 0 20 188 6 I := hK.2.2.2.2.2.2.2.1
    have hB3 : LB 15 0 20 188 6 I := hK.2.2.2.2.2.2.2.2.1
    have hL4 : LA 8 0 6 16 4 I := hK.2.2.2.2.2.2.2.2.2.1
    have hB4 : LB 8 0 6 16 4 I := hK.2.2.2.2.2.2.2.2.2.2.1
    have hLH : LH I := hK.2.2.2.2.2.2.2.2.2.2.2.1
    have hLN : LN I := hK.2.2.2.2.2.2.2.2.2.2.2.2.1
    have hLPc : LPc I := hK.2.2.2.2.2.2.2.2.2.2.2.2.2.1
    have hLPk : LPk I := hK.2.2.2.2.2.2.2.2.2.2.2.2.2.2.1
    have hLTc : LTc I := hK.2.2.2.2.2.2.2.2.2.2.2.2.2.2.2.1
    have hLTk : LTk I := hK.2.2.2.2.2.2.2.2.2.2.2.2.2.2.2.2.1
    have hLGc : LGc I := hK.2.2.2.2.2.2.2.2.2.2.2.2.2.2.2.2.2.1
    have hLGk : LGk I := hK.2.2.2.2.2.2.2.2.2.2.2.2.2.2.2.2.2.2.1
    have hLRc : LRc I := hK.2.2.2.2.2.2.2.2.2.2.2.2.2.2.2.2.2.2.2.1
    have hLRk : LRk I := hK.2.2.2.2.2.2.2.2.2.2.2.2.2.2.2.2.2.2.2.2
    have gLH : LH I2 := LH_f hLH (fun s hs => ⟨(hW2 (227 + 2 * s) 0 (by omega)).trans (hW1 (227 + 2 * s) 0 (by omega)), (hW2 (227 + 2 * s) 1 (by omega)).trans (hW1 (227 + 2 * s) 1 (by omega))⟩) (fun s hs => ⟨(hW2 250 s (by omega)).trans (hW1 250 s (by omega)), (hW2 251 s (by omega)).trans (hW1 251 s (by omega))⟩)
    have gLN : LN I2 := LN_f hLN (fun s j hs hj => (hW2 (228 + 2 * s) j (by omega)).trans (hW1 (228 + 2 * s) j (by omega))) (fun s j hs hj => (hW2 252 (24 * s + j) (by omega)).trans (hW1 252 (24 * s + j) (by omega)))
    have gLPc : LPc I2 := LPc_f hR hLPc ((hW2 236 0 (by omega)).trans (hW1 236 0 (by omega))) (fun k j h1 h2 h3 => (hW2 k j (by omega)).trans (hW1 k j (by omega))) (fun j h1 h2 h3 h4 => (hW2 236 j (by omega)).trans (hW1 236 j (by omega)))
    have gLPk : LPk I2 := LPk_f hR hLPk ((hW2 0 2 (by omega)).trans (hW1 0 2 (by omega))) (fun k j h1 h2 => (hW2 k j (by omega)).trans (hW1 k j (by omega))) (fun j => (hW2 237 j (by omega)).trans (hW1 237 j (by omega)))
    have gLTc : LTc I2 := LTc_f hR hLTc ((hW2 1 (5) (by omega)).trans (hW1 1 (5) (by omega))) (fun j => (hW2 5 (j) (by omega)).trans (hW1 5 (j) (by omega))) ((hW2 236 (2) (by omega)).trans (hW1 236 (2) (by omega))) (fun j h1 h2 => (hW2 236 (j) (by omega)).trans (hW1 236 (j) (by omega)))
    have gLTk : LTk I2 := LTk_f hLTk ((hW2 0 (2) (by omega)).trans (hW1 0 (2) (by omega))) ((hW2 102 (5) (by omega)).trans (hW1 102 (5) (by omega))) (fun j => (hW2 106 (j) (by omega)).trans (hW1 106 (j) (by omega))) (fun j => (hW2 237 (j) (by omega)).trans (hW1 237 (j) (by omega)))
    have gLGc : LGc I2 := LGc_f hLGc (fun k j h1 h2 => (hW2 k j (by omega)).trans (hW1 k j (by omega))) (fun j h1 h2 => (hW2 236 (j) (by omega)).trans (hW1 236 (j) (by omega)))
    have gLGk : LGk I2 := LGk_f hLGk ((hW2 0 (2) (by omega)).trans (hW1 0 (2) (by omega))) (fun k j h1 h2 => (hW2 k j (by omega)).trans (hW1 k j (by omega))) (fun j => (hW2 237 (j) (by omega)).trans (hW1 237 (j) (by omega)))
    have gLRc : LRc I2 := LRc_f hR hLRc ((hW2 236 0 (by omega)).trans (hW1 236 0 (by omega))) (fun k j h1 h2 h3 h4 => (hW2 k j (by omega)).trans (hW1 k j (by omega))) (fun j h1 h2 h3 => (hW2 236 (j) (by omega)).trans (hW1 236 (j) (by omega)))
    have gLRk : LRk I2 := LRk_f hR hLRk ((hW2 0 2 (by omega)).trans (hW1 0 2 (by omega))) (fun k j h1 h2 => (hW2 k j (by omega)).trans (hW1 k j (by omega))) (fun j => (hW2 237 j (by omega)).trans (hW1 237 j (by omega)))
    have gI : LI I2 := ((hW2 0 (2) (by omega)).trans (hW1 0 (2) (by omega))).trans (hI.trans ((hW2 235 (2) (by omega)).trans (hW1 235 (2) (by omega))).symm)
    have gL0 : LA 1 1 1 0 1 I2 := LA_f hL0 (fun j hj => (hW2 1 (j + 1) (by omega)).trans (hW1 1 (j + 1) (by omega))) (fun j hj => (hW2 236 (0 + 1 * j) (by omega)).trans (hW1 236 (0 + 1 * j) (by omega)))
    have gB0 : LB 1 1 1 0 1 I2 := LB_f hB0 ((hW2 0 (2) (by omega)).trans (hW1 0 (2) (by omega))) (fun j hj => (hW2 102 (j + 1) (by omega)).trans (hW1 102 (j + 1) (by omega))) (fun j hj => (hW2 237 (0 + 1 * j) (by omega)).trans (hW1 237 (0 + 1 * j) (by omega)))
    have gL1 : LA 4 0 5 4 1 I2 := LA_f hL1 (fun j hj => (hW2 4 (j + 0) (by omega)).trans (hW1 4 (j + 0) (by omega))) (fun j hj => (hW2 236 (4 + 1 * j) (by omega)).trans (hW1 236 (4 + 1 * j) (by omega)))
    have gB1 : LB 4 0 5 4 1 I2 := LB_f hB1 ((hW2 0 (2) (by omega)).trans (hW1 0 (2) (by omega))) (fun j hj => (hW2 105 (j + 0) (by omega)).trans (hW1 105 (j + 0) (by omega))) (fun j hj => (hW2 237 (4 + 1 * j) (by omega)).trans (hW1 237 (4 + 1 * j) (by omega)))
    have gL2 : LA 12 6 1 1 1 I2 := LA_f hL2 (fun j hj => (hW2 12 (j + 6) (by omega)).trans (hW1 12 (j + 6) (by omega))) (fun j hj => (hW2 236 (1 + 1 * j) (by omega)).trans (hW1 236 (1 + 1 * j) (by omega)))
    have gB2 : LB 12 6 1 1 1 I2 := LB_f hB2 ((hW2 0 (2) (by omega)).trans (hW1 0 (2) (by omega))) (fun j hj => (hW2 113 (j + 6) (by omega)).trans (hW1 113 (j + 6) (by omega))) (fun j hj => (hW2 237 (1 + 1 * j) (by omega)).trans (hW1 237 (1 + 1 * j) (by omega)))
    have gL3 : LA 15 0 20 188 6 I2 := LA_f hL3 (fun j hj => (hW2 15 (j + 0) (by omega)).trans (hW1 15 (j + 0) (by omega))) (fun j hj => (hW2 236 (188 + 6 * j) (by omega)).trans (hW1 236 (188 + 6 * j) (by omega)))
    have gB3 : LB 15 0 20 188 6 I2 := LB_f hB3 ((hW2 0 (2) (by omega)).trans (hW1 0 (2) (by omega))) (fun j hj => (hW2 116 (j + 0) (by omega)).trans (hW1 116 (j + 0) (by omega))) (fun j hj => (hW2 237 (188 + 6 * j) (by omega)).trans (hW1 237 (188 + 6 * j) (by omega)))
    have gL4 : LA 8 0 6 16 4 I2 := LA_f hL4 (fun j hj => (hW2 8 (j + 0) (by omega)).trans (hW1 8 (j + 0) (by omega))) (fun j hj => (hW2 236 (16 + 4 * j) (by omega)).trans (hW1 236 (16 + 4 * j) (by omega)))
    have gB4 : LB 8 0 6 16 4 I2 := LB_f hB4 ((hW2 0 (2) (by omega)).trans (hW1 0 (2) (by omega))) (fun j hj => (hW2 109 (j + 0) (by omega)).trans (hW1 109 (j + 0) (by omega))) (fun j hj => (hW2 237 (16 + 4 * j) (by omega)).trans (hW1 237 (16 + 4 * j) (by omega)))
    exact ⟨gI, gL0, gB0, gL1, gB1, gL2, gB2, gL3, gB3, gL4, gB4, gLH, gLN, gLPc, gLPk, gLTc, gLTk, gLGc, gLGk, gLRc, gLRk⟩
  exact law_tail h ih hF hR2 hK2
theorem law_c29 (h : Bd G i) (ih : NXT G i) (hF : FS F) (hR : Rg I) (hK : LK I) : GoN G 1000 kL_law 0 NP 1299 (lvl i) [] F I Qlw := by
  refine law_wp law_oc ckL_law [1665] ?_
  refine ⟨rfl, ixl h (by decide), ixh h (by decide), ?_⟩
  refine ⟨⟨_, rfl, (by decide)⟩, ?_⟩
  refine c_drift hF hR  (fun r1 I1 hR1 hA1 hr1 hW1 => ?_)
  refine ⟨rfl, ixl h (by decide), ixh h (by decide), ?_⟩
  refine ⟨⟨_, rfl, (by decide)⟩, ?_⟩
  refine r_drift hF hR1  (fun r2 I2 hR2 hA2 hr2 hW2 => ?_)
  have hK2 : LK I2 := by
    have hI : I 0 2 = I 235 2 := hK.1
    have hL0 : LA 1 1 1 0 1 I := hK.2.1
    have hB0 : LB 1 1 1 0 1 I := hK.2.2.1
    have hL1 : LA 4 0 5 4 1 I := hK.2.2.2.1
    have hB1 : LB 4 0 5 4 1 I := hK.2.2.2.2.1
    have hL2 : LA 12 6 1 1 1 I := hK.2.2.2.2.2.1
    have hB2 : LB 12 6 1 1 1 I := hK.2.2.2.2.2.2.1
    have hL3 : LA 15 0 20 188 6 I := hK.2.2.2.2.2.2.2.1
    have hB3 : LB 15 0 20 188 6 I := hK.2.2.2.2.2.2.2.2.1
    have hL4 : LA 8 0 6 16 4 I := hK.2.2.2.2.2.2.2.2.2.1
    have hB4 : LB 8 0 6 16 4 I := hK.2.2.2.2.2.2.2.2.2.2.1
    have hLH : LH I := hK.2.2.2.2.2.2.2.2.2.2.2.1
    have hLN : LN I := hK.2.2.2.2.2.2.2.2.2.2.2.2.1
    have hLPc : LPc I := hK.2.2.2.2.2.2.2.2.2.2.2.2.2.1
    have hLPk : LPk I := hK.2.2.2.2.2.2.2.2.2.2.2.2.2.2.1
    have hLTc : LTc I := hK.2.2.2.2.2.2.2.2.2.2.2.2.2.2.2.1
    have hLTk : LTk I := hK.2.2.2.2.2.2.2.2.2.2.2.2.2.2.2.2.1
    have hLGc : LGc I := hK.2.2.2.2.2.2.2.2.2.2.2.2.2.2.2.2.2.1
    have hLGk : LGk I := hK.2.2.2.2.2.2.2.2.2.2.2.2.2.2.2.2.2.2.1
    have hLRc : LRc I := hK.2.2.2.2.2.2.2.2.2.2.2.2.2.2.2.2.2.2.2.1
    have hLRk : LRk I := hK.2.2.2.2.2.2.2.2.2.2.2.2.2.2.2.2.2.2.2.2
    have gLH : LH I2 := LH_f hLH (fun s hs => ⟨(hW2 (227 + 2 * s) 0 (by omega)).trans (hW1 (227 + 2 * s) 0 (by omega)), (hW2 (227 + 2 * s) 1 (by omega)).trans (hW1 (227 + 2 * s) 1 (by omega))⟩) (fun s hs => ⟨(hW2 250 s (by omega)).trans (hW1 250 s (by omega)), (hW2 251 s (by omega)).trans (hW1 251 s (by omega))⟩)
    have gLN : LN I2 := LN_f hLN (fun s j hs hj => (hW2 (228 + 2 * s) j (by omega)).trans (hW1 (228 + 2 * s) j (by omega))) (fun s j hs hj => (hW2 252 (24 * s + j) (by omega)).trans (hW1 252 (24 * s + j) (by omega)))
    have gLPc : LPc I2 := LPc_f hR hLPc ((hW2 236 0 (by omega)).trans (hW1 236 0 (by omega))) (fun k j h1 h2 h3 => (hW2 k j (by omega)).trans (hW1 k j (by omega))) (fun j h1 h2 h3 h4 => (hW2 236 j (by omega)).trans (hW1 236 j (by omega)))
    have gLPk : LPk I2 := LPk_f hR hLPk ((hW2 0 2 (by omega)).trans (hW1 0 2 (by omega))) (fun k j h1 h2 => (hW2 k j (by omega)).trans (hW1 k j (by omega))) (fun j => (hW2 237 j (by omega)).trans (hW1 237 j (by omega)))
    have gLTc : LTc I2 := LTc_f hR hLTc ((hW2 1 (5) (by omega)).trans (hW1 1 (5) (by omega))) (fun j => (hW2 5 (j) (by omega)).trans (hW1 5 (j) (by omega))) ((hW2 236 (2) (by omega)).trans (hW1 236 (2) (by omega))) (fun j h1 h2 => (hW2 236 (j) (by omega)).trans (hW1 236 (j) (by omega)))
    have gLTk : LTk I2 := LTk_f hLTk ((hW2 0 (2) (by omega)).trans (hW1 0 (2) (by omega))) ((hW2 102 (5) (by omega)).trans (hW1 102 (5) (by omega))) (fun j => (hW2 106 (j) (by omega)).trans (hW1 106 (j) (by omega))) (fun j => (hW2 237 (j) (by omega)).trans (hW1 237 (j) (by omega)))
    have gLGc : LGc I2 := LGc_f hLGc (fun k j h1 h2 => (hW2 k j (by omega)).trans (hW1 k j (by omega))) (fun j h1 h2 => (hW2 236 (j) (by omega)).trans (hW1 236 (j) (by omega)))
    have gLGk : LGk I2 := LGk_f hLGk ((hW2 0 (2) (by omega)).trans (hW1 0 (2) (by omega))) (fun k j h1 h2 => (hW2 k j (by omega)).trans (hW1 k j (by omega))) (fun j => (hW2 237 (j) (by omega)).trans (hW1 237 (j) (by omega)))
    have gLRc : LRc I2 := LRc_f hR hLRc ((hW2 236 0 (by omega)).trans (hW1 236 0 (by omega))) (fun k j h1 h2 h3 h4 => (hW2 k j (by omega)).trans (hW1 k j (by omega))) (fun j h1 h2 h3 => (hW2 236 (j) (by omega)).trans (hW1 236 (j) (by omega)))
    have gLRk : LRk I2 := LRk_f hR hLRk ((hW2 0 2 (by omega)).trans (hW1 0 2 (by omega))) (fun k j h1 h2 => (hW2 k j (by omega)).trans (hW1 k j (by omega))) (fun j => (hW2 237 j (by omega)).trans (hW1 237 j (by omega)))
    have gI : LI I2 := ((hW2 0 (2) (by omega)).trans (hW1 0 (2) (by omega))).trans (hI.trans ((hW2 235 (2) (by omega)).trans (hW1 235 (2) (by omega))).symm)
    have gL0 : LA 1 1 1 0 1 I2 := LA_f hL0 (fun j hj => (hW2 1 (j + 1) (by omega)).trans (hW1 1 (j + 1) (by omega))) (fun j hj => (hW2 236 (0 + 1 * j) (by omega)).trans (hW1 236 (0 + 1 * j) (by omega)))
    have gB0 : LB 1 1 1 0 1 I2 := LB_f hB0 ((hW2 0 (2) (by omega)).trans (hW1 0 (2) (by omega))) (fun j hj => (hW2 102 (j + 1) (by omega)).trans (hW1 102 (j + 1) (by omega))) (fun j hj => (hW2 237 (0 + 1 * j) (by omega)).trans (hW1 237 (0 + 1 * j) (by omega)))
    have gL1 : LA 4 0 5 4 1 I2 := LA_f hL1 (fun j hj => (hW2 4 (j + 0) (by omega)).trans (hW1 4 (j + 0) (by omega))) (fun j hj => (hW2 236 (4 + 1 * j) (by omega)).trans (hW1 236 (4 + 1 * j) (by omega)))
    have gB1 : LB 4 0 5 4 1 I2 := LB_f hB1 ((hW2 0 (2) (by omega)).trans (hW1 0 (2) (by omega))) (fun j hj => (hW2 105 (j + 0) (by omega)).trans (hW1 105 (j + 0) (by omega))) (fun j hj => (hW2 237 (4 + 1 * j) (by omega)).trans (hW1 237 (4 + 1 * j) (by omega)))
    have gL2 : LA 12 6 1 1 1 I2 := LA_f hL2 (fun j hj => (hW2 12 (j + 6) (by omega)).trans (hW1 12 (j + 6) (by omega))) (fun j hj => (hW2 236 (1 + 1 * j) (by omega)).trans (hW1 236 (1 + 1 * j) (by omega)))
    have gB2 : LB 12 6 1 1 1 I2 := LB_f hB2 ((hW2 0 (2) (by omega)).trans (hW1 0 (2) (by omega))) (fun j hj => (hW2 113 (j + 6) (by omega)).trans (hW1 113 (j + 6) (by omega))) (fun j hj => (hW2 237 (1 + 1 * j) (by omega)).trans (hW1 237 (1 + 1 * j) (by omega)))
    have gL3 : LA 15 0 20 188 6 I2 := LA_f hL3 (fun j hj => (hW2 15 (j + 0) (by omega)).trans (hW1 15 (j + 0) (by omega))) (fun j hj => (hW2 236 (188 + 6 * j) (by omega)).trans (hW1 236 (188 + 6 * j) (by omega)))
    have gB3 : LB 15 0 20 188 6 I2 := LB_f hB3 ((hW2 0 (2) (by omega)).trans (hW1 0 (2) (by omega))) (fun j hj => (hW2 116 (j + 0) (by omega)).trans (hW1 116 (j + 0) (by omega))) (fun j hj => (hW2 237 (188 + 6 * j) (by omega)).trans (hW1 237 (188 + 6 * j) (by omega)))
    have gL4 : LA 8 0 6 16 4 I2 := LA_f hL4 (fun j hj => (hW2 8 (j + 0) (by omega)).trans (hW1 8 (j + 0) (by omega))) (fun j hj => (hW2 236 (16 + 4 * j) (by omega)).trans (hW1 236 (16 + 4 * j) (by omega)))
    have gB4 : LB 8 0 6 16 4 I2 := LB_f hB4 ((hW2 0 (2) (by omega)).trans (hW1 0 (2) (by omega))) (fun j hj => (hW2 109 (j + 0) (by omega)).trans (hW1 109 (j + 0) (by omega))) (fun j hj => (hW2 237 (16 + 4 * j) (by omega)).trans (hW1 237 (16 + 4 * j) (by omega)))
    exact ⟨gI, gL0, gB0, gL1, gB1, gL2, gB2, gL3, gB3, gL4, gB4, gLH, gLN, gLPc, gLPk, gLTc, gLTk, gLGc, gLGk, gLRc, gLRk⟩
  exact law_tail h ih hF hR2 hK2
theorem law_c30 (h : Bd G i) (ih : NXT G i) (hF : FS F) (hR : Rg I) (hK : LK I) : GoN G 1000 kL_law 0 NP 1322 (lvl i) [] F I Qlw := by
  refine law_wp law_oc ckL_law [1665] ?_
  refine ⟨rfl, ixl h (by decide), ixh h (by decide), ?_⟩
  refine ⟨rfl, ixl h (by decide), ixh h (by decide), ?_⟩
  refine ⟨rfl, ixl h (by decide), ixh h (by decide), ?_⟩
  refine ⟨⟨_, rfl, (by decide)⟩, ?_⟩
  refine c_voice hF hR  (fun r1 I1 hR1 hA1 hr1 hW1 => ?_)
  refine ⟨rfl, ixl h (by decide), ixh h (by decide), ?_⟩
  refine ⟨rfl, ixl h (by decide), ixh h (by decide), ?_⟩
  refine ⟨rfl, ixl h (by decide), ixh h (by decide), ?_⟩
  refine ⟨⟨_, rfl, (by decide)⟩, ?_⟩
  refine r_voice hF hR1  (fun r2 I2 hR2 hA2 hr2 hW2 => ?_)
  have hK2 : LK I2 := by
    have hI : I 0 2 = I 235 2 := hK.1
    have hL0 : LA 1 1 1 0 1 I := hK.2.1
    have hB0 : LB 1 1 1 0 1 I := hK.2.2.1
    have hL1 : LA 4 0 5 4 1 I := hK.2.2.2.1
    have hB1 : LB 4 0 5 4 1 I := hK.2.2.2.2.1
    have hL2 : LA 12 6 1 1 1 I := hK.2.2.2.2.2.1
    have hB2 : LB 12 6 1 1 1 I := hK.2.2.2.2.2.2.1
    have hL3 : LA 15 0 20 188 6 I := hK.2.2.2.2.2.2.2.1
    have hB3 : LB 15 0 20 188 6 I := hK.2.2.2.2.2.2.2.2.1
    have hL4 : LA 8 0 6 16 4 I := hK.2.2.2.2.2.2.2.2.2.1
    have hB4 : LB 8 0 6 16 4 I := hK.2.2.2.2.2.2.2.2.2.2.1
    have hLH : LH I := hK.2.2.2.2.2.2.2.2.2.2.2.1
    have hLN : LN I := hK.2.2.2.2.2.2.2.2.2.2.2.2.1
    have hLPc : LPc I := hK.2.2.2.2.2.2.2.2.2.2.2.2.2.1
    have hLPk : LPk I := hK.2.2.2.2.2.2.2.2.2.2.2.2.2.2.1
    have hLTc : LTc I := hK.2.2.2.2.2.2.2.2.2.2.2.2.2.2.2.1
    have hLTk : LTk I := hK.2.2.2.2.2.2.2.2.2.2.2.2.2.2.2.2.1
    have hLGc : LGc I := hK.2.2.2.2.2.2.2.2.2.2.2.2.2.2.2.2.2.1
    have hLGk : LGk I := hK.2.2.2.2.2.2.2.2.2.2.2.2.2.2.2.2.2.2.1
    have hLRc : LRc I := hK.2.2.2.2.2.2.2.2.2.2.2.2.2.2.2.2.2.2.2.1
    have hLRk : LRk I := hK.2.2.2.2.2.2.2.2.2.2.2.2.2.2.2.2.2.2.2.2
    have gLH : LH I2 := LH_f hLH (fun s hs => ⟨(hW2 (227 + 2 * s) 0 (by omega)).trans (hW1 (227 + 2 * s) 0 (by omega)), (hW2 (227 + 2 * s) 1 (by omega)).trans (hW1 (227 + 2 * s) 1 (by omega))⟩) (fun s hs => ⟨(hW2 250 s (by omega)).trans (hW1 250 s (by omega)), (hW2 251 s (by omega)).trans (hW1 251 s (by omega))⟩)
    have gLN : LN I2 := LN_f hLN (fun s j hs hj => (hW2 (228 + 2 * s) j (by omega)).trans (hW1 (228 + 2 * s) j (by omega))) (fun s j hs hj => (hW2 252 (24 * s + j) (by omega)).trans (hW1 252 (24 * s + j) (by omega)))
    have gLPc : LPc I2 := LPc_f hR hLPc ((hW2 236 0 (by omega)).trans (hW1 236 0 (by omega))) (fun k j h1 h2 h3 => (hW2 k j (by omega)).trans (hW1 k j (by omega))) (fun j h1 h2 h3 h4 => (hW2 236 j (by omega)).trans (hW1 236 j (by omega)))
    have gLPk : LPk I2 := LPk_f hR hLPk ((hW2 0 2 (by omega)).trans (hW1 0 2 (by omega))) (fun k j h1 h2 => (hW2 k j (by omega)).trans (hW1 k j (by omega))) (fun j => (hW2 237 j (by omega)).trans (hW1 237 j (by omega)))
    have gLTc : LTc I2 := LTc_f hR hLTc ((hW2 1 (5) (by omega)).trans (hW1 1 (5) (by omega))) (fun j => (hW2 5 (j) (by omega)).trans (hW1 5 (j) (by omega))) ((hW2 236 (2) (by omega)).trans (hW1 236 (2) (by omega))) (fun j h1 h2 => (hW2 236 (j) (by omega)).trans (hW1 236 (j) (by omega)))
    have gLTk : LTk I2 := LTk_f hLTk ((hW2 0 (2) (by omega)).trans (hW1 0 (2) (by omega))) ((hW2 102 (5) (by omega)).trans (hW1 102 (5) (by omega))) (fun j => (hW2 106 (j) (by omega)).trans (hW1 106 (j) (by omega))) (fun j => (hW2 237 (j) (by omega)).trans (hW1 237 (j) (by omega)))
    have gLGc : LGc I2 := LGc_f hLGc (fun k j h1 h2 => (hW2 k j (by omega)).trans (hW1 k j (by omega))) (fun j h1 h2 => (hW2 236 (j) (by omega)).trans (hW1 236 (j) (by omega)))
    have gLGk : LGk I2 := LGk_f hLGk ((hW2 0 (2) (by omega)).trans (hW1 0 (2) (by omega))) (fun k j h1 h2 => (hW2 k j (by omega)).trans (hW1 k j (by omega))) (fun j => (hW2 237 (j) (by omega)).trans (hW1 237 (j) (by omega)))
    have gLRc : LRc I2 := LRc_f hR hLRc ((hW2 236 0 (by omega)).trans (hW1 236 0 (by omega))) (fun k j h1 h2 h3 h4 => (hW2 k j (by omega)).trans (hW1 k j (by omega))) (fun j h1 h2 h3 => (hW2 236 (j) (by omega)).trans (hW1 236 (j) (by omega)))
    have gLRk : LRk I2 := LRk_f hR hLRk ((hW2 0 2 (by omega)).trans (hW1 0 2 (by omega))) (fun k j h1 h2 => (hW2 k j (by omega)).trans (hW1 k j (by omega))) (fun j => (hW2 237 j (by omega)).trans (hW1 237 j (by omega)))
    have gI : LI I2 := ((hW2 0 (2) (by omega)).trans (hW1 0 (2) (by omega))).trans (hI.trans ((hW2 235 (2) (by omega)).trans (hW1 235 (2) (by omega))).symm)
    have gL0 : LA 1 1 1 0 1 I2 := LA_f hL0 (fun j hj => (hW2 1 (j + 1) (by omega)).trans (hW1 1 (j + 1) (by omega))) (fun j hj => (hW2 236 (0 + 1 * j) (by omega)).trans (hW1 236 (0 + 1 * j) (by omega)))
    have gB0 : LB 1 1 1 0 1 I2 := LB_f hB0 ((hW2 0 (2) (by omega)).trans (hW1 0 (2) (by omega))) (fun j hj => (hW2 102 (j + 1) (by omega)).trans (hW1 102 (j + 1) (by omega))) (fun j hj => (hW2 237 (0 + 1 * j) (by omega)).trans (hW1 237 (0 + 1 * j) (by omega)))
    have gL1 : LA 4 0 5 4 1 I2 := LA_f hL1 (fun j hj => (hW2 4 (j + 0) (by omega)).trans (hW1 4 (j + 0) (by omega))) (fun j hj => (hW2 236 (4 + 1 * j) (by omega)).trans (hW1 236 (4 + 1 * j) (by omega)))
    have gB1 : LB 4 0 5 4 1 I2 := LB_f hB1 ((hW2 0 (2) (by omega)).trans (hW1 0 (2) (by omega))) (fun j hj => (hW2 105 (j + 0) (by omega)).trans (hW1 105 (j + 0) (by omega))) (fun j hj => (hW2 237 (4 + 1 * j) (by omega)).trans (hW1 237 (4 + 1 * j) (by omega)))
    have gL2 : LA 12 6 1 1 1 I2 := LA_f hL2 (fun j hj => (hW2 12 (j + 6) (by omega)).trans (hW1 12 (j + 6) (by omega))) (fun j hj => (hW2 236 (1 + 1 * j) (by omega)).trans (hW1 236 (1 + 1 * j) (by omega)))
    have gB2 : LB 12 6 1 1 1 I2 := LB_f hB2 ((hW2 0 (2) (by omega)).trans (hW1 0 (2) (by omega))) (fun j hj => (hW2 113 (j + 6) (by omega)).trans (hW1 113 (j + 6) (by omega))) (fun j hj => (hW2 237 (1 + 1 * j) (by omega)).trans (hW1 237 (1 + 1 * j) (by omega)))
    have gL3 : LA 15 0 20 188 6 I2 := LA_f hL3 (fun j hj => (hW2 15 (j + 0) (by omega)).trans (hW1 15 (j + 0) (by omega))) (fun j hj => (hW2 236 (188 + 6 * j) (by omega)).trans (hW1 236 (188 + 6 * j) (by omega)))
    have gB3 : LB 15 0 20 188 6 I2 := LB_f hB3 ((hW2 0 (2) (by omega)).trans (hW1 0 (2) (by omega))) (fun j hj => (hW2 116 (j + 0) (by omega)).trans (hW1 116 (j + 0) (by omega))) (fun j hj => (hW2 237 (188 + 6 * j) (by omega)).trans (hW1 237 (188 + 6 * j) (by omega)))
    have gL4 : LA 8 0 6 16 4 I2 := LA_f hL4 (fun j hj => (hW2 8 (j + 0) (by omega)).trans (hW1 8 (j + 0) (by omega))) (fun j hj => (hW2 236 (16 + 4 * j) (by omega)).trans (hW1 236 (16 + 4 * j) (by omega)))
    have gB4 : LB 8 0 6 16 4 I2 := LB_f hB4 ((hW2 0 (2) (by omega)).trans (hW1 0 (2) (by omega))) (fun j hj => (hW2 109 (j + 0) (by omega)).trans (hW1 109 (j + 0) (by omega))) (fun j hj => (hW2 237 (16 + 4 * j) (by omega)).trans (hW1 237 (16 + 4 * j) (by omega)))
    exact ⟨gI, gL0, gB0, gL1, gB1, gL2, gB2, gL3, gB3, gL4, gB4, gLH, gLN, gLPc, gLPk, gLTc, gLTk, gLGc, gLGk, gLRc, gLRk⟩
  exact law_tail h ih hF hR2 hK2
theorem law_c31 (h : Bd G i) (ih : NXT G i) (hF : FS F) (hR : Rg I) (hK : LK I) : GoN G 1000 kL_law 0 NP 1365 (lvl i) [] F I Qlw := by
  refine law_wp law_oc ckL_law [1665] ?_
  refine ⟨rfl, ixl h (by decide), ixh h (by decide), ?_⟩
  refine ⟨⟨_, rfl, (by decide)⟩, ?_⟩
  refine c_body hF hR  (fun r1 I1 hR1 hA1 hr1 hW1 => ?_)
  refine ⟨rfl, ixl h (by decide), ixh h (by decide), ?_⟩
  refine ⟨⟨_, rfl, (by decide)⟩, ?_⟩
  refine r_body_ hF hR1  (fun r2 I2 hR2 hA2 hr2 hW2 => ?_)
  have hK2 : LK I2 := by
    have hI : I 0 2 = I 235 2 := hK.1
    have hL0 : LA 1 1 1 0 1 I := hK.2.1
    have hB0 : LB 1 1 1 0 1 I := hK.2.2.1
    have hL1 : LA 4 0 5 4 1 I := hK.2.2.2.1
    have hB1 : LB 4 0 5 4 1 I := hK.2.2.2.2.1
    have hL2 : LA 12 6 1 1 1 I := hK.2.2.2.2.2.1
    have hB2 : LB 12 6 1 1 1 I := hK.2.2.2.2.2.2.1
    have hL3 : LA 15 0 20 188 6 I := hK.2.2.2.2.2.2.2.1
    have hB3 : LB 15 0 20 188 6 I := hK.2.2.2.2.2.2.2.2.1
    have hL4 : LA 8 0 6 16 4 I := hK.2.2.2.2.2.2.2.2.2.1
    have hB4 : LB 8 0 6 16 4 I := hK.2.2.2.2.2.2.2.2.2.2.1
    have hLH : LH I := hK.2.2.2.2.2.2.2.2.2.2.2.1
    have hLN : LN I := hK.2.2.2.2.2.2.2.2.2.2.2.2.1
    have hLPc : LPc I := hK.2.2.2.2.2.2.2.2.2.2.2.2.2.1
    have hLPk : LPk I := hK.2.2.2.2.2.2.2.2.2.2.2.2.2.2.1
    have hLTc : LTc I := hK.2.2.2.2.2.2.2.2.2.2.2.2.2.2.2.1
    have hLTk : LTk I := hK.2.2.2.2.2.2.2.2.2.2.2.2.2.2.2.2.1
    have hLGc : LGc I := hK.2.2.2.2.2.2.2.2.2.2.2.2.2.2.2.2.2.1
    have hLGk : LGk I := hK.2.2.2.2.2.2.2.2.2.2.2.2.2.2.2.2.2.2.1
    have hLRc : LRc I := hK.2.2.2.2.2.2.2.2.2.2.2.2.2.2.2.2.2.2.2.1
    have hLRk : LRk I := hK.2.2.2.2.2.2.2.2.2.2.2.2.2.2.2.2.2.2.2.2
    have gLH : LH I2 := LH_f hLH (fun s hs => ⟨(hW2 (227 + 2 * s) 0 (by omega)).trans (hW1 (227 + 2 * s) 0 (by omega)), (hW2 (227 + 2 * s) 1 (by omega)).trans (hW1 (227 + 2 * s) 1 (by omega))⟩) (fun s hs => ⟨(hW2 250 s (by omega)).trans (hW1 250 s (by omega)), (hW2 251 s (by omega)).trans (hW1 251 s (by omega))⟩)
    have gLN : LN I2 := LN_f hLN (fun s j hs hj => (hW2 (228 + 2 * s) j (by omega)).trans (hW1 (228 + 2 * s) j (by omega))) (fun s j hs hj => (hW2 252 (24 * s + j) (by omega)).trans (hW1 252 (24 * s + j) (by omega)))
    have gLPc : LPc I2 := LPc_f hR hLPc ((hW2 236 0 (by omega)).trans (hW1 236 0 (by omega))) (fun k j h1 h2 h3 => (hW2 k j (by omega)).trans (hW1 k j (by omega))) (fun j h1 h2 h3 h4 => (hW2 236 j (by omega)).trans (hW1 236 j (by omega)))
    have gLPk : LPk I2 := LPk_f hR hLPk ((hW2 0 2 (by omega)).trans (hW1 0 2 (by omega))) (fun k j h1 h2 => (hW2 k j (by omega)).trans (hW1 k j (by omega))) (fun j => (hW2 237 j (by omega)).trans (hW1 237 j (by omega)))
    have gLTc : LTc I2 := LTc_f hR hLTc ((hW2 1 (5) (by omega)).trans (hW1 1 (5) (by omega))) (fun j => (hW2 5 (j) (by omega)).trans (hW1 5 (j) (by omega))) ((hW2 236 (2) (by omega)).trans (hW1 236 (2) (by omega))) (fun j h1 h2 => (hW2 236 (j) (by omega)).trans (hW1 236 (j) (by omega)))
    have gLTk : LTk I2 := LTk_f hLTk ((hW2 0 (2) (by omega)).trans (hW1 0 (2) (by omega))) ((hW2 102 (5) (by omega)).trans (hW1 102 (5) (by omega))) (fun j => (hW2 106 (j) (by omega)).trans (hW1 106 (j) (by omega))) (fun j => (hW2 237 (j) (by omega)).trans (hW1 237 (j) (by omega)))
    have gLGc : LGc I2 := LGc_f hLGc (fun k j h1 h2 => (hW2 k j (by omega)).trans (hW1 k j (by omega))) (fun j h1 h2 => (hW2 236 (j) (by omega)).trans (hW1 236 (j) (by omega)))
    have gLGk : LGk I2 := LGk_f hLGk ((hW2 0 (2) (by omega)).trans (hW1 0 (2) (by omega))) (fun k j h1 h2 => (hW2 k j (by omega)).trans (hW1 k j (by omega))) (fun j => (hW2 237 (j) (by omega)).trans (hW1 237 (j) (by omega)))
    have gLRc : LRc I2 := LRc_f hR hLRc ((hW2 236 0 (by omega)).trans (hW1 236 0 (by omega))) (fun k j h1 h2 h3 h4 => (hW2 k j (by omega)).trans (hW1 k j (by omega))) (fun j h1 h2 h3 => (hW2 236 (j) (by omega)).trans (hW1 236 (j) (by omega)))
    have gLRk : LRk I2 := LRk_f hR hLRk ((hW2 0 2 (by omega)).trans (hW1 0 2 (by omega))) (fun k j h1 h2 => (hW2 k j (by omega)).trans (hW1 k j (by omega))) (fun j => (hW2 237 j (by omega)).trans (hW1 237 j (by omega)))
    have gI : LI I2 := ((hW2 0 (2) (by omega)).trans (hW1 0 (2) (by omega))).trans (hI.trans ((hW2 235 (2) (by omega)).trans (hW1 235 (2) (by omega))).symm)
    have gL0 : LA 1 1 1 0 1 I2 := LA_f hL0 (fun j hj => (hW2 1 (j + 1) (by omega)).trans (hW1 1 (j + 1) (by omega))) (fun j hj => (hW2 236 (0 + 1 * j) (by omega)).trans (hW1 236 (0 + 1 * j) (by omega)))
    have gB0 : LB 1 1 1 0 1 I2 := LB_f hB0 ((hW2 0 (2) (by omega)).trans (hW1 0 (2) (by omega))) (fun j hj => (hW2 102 (j + 1) (by omega)).trans (hW1 102 (j + 1) (by omega))) (fun j hj => (hW2 237 (0 + 1 * j) (by omega)).trans (hW1 237 (0 + 1 * j) (by omega)))
    have gL1 : LA 4 0 5 4 1 I2 := LA_f hL1 (fun j hj => (hW2 4 (j + 0) (by omega)).trans (hW1 4 (j + 0) (by omega))) (fun j hj => (hW2 236 (4 + 1 * j) (by omega)).trans (hW1 236 (4 + 1 * j) (by omega)))
    have gB1 : LB 4 0 5 4 1 I2 := LB_f hB1 ((hW2 0 (2) (by omega)).trans (hW1 0 (2) (by omega))) (fun j hj => (hW2 105 (j + 0) (by omega)).trans (hW1 105 (j + 0) (by omega))) (fun j hj => (hW2 237 (4 + 1 * j) (by omega)).trans (hW1 237 (4 + 1 * j) (by omega)))
    have gL2 : LA 12 6 1 1 1 I2 := LA_f hL2 (fun j hj => (hW2 12 (j + 6) (by omega)).trans (hW1 12 (j + 6) (by omega))) (fun j hj => (hW2 236 (1 + 1 * j) (by omega)).trans (hW1 236 (1 + 1 * j) (by omega)))
    have gB2 : LB 12 6 1 1 1 I2 := LB_f hB2 ((hW2 0 (2) (by omega)).trans (hW1 0 (2) (by omega))) (fun j hj => (hW2 113 (j + 6) (by omega)).trans (hW1 113 (j + 6) (by omega))) (fun j hj => (hW2 237 (1 + 1 * j) (by omega)).trans (hW1 237 (1 + 1 * j) (by omega)))
    have gL3 : LA 15 0 20 188 6 I2 := LA_f hL3 (fun j hj => (hW2 15 (j + 0) (by omega)).trans (hW1 15 (j + 0) (by omega))) (fun j hj => (hW2 236 (188 + 6 * j) (by omega)).trans (hW1 236 (188 + 6 * j) (by omega)))
    have gB3 : LB 15 0 20 188 6 I2 := LB_f hB3 ((hW2 0 (2) (by omega)).trans (hW1 0 (2) (by omega))) (fun j hj => (hW2 116 (j + 0) (by omega)).trans (hW1 116 (j + 0) (by omega))) (fun j hj => (hW2 237 (188 + 6 * j) (by omega)).trans (hW1 237 (188 + 6 * j) (by omega)))
    have gL4 : LA 8 0 6 16 4 I2 := LA_f hL4 (fun j hj => (hW2 8 (j + 0) (by omega)).trans (hW1 8 (j + 0) (by omega))) (fun j hj => (hW2 236 (16 + 4 * j) (by omega)).trans (hW1 236 (16 + 4 * j) (by omega)))
    have gB4 : LB 8 0 6 16 4 I2 := LB_f hB4 ((hW2 0 (2) (by omega)).trans (hW1 0 (2) (by omega))) (fun j hj => (hW2 109 (j + 0) (by omega)).trans (hW1 109 (j + 0) (by omega))) (fun j hj => (hW2 237 (16 + 4 * j) (by omega)).trans (hW1 237 (16 + 4 * j) (by omega)))
    exact ⟨gI, gL0, gB0, gL1, gB1, gL2, gB2, gL3, gB3, gL4, gB4, gLH, gLN, gLPc, gLPk, gLTc, gLTk, gLGc, gLGk, gLRc, gLRk⟩
  exact law_tail h ih hF hR2 hK2
theorem law_c32 (h : Bd G i) (ih : NXT G i) (hF : FS F) (hR : Rg I) (hK : LK I) : GoN G 1000 kL_law 0 NP 1388 (lvl i) [] F I Qlw := by
  refine law_wp law_oc ckL_law [1665] ?_
  refine ⟨rfl, ixl h (by decide), ixh h (by decide), ?_⟩
  refine ⟨rfl, ixl h (by decide), ixh h (by decide), ?_⟩
  refine ⟨rfl, ixl h (by decide), ixh h (by decide), ?_⟩
  refine ⟨⟨_, rfl, (by decide)⟩, ?_⟩
  refine c_sheet4 hF hR  (fun r1 I1 hR1 hA1 hr1 hW1 q1a => ?_)
  refine ⟨rfl, ixl h (by decide), ixh h (by decide), ?_⟩
  refine ⟨rfl, ixl h (by decide), ixh h (by decide), ?_⟩
  refine ⟨rfl, ixl h (by decide), ixh h (by decide), ?_⟩
  refine ⟨⟨_, rfl, (by decide)⟩, ?_⟩
  refine r_sheet4 hF hR1  (fun r2 I2 hR2 hA2 hr2 hW2 q2a => ?_)
  have hK2 : LK I2 := by
    have hI : I 0 2 = I 235 2 := hK.1
    have hL0 : LA 1 1 1 0 1 I := hK.2.1
    have hB0 : LB 1 1 1 0 1 I := hK.2.2.1
    have hL1 : LA 4 0 5 4 1 I := hK.2.2.2.1
    have hB1 : LB 4 0 5 4 1 I := hK.2.2.2.2.1
    have hL2 : LA 12 6 1 1 1 I := hK.2.2.2.2.2.1
    have hB2 : LB 12 6 1 1 1 I := hK.2.2.2.2.2.2.1
    have hL3 : LA 15 0 20 188 6 I := hK.2.2.2.2.2.2.2.1
    have hB3 : LB 15 0 20 188 6 I := hK.2.2.2.2.2.2.2.2.1
    have hL4 : LA 8 0 6 16 4 I := hK.2.2.2.2.2.2.2.2.2.1
    have hB4 : LB 8 0 6 16 4 I := hK.2.2.2.2.2.2.2.2.2.2.1
    have hLH : LH I := hK.2.2.2.2.2.2.2.2.2.2.2.1
    have hLN : LN I := hK.2.2.2.2.2.2.2.2.2.2.2.2.1
    have hLPc : LPc I := hK.2.2.2.2.2.2.2.2.2.2.2.2.2.1
    have hLPk : LPk I := hK.2.2.2.2.2.2.2.2.2.2.2.2.2.2.1
    have hLTc : LTc I := hK.2.2.2.2.2.2.2.2.2.2.2.2.2.2.2.1
    have hLTk : LTk I := hK.2.2.2.2.2.2.2.2.2.2.2.2.2.2.2.2.1
    have hLGc : LGc I := hK.2.2.2.2.2.2.2.2.2.2.2.2.2.2.2.2.2.1
    have hLGk : LGk I := hK.2.2.2.2.2.2.2.2.2.2.2.2.2.2.2.2.2.2.1
    have hLRc : LRc I := hK.2.2.2.2.2.2.2.2.2.2.2.2.2.2.2.2.2.2.2.1
    have hLRk : LRk I := hK.2.2.2.2.2.2.2.2.2.2.2.2.2.2.2.2.2.2.2.2
    have gLH : LH I2 := LH_s hLH q1a.2.1 q2a.2.1 (fun s hs => ⟨hW2 (227 + 2 * s) 0 (by omega), hW2 (227 + 2 * s) 1 (by omega)⟩) (fun s hs => ⟨hW1 250 s (by omega), hW1 251 s (by omega)⟩)
    have gLN : LN I2 := fun s j hs hj => ((hW2 (228 + 2 * s) j (by omega)).trans (q1a.2.2 s j hs hj)).trans ((congrArg (fun z => ite _ _ z) ((hLN s j hs hj).trans (hW1 252 (24 * s + j) (by omega)).symm)).trans (q2a.2.2 s j hs hj).symm)
    have gLPc : LPc I2 := LPc_f hR hLPc ((hW2 236 0 (by omega)).trans (hW1 236 0 (by omega))) (fun k j h1 h2 h3 => (hW2 k j (by omega)).trans (hW1 k j (by omega))) (fun j h1 h2 h3 h4 => (hW2 236 j (by omega)).trans (hW1 236 j (by omega)))
    have gLPk : LPk I2 := LPk_f hR hLPk ((hW2 0 2 (by omega)).trans (hW1 0 2 (by omega))) (fun k j h1 h2 => (hW2 k j (by omega)).trans (hW1 k j (by omega))) (fun j => (hW2 237 j (by omega)).trans (hW1 237 j (by omega)))
    have gLTc : LTc I2 := LTc_f hR hLTc ((hW2 1 (5) (by omega)).trans (hW1 1 (5) (by omega))) (fun j => (hW2 5 (j) (by omega)).trans (hW1 5 (j) (by omega))) ((hW2 236 (2) (by omega)).trans (hW1 236 (2) (by omega))) (fun j h1 h2 => (hW2 236 (j) (by omega)).trans (hW1 236 (j) (by omega)))
    have gLTk : LTk I2 := LTk_f hLTk ((hW2 0 (2) (by omega)).trans (hW1 0 (2) (by omega))) ((hW2 102 (5) (by omega)).trans (hW1 102 (5) (by omega))) (fun j => (hW2 106 (j) (by omega)).trans (hW1 106 (j) (by omega))) (fun j => (hW2 237 (j) (by omega)).trans (hW1 237 (j) (by omega)))
    have gLGc : LGc I2 := LGc_f hLGc (fun k j h1 h2 => (hW2 k j (by omega)).trans (hW1 k j (by omega))) (fun j h1 h2 => (hW2 236 (j) (by omega)).trans (hW1 236 (j) (by omega)))
    have gLGk : LGk I2 := LGk_f hLGk ((hW2 0 (2) (by omega)).trans (hW1 0 (2) (by omega))) (fun k j h1 h2 => (hW2 k j (by omega)).trans (hW1 k j (by omega))) (fun j => (hW2 237 (j) (by omega)).trans (hW1 237 (j) (by omega)))
    have gLRc : LRc I2 := LRc_f hR hLRc ((hW2 236 0 (by omega)).trans (hW1 236 0 (by omega))) (fun k j h1 h2 h3 h4 => (hW2 k j (by omega)).trans (hW1 k j (by omega))) (fun j h1 h2 h3 => (hW2 236 (j) (by omega)).trans (hW1 236 (j) (by omega)))
    have gLRk : LRk I2 := LRk_f hR hLRk ((hW2 0 2 (by omega)).trans (hW1 0 2 (by omega))) (fun k j h1 h2 => (hW2 k j (by omega)).trans (hW1 k j (by omega))) (fun j => (hW2 237 j (by omega)).trans (hW1 237 j (by omega)))
    have gI : LI I2 := ((hW2 0 (2) (by omega)).trans (hW1 0 (2) (by omega))).trans (hI.trans ((hW2 235 (2) (by omega)).trans (hW1 235 (2) (by omega))).symm)
    have gL0 : LA 1 1 1 0 1 I2 := LA_f hL0 (fun j hj => (hW2 1 (j + 1) (by omega)).trans (hW1 1 (j + 1) (by omega))) (fun j hj => (hW2 236 (0 + 1 * j) (by omega)).trans (hW1 236 (0 + 1 * j) (by omega)))
    have gB0 : LB 1 1 1 0 1 I2 := LB_f hB0 ((hW2 0 (2) (by omega)).trans (hW1 0 (2) (by omega))) (fun j hj => (hW2 102 (j + 1) (by omega)).trans (hW1 102 (j + 1) (by omega))) (fun j hj => (hW2 237 (0 + 1 * j) (by omega)).trans (hW1 237 (0 + 1 * j) (by omega)))
    have gL1 : LA 4 0 5 4 1 I2 := LA_f hL1 (fun j hj => (hW2 4 (j + 0) (by omega)).trans (hW1 4 (j + 0) (by omega))) (fun j hj => (hW2 236 (4 + 1 * j) (by omega)).trans (hW1 236 (4 + 1 * j) (by omega)))
    have gB1 : LB 4 0 5 4 1 I2 := LB_f hB1 ((hW2 0 (2) (by omega)).trans (hW1 0 (2) (by omega))) (fun j hj => (hW2 105 (j + 0) (by omega)).trans (hW1 105 (j + 0) (by omega))) (fun j hj => (hW2 237 (4 + 1 * j) (by omega)).trans (hW1 237 (4 + 1 * j) (by omega)))
    have gL2 : LA 12 6 1 1 1 I2 := LA_f hL2 (fun j hj => (hW2 12 (j + 6) (by omega)).trans (hW1 12 (j + 6) (by omega))) (fun j hj => (hW2 236 (1 + 1 * j) (by omega)).trans (hW1 236 (1 + 1 * j) (by omega)))
    have gB2 : LB 12 6 1 1 1 I2 := LB_f hB2 ((hW2 0 (2) (by omega)).trans (hW1 0 (2) (by omega))) (fun j hj => (hW2 113 (j + 6) (by omega)).trans (hW1 113 (j + 6) (by omega))) (fun j hj => (hW2 237 (1 + 1 * j) (by omega)).trans (hW1 237 (1 + 1 * j) (by omega)))
    have gL3 : LA 15 0 20 188 6 I2 := LA_f hL3 (fun j hj => (hW2 15 (j + 0) (by omega)).trans (hW1 15 (j + 0) (by omega))) (fun j hj => (hW2 236 (188 + 6 * j) (by omega)).trans (hW1 236 (188 + 6 * j) (by omega)))
    have gB3 : LB 15 0 20 188 6 I2 := LB_f hB3 ((hW2 0 (2) (by omega)).trans (hW1 0 (2) (by omega))) (fun j hj => (hW2 116 (j + 0) (by omega)).trans (hW1 116 (j + 0) (by omega))) (fun j hj => (hW2 237 (188 + 6 * j) (by omega)).trans (hW1 237 (188 + 6 * j) (by omega)))
    have gL4 : LA 8 0 6 16 4 I2 := LA_f hL4 (fun j hj => (hW2 8 (j + 0) (by omega)).trans (hW1 8 (j + 0) (by omega))) (fun j hj => (hW2 236 (16 + 4 * j) (by omega)).trans (hW1 236 (16 + 4 * j) (by omega)))
    have gB4 : LB 8 0 6 16 4 I2 := LB_f hB4 ((hW2 0 (2) (by omega)).trans (hW1 0 (2) (by omega))) (fun j hj => (hW2 109 (j + 0) (by omega)).trans (hW1 109 (j + 0) (by omega))) (fun j hj => (hW2 237 (16 + 4 * j) (by omega)).trans (hW1 237 (16 + 4 * j) (by omega)))
    exact ⟨gI, gL0, gB0, gL1, gB1, gL2, gB2, gL3, gB3, gL4, gB4, gLH, gLN, gLPc, gLPk, gLTc, gLTk, gLGc, gLGk, gLRc, gLRk⟩
  exact law_tail h ih hF hR2 hK2
theorem law_c33 (h : Bd G i) (ih : NXT G i) (hF : FS F) (hR : Rg I) (hK : LK I) : GoN G 1000 kL_law 0 NP 1431 (lvl i) [] F I Qlw := by
  refine law_wp law_oc ckL_law [1665] ?_
  refine ⟨rfl, ixl h (by decide), ixh h (by decide), ?_⟩
  refine ⟨rfl, ixl h (by decide), ixh h (by decide), ?_⟩
  refine ⟨rfl, ixl h (by decide), ixh h (by decide), ?_⟩
  refine ⟨⟨_, rfl, (by decide)⟩, ?_⟩
  refine c_put4 hF hR  (fun r1 I1 hR1 hA1 hr1 hW1 q1a => ?_)
  refine ⟨rfl, ixl h (by decide), ixh h (by decide), ?_⟩
  refine ⟨rfl, ixl h (by decide), ixh h (by decide), ?_⟩
  refine ⟨rfl, ixl h (by decide), ixh h (by decide), ?_⟩
  refine ⟨⟨_, rfl, (by decide)⟩, ?_⟩
  refine r_put4 hF hR1  (fun r2 I2 hR2 hA2 hr2 hW2 q2a => ?_)
  have hK2 : LK I2 := by
    have hI : I 0 2 = I 235 2 := hK.1
    have hL0 : LA 1 1 1 0 1 I := hK.2.1
    have hB0 : LB 1 1 1 0 1 I := hK.2.2.1
    have hL1 : LA 4 0 5 4 1 I := hK.2.2.2.1
    have hB1 : LB 4 0 5 4 1 I := hK.2.2.2.2.1
    have hL2 : LA 12 6 1 1 1 I := hK.2.2.2.2.2.1
    have hB2 : LB 12 6 1 1 1 I := hK.2.2.2.2.2.2.1
    have hL3 : LA 15 0 20 188 6 I := hK.2.2.2.2.2.2.2.1
    have hB3 : LB 15 0 20 188 6 I := hK.2.2.2.2.2.2.2.2.1
    have hL4 : LA 8 0 6 16 4 I := hK.2.2.2.2.2.2.2.2.2.1
    have hB4 : LB 8 0 6 16 4 I := hK.2.2.2.2.2.2.2.2.2.2.1
    have hLH : LH I := hK.2.2.2.2.2.2.2.2.2.2.2.1
    have hLN : LN I := hK.2.2.2.2.2.2.2.2.2.2.2.2.1
    have hLPc : LPc I := hK.2.2.2.2.2.2.2.2.2.2.2.2.2.1
    have hLPk : LPk I := hK.2.2.2.2.2.2.2.2.2.2.2.2.2.2.1
    have hLTc : LTc I := hK.2.2.2.2.2.2.2.2.2.2.2.2.2.2.2.1
    have hLTk : LTk I := hK.2.2.2.2.2.2.2.2.2.2.2.2.2.2.2.2.1
    have hLGc : LGc I := hK.2.2.2.2.2.2.2.2.2.2.2.2.2.2.2.2.2.1
    have hLGk : LGk I := hK.2.2.2.2.2.2.2.2.2.2.2.2.2.2.2.2.2.2.1
    have hLRc : LRc I := hK.2.2.2.2.2.2.2.2.2.2.2.2.2.2.2.2.2.2.2.1
    have hLRk : LRk I := hK.2.2.2.2.2.2.2.2.2.2.2.2.2.2.2.2.2.2.2.2
    have gLH : LH I2 := LH_f hLH (fun s hs => ⟨(hW2 (227 + 2 * s) 0 (by omega)).trans (hW1 (227 + 2 * s) 0 (by omega)), (hW2 (227 + 2 * s) 1 (by omega)).trans (hW1 (227 + 2 * s) 1 (by omega))⟩) (fun s hs => ⟨(hW2 250 s (by omega)).trans (hW1 250 s (by omega)), (hW2 251 s (by omega)).trans (hW1 251 s (by omega))⟩)
    have gLN : LN I2 := put_k hLH hLN q1a.2 q2a.2 (fun s j hs hj => hW2 (228 + 2 * s) j (by omega)) (fun k j h => hW1 k j (by omega))
    have gLPc : LPc I2 := LPc_f hR hLPc ((hW2 236 0 (by omega)).trans (hW1 236 0 (by omega))) (fun k j h1 h2 h3 => (hW2 k j (by omega)).trans (hW1 k j (by omega))) (fun j h1 h2 h3 h4 => (hW2 236 j (by omega)).trans (hW1 236 j (by omega)))
    have gLPk : LPk I2 := LPk_f hR hLPk ((hW2 0 2 (by omega)).trans (hW1 0 2 (by omega))) (fun k j h1 h2 => (hW2 k j (by omega)).trans (hW1 k j (by omega))) (fun j => (hW2 237 j (by omega)).trans (hW1 237 j (by omega)))
    have gLTc : LTc I2 := LTc_f hR hLTc ((hW2 1 (5) (by omega)).trans (hW1 1 (5) (by omega))) (fun j => (hW2 5 (j) (by omega)).trans (hW1 5 (j) (by omega))) ((hW2 236 (2) (by omega)).trans (hW1 236 (2) (by omega))) (fun j h1 h2 => (hW2 236 (j) (by omega)).trans (hW1 236 (j) (by omega)))
    have gLTk : LTk I2 := LTk_f hLTk ((hW2 0 (2) (by omega)).trans (hW1 0 (2) (by omega))) ((hW2 102 (5) (by omega)).trans (hW1 102 (5) (by omega))) (fun j => (hW2 106 (j) (by omega)).trans (hW1 106 (j) (by omega))) (fun j => (hW2 237 (j) (by omega)).trans (hW1 237 (j) (by omega)))
    have gLGc : LGc I2 := LGc_f hLGc (fun k j h1 h2 => (hW2 k j (by omega)).trans (hW1 k j (by omega))) (fun j h1 h2 => (hW2 236 (j) (by omega)).trans (hW1 236 (j) (by omega)))
    have gLGk : LGk I2 := LGk_f hLGk ((hW2 0 (2) (by omega)).trans (hW1 0 (2) (by omega))) (fun k j h1 h2 => (hW2 k j (by omega)).trans (hW1 k j (by omega))) (fun j => (hW2 237 (j) (by omega)).trans (hW1 237 (j) (by omega)))
    have gLRc : LRc I2 := LRc_f hR hLRc ((hW2 236 0 (by omega)).trans (hW1 236 0 (by omega))) (fun k j h1 h2 h3 h4 => (hW2 k j (by omega)).trans (hW1 k j (by omega))) (fun j h1 h2 h3 => (hW2 236 (j) (by omega)).trans (hW1 236 (j) (by omega)))
    have gLRk : LRk I2 := LRk_f hR hLRk ((hW2 0 2 (by omega)).trans (hW1 0 2 (by omega))) (fun k j h1 h2 => (hW2 k j (by omega)).trans (hW1 k j (by omega))) (fun j => (hW2 237 j (by omega)).trans (hW1 237 j (by omega)))
    have gI : LI I2 := ((hW2 0 (2) (by omega)).trans (hW1 0 (2) (by omega))).trans (hI.trans ((hW2 235 (2) (by omega)).trans (hW1 235 (2) (by omega))).symm)
    have gL0 : LA 1 1 1 0 1 I2 := LA_f hL0 (fun j hj => (hW2 1 (j + 1) (by omega)).trans (hW1 1 (j + 1) (by omega))) (fun j hj => (hW2 236 (0 + 1 * j) (by omega)).trans (hW1 236 (0 + 1 * j) (by omega)))
    have gB0 : LB 1 1 1 0 1 I2 := LB_f hB0 ((hW2 0 (2) (by omega)).trans (hW1 0 (2) (by omega))) (fun j hj => (hW2 102 (j + 1) (by omega)).trans (hW1 102 (j + 1) (by omega))) (fun j hj => (hW2 237 (0 + 1 * j) (by omega)).trans (hW1 237 (0 + 1 * j) (by omega)))
    have gL1 : LA 4 0 5 4 1 I2 := LA_f hL1 (fun j hj => (hW2 4 (j + 0) (by omega)).trans (hW1 4 (j + 0) (by omega))) (fun j hj => (hW2 236 (4 + 1 * j) (by omega)).trans (hW1 236 (4 + 1 * j) (by omega)))
    have gB1 : LB 4 0 5 4 1 I2 := LB_f hB1 ((hW2 0 (2) (by omega)).trans (hW1 0 (2) (by omega))) (fun j hj => (hW2 105 (j + 0) (by omega)).trans (hW1 105 (j + 0) (by omega))) (fun j hj => (hW2 237 (4 + 1 * j) (by omega)).trans (hW1 237 (4 + 1 * j) (by omega)))
    have gL2 : LA 12 6 1 1 1 I2 := LA_f hL2 (fun j hj => (hW2 12 (j + 6) (by omega)).trans (hW1 12 (j + 6) (by omega))) (fun j hj => (hW2 236 (1 + 1 * j) (by omega)).trans (hW1 236 (1 + 1 * j) (by omega)))
    have gB2 : LB 12 6 1 1 1 I2 := LB_f hB2 ((hW2 0 (2) (by omega)).trans (hW1 0 (2) (by omega))) (fun j hj => (hW2 113 (j + 6) (by omega)).trans (hW1 113 (j + 6) (by omega))) (fun j hj => (hW2 237 (1 + 1 * j) (by omega)).trans (hW1 237 (1 + 1 * j) (by omega)))
    have gL3 : LA 15 0 20 188 6 I2 := LA_f hL3 (fun j hj => (hW2 15 (j + 0) (by omega)).trans (hW1 15 (j + 0) (by omega))) (fun j hj => (hW2 236 (188 + 6 * j) (by omega)).trans (hW1 236 (188 + 6 * j) (by omega)))
    have gB3 : LB 15 0 20 188 6 I2 := LB_f hB3 ((hW2 0 (2) (by omega)).trans (hW1 0 (2) (by omega))) (fun j hj => (hW2 116 (j + 0) (by omega)).trans (hW1 116 (j + 0) (by omega))) (fun j hj => (hW2 237 (188 + 6 * j) (by omega)).trans (hW1 237 (188 + 6 * j) (by omega)))
    have gL4 : LA 8 0 6 16 4 I2 := LA_f hL4 (fun j hj => (hW2 8 (j + 0) (by omega)).trans (hW1 8 (j + 0) (by omega))) (fun j hj => (hW2 236 (16 + 4 * j) (by omega)).trans (hW1 236 (16 + 4 * j) (by omega)))
    have gB4 : LB 8 0 6 16 4 I2 := LB_f hB4 ((hW2 0 (2) (by omega)).trans (hW1 0 (2) (by omega))) (fun j hj => (hW2 109 (j + 0) (by omega)).trans (hW1 109 (j + 0) (by omega))) (fun j hj => (hW2 237 (16 + 4 * j) (by omega)).trans (hW1 237 (16 + 4 * j) (by omega)))
    exact ⟨gI, gL0, gB0, gL1, gB1, gL2, gB2, gL3, gB3, gL4, gB4, gLH, gLN, gLPc, gLPk, gLTc, gLTk, gLGc, gLGk, gLRc, gLRk⟩
  exact law_tail h ih hF hR2 hK2
theorem law_c34 (h : Bd G i) (ih : NXT G i) (hF : FS F) (hR : Rg I) (hK : LK I) : GoN G 1000 kL_law 0 NP 1474 (lvl i) [] F I Qlw := by
  refine law_wp law_oc ckL_law [1665] ?_
  refine ⟨rfl, ixl h (by decide), ixh h (by decide), ?_⟩
  refine ⟨rfl, ixl h (by decide), ixh h (by decide), ?_⟩
  refine ⟨rfl, ixl h (by decide), ixh h (by decide), ?_⟩
  refine ⟨rfl, ixl h (by decide), ixh h (by decide), ?_⟩
  refine ⟨rfl, ixl h (by decide), ixh h (by decide), ?_⟩
  refine ⟨⟨_, rfl, (by decide)⟩, ?_⟩
  refine c_move4 hF hR  (fun r1 I1 hR1 hA1 hr1 hW1 q1a => ?_)
  refine ⟨rfl, ixl h (by decide), ixh h (by decide), ?_⟩
  refine ⟨rfl, ixl h (by decide), ixh h (by decide), ?_⟩
  refine ⟨rfl, ixl h (by decide), ixh h (by decide), ?_⟩
  refine ⟨rfl, ixl h (by decide), ixh h (by decide), ?_⟩
  refine ⟨rfl, ixl h (by decide), ixh h (by decide), ?_⟩
  refine ⟨⟨_, rfl, (by decide)⟩, ?_⟩
  refine r_move4 hF hR1  (fun r2 I2 hR2 hA2 hr2 hW2 q2a => ?_)
  have hK2 : LK I2 := by
    have hI : I 0 2 = I 235 2 := hK.1
    have hL0 : LA 1 1 1 0 1 I := hK.2.1
    have hB0 : LB 1 1 1 0 1 I := hK.2.2.1
    have hL1 : LA 4 0 5 4 1 I := hK.2.2.2.1
    have hB1 : LB 4 0 5 4 1 I := hK.2.2.2.2.1
    have hL2 : LA 12 6 1 1 1 I := hK.2.2.2.2.2.1
    have hB2 : LB 12 6 1 1 1 I := hK.2.2.2.2.2.2.1
    have hL3 : LA 15 0 20 188 6 I := hK.2.2.2.2.2.2.2.1
    have hB3 : LB 15 0 20 188 6 I := hK.2.2.2.2.2.2.2.2.1
    have hL4 : LA 8 0 6 16 4 I := hK.2.2.2.2.2.2.2.2.2.1
    have hB4 : LB 8 0 6 16 4 I := hK.2.2.2.2.2.2.2.2.2.2.1
    have hLH : LH I := hK.2.2.2.2.2.2.2.2.2.2.2.1
    have hLN : LN I := hK.2.2.2.2.2.2.2.2.2.2.2.2.1
    have hLPc : LPc I := hK.2.2.2.2.2.2.2.2.2.2.2.2.2.1
    have hLPk : LPk I := hK.2.2.2.2.2.2.2.2.2.2.2.2.2.2.1
    have hLTc : LTc I := hK.2.2.2.2.2.2.2.2.2.2.2.2.2.2.2.1
    have hLTk : LTk I := hK.2.2.2.2.2.2.2.2.2.2.2.2.2.2.2.2.1
    have hLGc : LGc I := hK.2.2.2.2.2.2.2.2.2.2.2.2.2.2.2.2.2.1
    have hLGk : LGk I := hK.2.2.2.2.2.2.2.2.2.2.2.2.2.2.2.2.2.2.1
    have hLRc : LRc I := hK.2.2.2.2.2.2.2.2.2.2.2.2.2.2.2.2.2.2.2.1
    have hLRk : LRk I := hK.2.2.2.2.2.2.2.2.2.2.2.2.2.2.2.2.2.2.2.2
    have gLH : LH I2 := LH_f hLH (fun s hs => ⟨(hW2 (227 + 2 * s) 0 (by omega)).trans (hW1 (227 + 2 * s) 0 (by omega)), (hW2 (227 + 2 * s) 1 (by omega)).trans (hW1 (227 + 2 * s) 1 (by omega))⟩) (fun s hs => ⟨(hW2 250 s (by omega)).trans (hW1 250 s (by omega)), (hW2 251 s (by omega)).trans (hW1 251 s (by omega))⟩)
    have gLN : LN I2 := move_k hR hLH hLN q1a.2 q2a.2 (fun s j hs hj => hW2 (228 + 2 * s) j (by omega)) (fun k j h => hW1 k j (by omega))
    have gLPc : LPc I2 := LPc_f hR hLPc ((hW2 236 0 (by omega)).trans (hW1 236 0 (by omega))) (fun k j h1 h2 h3 => (hW2 k j (by omega)).trans (hW1 k j (by omega))) (fun j h1 h2 h3 h4 => (hW2 236 j (by omega)).trans (hW1 236 j (by omega)))
    have gLPk : LPk I2 := LPk_f hR hLPk ((hW2 0 2 (by omega)).trans (hW1 0 2 (by omega))) (fun k j h1 h2 => (hW2 k j (by omega)).trans (hW1 k j (by omega))) (fun j => (hW2 237 j (by omega)).trans (hW1 237 j (by omega)))
    have gLTc : LTc I2 := LTc_f hR hLTc ((hW2 1 (5) (by omega)).trans (hW1 1 (5) (by omega))) (fun j => (hW2 5 (j) (by omega)).trans (hW1 5 (j) (by omega))) ((hW2 236 (2) (by omega)).trans (hW1 236 (2) (by omega))) (fun j h1 h2 => (hW2 236 (j) (by omega)).trans (hW1 236 (j) (by omega)))
    have gLTk : LTk I2 := LTk_f hLTk ((hW2 0 (2) (by omega)).trans (hW1 0 (2) (by omega))) ((hW2 102 (5) (by omega)).trans (hW1 102 (5) (by omega))) (fun j => (hW2 106 (j) (by omega)).trans (hW1 106 (j) (by omega))) (fun j => (hW2 237 (j) (by omega)).trans (hW1 237 (j) (by omega)))
    have gLGc : LGc I2 := LGc_f hLGc (fun k j h1 h2 => (hW2 k j (by omega)).trans (hW1 k j (by omega))) (fun j h1 h2 => (hW2 236 (j) (by omega)).trans (hW1 236 (j) (by omega)))
    have gLGk : LGk I2 := LGk_f hLGk ((hW2 0 (2) (by omega)).trans (hW1 0 (2) (by omega))) (fun k j h1 h2 => (hW2 k j (by omega)).trans (hW1 k j (by omega))) (fun j => (hW2 237 (j) (by omega)).trans (hW1 237 (j) (by omega)))
    have gLRc : LRc I2 := LRc_f hR hLRc ((hW2 236 0 (by omega)).trans (hW1 236 0 (by omega))) (fun k j h1 h2 h3 h4 => (hW2 k j (by omega)).trans (hW1 k j (by omega))) (fun j h1 h2 h3 => (hW2 236 (j) (by omega)).trans (hW1 236 (j) (by omega)))
    have gLRk : LRk I2 := LRk_f hR hLRk ((hW2 0 2 (by omega)).trans (hW1 0 2 (by omega))) (fun k j h1 h2 => (hW2 k j (by omega)).trans (hW1 k j (by omega))) (fun j => (hW2 237 j (by omega)).trans (hW1 237 j (by omega)))
    have gI : LI I2 := ((hW2 0 (2) (by omega)).trans (hW1 0 (2) (by omega))).trans (hI.trans ((hW2 235 (2) (by omega)).trans (hW1 235 (2) (by omega))).symm)
    have gL0 : LA 1 1 1 0 1 I2 := LA_f hL0 (fun j hj => (hW2 1 (j + 1) (by omega)).trans (hW1 1 (j + 1) (by omega))) (fun j hj => (hW2 236 (0 + 1 * j) (by omega)).trans (hW1 236 (0 + 1 * j) (by omega)))
    have gB0 : LB 1 1 1 0 1 I2 := LB_f hB0 ((hW2 0 (2) (by omega)).trans (hW1 0 (2) (by omega))) (fun j hj => (hW2 102 (j + 1) (by omega)).trans (hW1 102 (j + 1) (by omega))) (fun j hj => (hW2 237 (0 + 1 * j) (by omega)).trans (hW1 237 (0 + 1 * j) (by omega)))
    have gL1 : LA 4 0 5 4 1 I2 := LA_f hL1 (fun j hj => (hW2 4 (j + 0) (by omega)).trans (hW1 4 (j + 0) (by omega))) (fun j hj => (hW2 236 (4 + 1 * j) (by omega)).trans (hW1 236 (4 + 1 * j) (by omega)))
    have gB1 : LB 4 0 5 4 1 I2 := LB_f hB1 ((hW2 0 (2) (by omega)).trans (hW1 0 (2) (by omega))) (fun j hj => (hW2 105 (j + 0) (by omega)).trans (hW1 105 (j + 0) (by omega))) (fun j hj => (hW2 237 (4 + 1 * j) (by omega)).trans (hW1 237 (4 + 1 * j) (by omega)))
    have gL2 : LA 12 6 1 1 1 I2 := LA_f hL2 (fun j hj => (hW2 12 (j + 6) (by omega)).trans (hW1 12 (j + 6) (by omega))) (fun j hj => (hW2 236 (1 + 1 * j) (by omega)).trans (hW1 236 (1 + 1 * j) (by omega)))
    have gB2 : LB 12 6 1 1 1 I2 := LB_f hB2 ((hW2 0 (2) (by omega)).trans (hW1 0 (2) (by omega))) (fun j hj => (hW2 113 (j + 6) (by omega)).trans (hW1 113 (j + 6) (by omega))) (fun j hj => (hW2 237 (1 + 1 * j) (by omega)).trans (hW1 237 (1 + 1 * j) (by omega)))
    have gL3 : LA 15 0 20 188 6 I2 := LA_f hL3 (fun j hj => (hW2 15 (j + 0) (by omega)).trans (hW1 15 (j + 0) (by omega))) (fun j hj => (hW2 236 (188 + 6 * j) (by omega)).trans (hW1 236 (188 + 6 * j) (by omega)))
    have gB3 : LB 15 0 20 188 6 I2 := LB_f hB3 ((hW2 0 (2) (by omega)).trans (hW1 0 (2) (by omega))) (fun j hj => (hW2 116 (j + 0) (by omega)).trans (hW1 116 (j + 0) (by omega))) (fun j hj => (hW2 237 (188 + 6 * j) (by omega)).trans (hW1 237 (188 + 6 * j) (by omega)))
    have gL4 : LA 8 0 6 16 4 I2 := LA_f hL4 (fun j hj => (hW2 8 (j + 0) (by omega)).trans (hW1 8 (j + 0) (by omega))) (fun j hj => (hW2 236 (16 + 4 * j) (by omega)).trans (hW1 236 (16 + 4 * j) (by omega)))
    have gB4 : LB 8 0 6 16 4 I2 := LB_f hB4 ((hW2 0 (2) (by omega)).trans (hW1 0 (2) (by omega))) (fun j hj => (hW2 109 (j + 0) (by omega)).trans (hW1 109 (j + 0) (by omega))) (fun j hj => (hW2 237 (16 + 4 * j) (by omega)).trans (hW1 237 (16 + 4 * j) (by omega)))
    exact ⟨gI, gL0, gB0, gL1, gB1, gL2, gB2, gL3, gB3, gL4, gB4, gLH, gLN, gLPc, gLPk, gLTc, gLTk, gLGc, gLGk, gLRc, gLRk⟩
  exact law_tail h ih hF hR2 hK2
theorem law_c35 (h : Bd G i) (ih : NXT G i) (hF : FS F) (hR : Rg I) (hK : LK I) : GoN G 1000 kL_law 0 NP 1537 (lvl i) [] F I Qlw := by
  refine law_wp law_oc ckL_law [1665] ?_
  refine ⟨⟨_, rfl, (by decide)⟩, ?_⟩
  refine c_image9 hF hR  (fun r1 I1 hR1 hA1 hr1 hW1 q1a q1b q1c q1d q1e q1f q1g q1h q1i q1j => ?_)
  refine ⟨⟨_, rfl, (by decide)⟩, ?_⟩
  refine r_image2 hF hR1  (fun r2 I2 hR2 hA2 hr2 hW2 q2a q2b q2c => ?_)
  have hK2 : LK I2 := by
    have hI : I 0 2 = I 235 2 := hK.1
    have hL0 : LA 1 1 1 0 1 I := hK.2.1
    have hB0 : LB 1 1 1 0 1 I := hK.2.2.1
    have hL1 : LA 4 0 5 4 1 I := hK.2.2.2.1
    have hB1 : LB 4 0 5 4 1 I := hK.2.2.2.2.1
    have hL2 : LA 12 6 1 1 1 I := hK.2.2.2.2.2.1
    have hB2 : LB 12 6 1 1 1 I := hK.2.2.2.2.2.2.1
    have hL3 : LA 15 0 20 188 6 I := hK.2.2.2.2.2.2.2.1
    have hB3 : LB 15 0 20 188 6 I := hK.2.2.2.2.2.2.2.2.1
    have hL4 : LA 8 0 6 16 4 I := hK.2.2.2.2.2.2.2.2.2.1
    have hB4 : LB 8 0 6 16 4 I := hK.2.2.2.2.2.2.2.2.2.2.1
    have hLH : LH I := hK.2.2.2.2.2.2.2.2.2.2.2.1
    have hLN : LN I := hK.2.2.2.2.2.2.2.2.2.2.2.2.1
    have hLPc : LPc I := hK.2.2.2.2.2.2.2.2.2.2.2.2.2.1
    have hLPk : LPk I := hK.2.2.2.2.2.2.2.2.2.2.2.2.2.2.1
    have hLTc : LTc I := hK.2.2.2.2.2.2.2.2.2.2.2.2.2.2.2.1
    have hLTk : LTk I := hK.2.2.2.2.2.2.2.2.2.2.2.2.2.2.2.2.1
    have hLGc : LGc I := hK.2.2.2.2.2.2.2.2.2.2.2.2.2.2.2.2.2.1
    have hLGk : LGk I := hK.2.2.2.2.2.2.2.2.2.2.2.2.2.2.2.2.2.2.1
    have hLRc : LRc I := hK.2.2.2.2.2.2.2.2.2.2.2.2.2.2.2.2.2.2.2.1
    have hLRk : LRk I := hK.2.2.2.2.2.2.2.2.2.2.2.2.2.2.2.2.2.2.2.2
    have gLH : LH I2 := LH_f hLH (fun s hs => ⟨(hW2 (227 + 2 * s) 0 (by omega)).trans (hW1 (227 + 2 * s) 0 (by omega)), (hW2 (227 + 2 * s) 1 (by omega)).trans (hW1 (227 + 2 * s) 1 (by omega))⟩) (fun s hs => ⟨(hW2 250 s (by omega)).trans (hW1 250 s (by omega)), (hW2 251 s (by omega)).trans (hW1 251 s (by omega))⟩)
    have gLN : LN I2 := LN_f hLN (fun s j hs hj => (hW2 (228 + 2 * s) j (by omega)).trans (hW1 (228 + 2 * s) j (by omega))) (fun s j hs hj => (hW2 252 (24 * s + j) (by omega)).trans (hW1 252 (24 * s + j) (by omega)))
    have gLPc : LPc I2 := LPc_f hR hLPc ((hW2 236 0 (by omega)).trans (hW1 236 0 (by omega))) (fun k j h1 h2 h3 => (hW2 k j (by omega)).trans (hW1 k j (by omega))) (fun j h1 h2 h3 h4 => (hW2 236 j (by omega)).trans (hW1 236 j (by omega)))
    have gLPk : LPk I2 := LPk_i hR hLPc (fun p hp => PCP_f (q1i p hp) (fun k j _ _ => hW2 k j (by omega)) (fun _ _ _ _ => rfl)) (fun j hj => (q2a j hj).trans (hW1 236 j (by omega)))
    have gLTc : LTc I2 := LTc_f hR hLTc ((hW2 1 (5) (by omega)).trans (hW1 1 (5) (by omega))) (fun j => (hW2 5 (j) (by omega)).trans (hW1 5 (j) (by omega))) ((hW2 236 (2) (by omega)).trans (hW1 236 (2) (by omega))) (fun j h1 h2 => (hW2 236 (j) (by omega)).trans (hW1 236 (j) (by omega)))
    have gLTk : LTk I2 := LTk_i hR hLTc ((hW2 102 5 (by omega)).trans q1d) (fun j hj => (hW2 106 j (by omega)).trans (q1h.2.1 j hj)) (fun j hj => (q2a j hj).trans (hW1 236 j (by omega)))
    have gLGc : LGc I2 := LGc_f hLGc (fun k j h1 h2 => (hW2 k j (by omega)).trans (hW1 k j (by omega))) (fun j h1 h2 => (hW2 236 (j) (by omega)).trans (hW1 236 (j) (by omega)))
    have gLGk : LGk I2 := LGk_i hLGc (fun v hv => GCP_y (q1j v hv) (fun k j _ _ => hW2 k j (by omega))) (fun j hj => (q2a j hj).trans (hW1 236 j (by omega)))
    have gLRc : LRc I2 := LRc_f hR hLRc ((hW2 236 0 (by omega)).trans (hW1 236 0 (by omega))) (fun k j h1 h2 h3 h4 => (hW2 k j (by omega)).trans (hW1 k j (by omega))) (fun j h1 h2 h3 => (hW2 236 (j) (by omega)).trans (hW1 236 (j) (by omega)))
    have gLRk : LRk I2 := LRk_i hR hLRc (fun p hp => PCP_f (q1i p hp) (fun k j _ _ => hW2 k j (by omega)) (fun _ _ _ _ => rfl)) (fun j hj => (q2a j hj).trans (hW1 236 j (by omega)))
    have gI : LI I2 := by
      have a := hW2 0 2 (by omega)
      have b := hW1 235 2 (by omega)
      show I2 0 2 = I2 235 2
      rw [a, q1b, q2c, b, hI]
    have gL0 : LA 1 1 1 0 1 I2 := LA_f hL0 (fun j hj => (hW2 1 (j + 1) (by omega)).trans (hW1 1 (j + 1) (by omega))) (fun j hj => (hW2 236 (0 + 1 * j) (by omega)).trans (hW1 236 (0 + 1 * j) (by omega)))
    have gB0 : LB 1 1 1 0 1 I2 := LB_i hL0 (fun j hj => (by
        obtain rfl : j = 0 := by omega
        exact (hW2 102 (0 + 1) (by omega)).trans (q1c))) (fun j hj => (q2a (0 + 1 * j) (by omega)).trans (hW1 236 (0 + 1 * j) (by omega)))
    have gL1 : LA 4 0 5 4 1 I2 := LA_f hL1 (fun j hj => (hW2 4 (j + 0) (by omega)).trans (hW1 4 (j + 0) (by omega))) (fun j hj => (hW2 236 (4 + 1 * j) (by omega)).trans (hW1 236 (4 + 1 * j) (by omega)))
    have gB1 : LB 4 0 5 4 1 I2 := LB_i hL1 (fun j hj => (hW2 105 (j) (by omega)).trans (q1h.1 j hj)) (fun j hj => (q2a (4 + 1 * j) (by omega)).trans (hW1 236 (4 + 1 * j) (by omega)))
    have gL2 : LA 12 6 1 1 1 I2 := LA_f hL2 (fun j hj => (hW2 12 (j + 6) (by omega)).trans (hW1 12 (j + 6) (by omega))) (fun j hj => (hW2 236 (1 + 1 * j) (by omega)).trans (hW1 236 (1 + 1 * j) (by omega)))
    have gB2 : LB 12 6 1 1 1 I2 := LB_i hL2 (fun j hj => (by
        obtain rfl : j = 0 := by omega
        exact (hW2 113 (0 + 6) (by omega)).trans (q1g))) (fun j hj => (q2a (1 + 1 * j) (by omega)).trans (hW1 236 (1 + 1 * j) (by omega)))
    have gL3 : LA 15 0 20 188 6 I2 := LA_f hL3 (fun j hj => (hW2 15 (j + 0) (by omega)).trans (hW1 15 (j + 0) (by omega))) (fun j hj => (hW2 236 (188 + 6 * j) (by omega)).trans (hW1 236 (188 + 6 * j) (by omega)))
    have gB3 : LB 15 0 20 188 6 I2 := LB_i hL3 (fun j hj => (hW2 116 (j) (by omega)).trans (q1h.2.2.2.2.2.2.2.2.2.1 j hj)) (fun j hj => (q2a (188 + 6 * j) (by omega)).trans (hW1 236 (188 + 6 * j) (by omega)))
    have gL4 : LA 8 0 6 16 4 I2 := LA_f hL4 (fun j hj => (hW2 8 (j + 0) (by omega)).trans (hW1 8 (j + 0) (by omega))) (fun j hj => (hW2 236 (16 + 4 * j) (by omega)).trans (hW1 236 (16 + 4 * j) (by omega)))
    have gB4 : LB 8 0 6 16 4 I2 := LB_i hL4 (fun j hj => (hW2 109 (j) (by omega)).trans (q1h.2.2.2.1 j hj)) (fun j hj => (q2a (16 + 4 * j) (by omega)).trans (hW1 236 (16 + 4 * j) (by omega)))
    exact ⟨gI, gL0, gB0, gL1, gB1, gL2, gB2, gL3, gB3, gL4, gB4, gLH, gLN, gLPc, gLPk, gLTc, gLTk, gLGc, gLGk, gLRc, gLRk⟩
  exact law_tail h ih hF hR2 hK2
theorem law_c36 (h : Bd G i) (ih : NXT G i) (hF : FS F) (hR : Rg I) (hK : LK I) : GoN G 1000 kL_law 0 NP 1550 (lvl i) [] F I Qlw := by
  refine law_wp law_oc ckL_law [1665] ?_
  refine ⟨⟨_, rfl, (by decide)⟩, ?_⟩
  refine c_restore9 hF hR  (fun r1 I1 hR1 hA1 hr1 hW1 q1a q1b q1c q1d q1e q1f q1g q1h q1i q1j => ?_)
  refine ⟨⟨_, rfl, (by decide)⟩, ?_⟩
  refine r_restore2 hF hR1  (fun r2 I2 hR2 hA2 hr2 hW2 q2a q2b q2c q2d => ?_)
  have hK2 : LK I2 := by
    have hI : I 0 2 = I 235 2 := hK.1
    have hL0 : LA 1 1 1 0 1 I := hK.2.1
    have hB0 : LB 1 1 1 0 1 I := hK.2.2.1
    have hL1 : LA 4 0 5 4 1 I := hK.2.2.2.1
    have hB1 : LB 4 0 5 4 1 I := hK.2.2.2.2.1
    have hL2 : LA 12 6 1 1 1 I := hK.2.2.2.2.2.1
    have hB2 : LB 12 6 1 1 1 I := hK.2.2.2.2.2.2.1
    have hL3 : LA 15 0 20 188 6 I := hK.2.2.2.2.2.2.2.1
    have hB3 : LB 15 0 20 188 6 I := hK.2.2.2.2.2.2.2.2.1
    have hL4 : LA 8 0 6 16 4 I := hK.2.2.2.2.2.2.2.2.2.1
    have hB4 : LB 8 0 6 16 4 I := hK.2.2.2.2.2.2.2.2.2.2.1
    have hLH : LH I := hK.2.2.2.2.2.2.2.2.2.2.2.1
    have hLN : LN I := hK.2.2.2.2.2.2.2.2.2.2.2.2.1
    have hLPc : LPc I := hK.2.2.2.2.2.2.2.2.2.2.2.2.2.1
    have hLPk : LPk I := hK.2.2.2.2.2.2.2.2.2.2.2.2.2.2.1
    have hLTc : LTc I := hK.2.2.2.2.2.2.2.2.2.2.2.2.2.2.2.1
    have hLTk : LTk I := hK.2.2.2.2.2.2.2.2.2.2.2.2.2.2.2.2.1
    have hLGc : LGc I := hK.2.2.2.2.2.2.2.2.2.2.2.2.2.2.2.2.2.1
    have hLGk : LGk I := hK.2.2.2.2.2.2.2.2.2.2.2.2.2.2.2.2.2.2.1
    have hLRc : LRc I := hK.2.2.2.2.2.2.2.2.2.2.2.2.2.2.2.2.2.2.2.1
    have hLRk : LRk I := hK.2.2.2.2.2.2.2.2.2.2.2.2.2.2.2.2.2.2.2.2
    have gLH : LH I2 := LH_f hLH (fun s hs => ⟨(hW2 (227 + 2 * s) 0 (by omega)).trans (hW1 (227 + 2 * s) 0 (by omega)), (hW2 (227 + 2 * s) 1 (by omega)).trans (hW1 (227 + 2 * s) 1 (by omega))⟩) (fun s hs => ⟨(hW2 250 s (by omega)).trans (hW1 250 s (by omega)), (hW2 251 s (by omega)).trans (hW1 251 s (by omega))⟩)
    have gLN : LN I2 := LN_f hLN (fun s j hs hj => (hW2 (228 + 2 * s) j (by omega)).trans (hW1 (228 + 2 * s) j (by omega))) (fun s j hs hj => (hW2 252 (24 * s + j) (by omega)).trans (hW1 252 (24 * s + j) (by omega)))
    have gLPc : LPc I2 := if e : I 0 2 = 0 then LPc_f hR hLPc ((q2a (show I1 235 2 = 0 from by have := hW1 235 2 (by omega); have hI : I 0 2 = I 235 2 := hK.1; omega) 0).trans (hW1 236 0 (by omega))) (fun k j h1 h2 h3 => (hW2 k j (by omega)).trans (q1h.1 e k j (by omega))) (fun j _ _ _ _ => (q2a (show I1 235 2 = 0 from by have := hW1 235 2 (by omega); have hI : I 0 2 = I 235 2 := hK.1; omega) j).trans (hW1 236 j (by omega))) else LPc_r hR hLPk e (fun p hp => PCP_f (q1i e p hp) (fun k j _ _ => hW2 k j (by omega)) (fun _ _ _ _ => rfl)) (fun j hj => (q2b (show ¬ I1 235 2 = 0 from by have := hW1 235 2 (by omega); have hI : I 0 2 = I 235 2 := hK.1; omega) j hj).trans (hW1 237 j (by omega)))
    have gLPk : LPk I2 := LPk_f hR hLPk ((hW2 0 2 (by omega)).trans (hW1 0 2 (by omega))) (fun k j h1 h2 => (hW2 k j (by omega)).trans (hW1 k j (by omega))) (fun j => (hW2 237 j (by omega)).trans (hW1 237 j (by omega)))
    have gLTc : LTc I2 := if e : I 0 2 = 0 then LTc_f hR hLTc ((hW2 1 5 (by omega)).trans (q1h.1 e 1 5 (by omega))) (fun j => (hW2 5 j (by omega)).trans (q1h.1 e 5 j (by omega))) ((q2a (show I1 235 2 = 0 from by have := hW1 235 2 (by omega); have hI : I 0 2 = I 235 2 := hK.1; omega) 2).trans (hW1 236 2 (by omega))) (fun j h1 h2 => (q2a (show I1 235 2 = 0 from by have := hW1 235 2 (by omega); have hI : I 0 2 = I 235 2 := hK.1; omega) j).trans (hW1 236 j (by omega))) else LTc_r hR hLTk e ((hW2 1 5 (by omega)).trans (q1b e)) (fun j hj => (hW2 5 j (by omega)).trans ((q1h.2 e).2.1 j hj)) (fun j hj => (q2b (show ¬ I1 235 2 = 0 from by have := hW1 235 2 (by omega); have hI : I 0 2 = I 235 2 := hK.1; omega) j hj).trans (hW1 237 j (by omega)))
    have gLTk : LTk I2 := LTk_f hLTk ((hW2 0 (2) (by omega)).trans (hW1 0 (2) (by omega))) ((hW2 102 (5) (by omega)).trans (hW1 102 (5) (by omega))) (fun j => (hW2 106 (j) (by omega)).trans (hW1 106 (j) (by omega))) (fun j => (hW2 237 (j) (by omega)).trans (hW1 237 (j) (by omega)))
    have gLGc : LGc I2 := if e : I 0 2 = 0 then LGc_f hLGc (fun k j h1 h2 => (hW2 k j (by omega)).trans (q1h.1 e k j (by omega))) (fun j h1 h2 => (q2a (show I1 235 2 = 0 from by have := hW1 235 2 (by omega); have hI : I 0 2 = I 235 2 := hK.1; omega) j).trans (hW1 236 j (by omega))) else LGc_r hLGk e (fun v hv => GCP_x (q1j e v hv) (fun k j _ _ => hW2 k j (by omega))) (fun j hj => (q2b (show ¬ I1 235 2 = 0 from by have := hW1 235 2 (by omega); have hI : I 0 2 = I 235 2 := hK.1; omega) j hj).trans (hW1 237 j (by omega)))
    have gLGk : LGk I2 := LGk_f hLGk ((hW2 0 (2) (by omega)).trans (hW1 0 (2) (by omega))) (fun k j h1 h2 => (hW2 k j (by omega)).trans (hW1 k j (by omega))) (fun j => (hW2 237 (j) (by omega)).trans (hW1 237 (j) (by omega)))
    have gLRc : LRc I2 := if e : I 0 2 = 0 then LRc_f hR hLRc ((q2a (show I1 235 2 = 0 from by have := hW1 235 2 (by omega); have hI : I 0 2 = I 235 2 := hK.1; omega) 0).trans (hW1 236 0 (by omega))) (fun k j h1 h2 h3 h4 => (hW2 k j (by omega)).trans (q1h.1 e k j (by omega))) (fun j _ _ _ => (q2a (show I1 235 2 = 0 from by have := hW1 235 2 (by omega); have hI : I 0 2 = I 235 2 := hK.1; omega) j).trans (hW1 236 j (by omega))) else LRc_r hR hLRk e (fun p hp => PCP_f (q1i e p hp) (fun k j _ _ => hW2 k j (by omega)) (fun _ _ _ _ => rfl)) (fun j hj => (q2b (show ¬ I1 235 2 = 0 from by have := hW1 235 2 (by omega); have hI : I 0 2 = I 235 2 := hK.1; omega) j hj).trans (hW1 237 j (by omega)))
    have gLRk : LRk I2 := LRk_f hR hLRk ((hW2 0 2 (by omega)).trans (hW1 0 2 (by omega))) (fun k j h1 h2 => (hW2 k j (by omega)).trans (hW1 k j (by omega))) (fun j => (hW2 237 j (by omega)).trans (hW1 237 j (by omega)))
    have gI : LI I2 := ((hW2 0 (2) (by omega)).trans (hW1 0 (2) (by omega))).trans (hI.trans ((hW2 235 (2) (by omega)).trans (hW1 235 (2) (by omega))).symm)
    have e235 : I1 235 2 = I 235 2 := hW1 235 2 (by omega)
    by_cases e : I 0 2 = 0
    · have e2 : I1 235 2 = 0 := by omega
      have gL0 : LA 1 1 1 0 1 I2 := LA_f hL0 (fun j hj => (hW2 1 (j + 1) (by omega)).trans (q1h.1 e 1 (j + 1) (by decide))) (fun j hj => (q2a e2 (0 + 1 * j)).trans (hW1 236 (0 + 1 * j) (by omega)))
      have gB0 : LB 1 1 1 0 1 I2 := Or.inl ((hW2 0 (2) (by omega)).trans ((q1h.1 e 0 2 (by decide)).trans e))
      have gL1 : LA 4 0 5 4 1 I2 := LA_f hL1 (fun j hj => (hW2 4 (j + 0) (by omega)).trans (q1h.1 e 4 (j + 0) (by decide))) (fun j hj => (q2a e2 (4 + 1 * j)).trans (hW1 236 (4 + 1 * j) (by omega)))
      have gB1 : LB 4 0 5 4 1 I2 := Or.inl ((hW2 0 (2) (by omega)).trans ((q1h.1 e 0 2 (by decide)).trans e))
      have gL2 : LA 12 6 1 1 1 I2 := LA_f hL2 (fun j hj => (hW2 12 (j + 6) (by omega)).trans (q1h.1 e 12 (j + 6) (by decide))) (fun j hj => (q2a e2 (1 + 1 * j)).trans (hW1 236 (1 + 1 * j) (by omega)))
      have gB2 : LB 12 6 1 1 1 I2 := Or.inl ((hW2 0 (2) (by omega)).trans ((q1h.1 e 0 2 (by decide)).trans e))
      have gL3 : LA 15 0 20 188 6 I2 := LA_f hL3 (fun j hj => (hW2 15 (j + 0) (by omega)).trans (q1h.1 e 15 (j + 0) (by decide))) (fun j hj => (q2a e2 (188 + 6 * j)).trans (hW1 236 (188 + 6 * j) (by omega)))
      have gB3 : LB 15 0 20 188 6 I2 := Or.inl ((hW2 0 (2) (by omega)).trans ((q1h.1 e 0 2 (by decide)).trans e))
      have gL4 : LA 8 0 6 16 4 I2 := LA_f hL4 (fun j hj => (hW2 8 (j + 0) (by omega)).trans (q1h.1 e 8 (j + 0) (by decide))) (fun j hj => (q2a e2 (16 + 4 * j)).trans (hW1 236 (16 + 4 * j) (by omega)))
      have gB4 : LB 8 0 6 16 4 I2 := Or.inl ((hW2 0 (2) (by omega)).trans ((q1h.1 e 0 2 (by decide)).trans e))
      exact ⟨gI, gL0, gB0, gL1, gB1, gL2, gB2, gL3, gB3, gL4, gB4, gLH, gLN, gLPc, gLPk, gLTc, gLTk, gLGc, gLGk, gLRc, gLRk⟩
    · have e2 : ¬ I1 235 2 = 0 := by omega
      have gL0 : LA 1 1 1 0 1 I2 := LA_r hB0 e (fun j hj => (by
        obtain rfl : j = 0 := by omega
        exact (hW2 1 (0 + 1) (by omega)).trans (q1a e))) (fun j hj => (q2b e2 (0 + 1 * j) (by omega)).trans (hW1 237 (0 + 1 * j) (by omega)))
      have gB0 : LB 1 1 1 0 1 I2 := LB_f hB0 ((hW2 0 (2) (by omega)).trans (hW1 0 (2) (by omega))) (fun j hj => (hW2 102 (j + 1) (by omega)).trans (hW1 102 (j + 1) (by omega))) (fun j hj => (hW2 237 (0 + 1 * j) (by omega)).trans (hW1 237 (0 + 1 * j) (by omega)))
      have gL1 : LA 4 0 5 4 1 I2 := LA_r hB1 e (fun j hj => (hW2 4 (j) (by omega)).trans ((q1h.2 e).1 j hj)) (fun j hj => (q2b e2 (4 + 1 * j) (by omega)).trans (hW1 237 (4 + 1 * j) (by omega)))
      have gB1 : LB 4 0 5 4 1 I2 := LB_f hB1 ((hW2 0 (2) (by omega)).trans (hW1 0 (2) (by omega))) (fun j hj => (hW2 105 (j + 0) (by omega)).trans (hW1 105 (j + 0) (by omega))) (fun j hj => (hW2 237 (4 + 1 * j) (by omega)).trans (hW1 237 (4 + 1 * j) (by omega)))
      have gL2 : LA 12 6 1 1 1 I2 := LA_r hB2 e (fun j hj => (by
        obtain rfl : j = 0 := by omega
        exact (hW2 12 (0 + 6) (by omega)).trans (q1e e))) (fun j hj => (q2b e2 (1 + 1 * j) (by omega)).trans (hW1 237 (1 + 1 * j) (by omega)))
      have gB2 : LB 12 6 1 1 1 I2 := LB_f hB2 ((hW2 0 (2) (by omega)).trans (hW1 0 (2) (by omega))) (fun j hj => (hW2 113 (j + 6) (by omega)).trans (hW1 113 (j + 6) (by omega))) (fun j hj => (hW2 237 (1 + 1 * j) (by omega)).trans (hW1 237 (1 + 1 * j) (by omega)))
      have gL3 : LA 15 0 20 188 6 I2 := LA_r hB3 e (fun j hj => (hW2 15 (j) (by omega)).trans ((q1h.2 e).2.2.2.2.2.2.2.2.2.1 j hj)) (fun j hj => (q2b e2 (188 + 6 * j) (by omega)).trans (hW1 237 (188 + 6 * j) (by omega)))
      have gB3 : LB 15 0 20 188 6 I2 := LB_f hB3 ((hW2 0 (2) (by omega)).trans (hW1 0 (2) (by omega))) (fun j hj => (hW2 116 (j + 0) (by omega)).trans (hW1 116 (j + 0) (by omega))) (fun j hj => (hW2 237 (188 + 6 * j) (by omega)).trans (hW1 237 (188 + 6 * j) (by omega)))
      have gL4 : LA 8 0 6 16 4 I2 := LA_r hB4 e (fun j hj => (hW2 8 (j) (by omega)).trans ((q1h.2 e).2.2.2.1 j hj)) (fun j hj => (q2b e2 (16 + 4 * j) (by omega)).trans (hW1 237 (16 + 4 * j) (by omega)))
      have gB4 : LB 8 0 6 16 4 I2 := LB_f hB4 ((hW2 0 (2) (by omega)).trans (hW1 0 (2) (by omega))) (fun j hj => (hW2 109 (j + 0) (by omega)).trans (hW1 109 (j + 0) (by omega))) (fun j hj => (hW2 237 (16 + 4 * j) (by omega)).trans (hW1 237 (16 + 4 * j) (by omega)))
      exact ⟨gI, gL0, gB0, gL1, gB1, gL2, gB2, gL3, gB3, gL4, gB4, gLH, gLN, gLPc, gLPk, gLTc, gLTk, gLGc, gLGk, gLRc, gLRk⟩
  exact law_tail h ih hF hR2 hK2
theorem law_c37 (h : Bd G i) (ih : NXT G i) (hF : FS F) (hR : Rg I) (hK : LK I) : GoN G 1000 kL_law 0 NP 1563 (lvl i) [] F I Qlw := by
  refine law_wp law_oc ckL_law [1665] ?_
  refine ⟨rfl, ixl h (by decide), ixh h (by decide), ?_⟩
  refine ⟨⟨_, rfl, (by decide)⟩, ?_⟩
  refine c_tell hF hR  (fun r1 I1 hR1 hA1 hr1 hW1 => ?_)
  refine ⟨rfl, ixl h (by decide), ixh h (by decide), ?_⟩
  refine ⟨⟨_, rfl, (by decide)⟩, ?_⟩
  refine r_tell hF hR1  (fun r2 I2 hR2 hA2 hr2 hW2 => ?_)
  have hK2 : LK I2 := by
    have hI : I 0 2 = I 235 2 := hK.1
    have hL0 : LA 1 1 1 0 1 I := hK.2.1
    have hB0 : LB 1 1 1 0 1 I := hK.2.2.1
    have hL1 : LA 4 0 5 4 1 I := hK.2.2.2.1
    have hB1 : LB 4 0 5 4 1 I := hK.2.2.2.2.1
    have hL2 : LA 12 6 1 1 1 I := hK.2.2.2.2.2.1
    have hB2 : LB 12 6 1 1 1 I := hK.2.2.2.2.2.2.1
    have hL3 : LA 15 0 20 188 6 I := hK.2.2.2.2.2.2.2.1
    have hB3 : LB 15 0 20 188 6 I := hK.2.2.2.2.2.2.2.2.1
    have hL4 : LA 8 0 6 16 4 I := hK.2.2.2.2.2.2.2.2.2.1
    have hB4 : LB 8 0 6 16 4 I := hK.2.2.2.2.2.2.2.2.2.2.1
    have hLH : LH I := hK.2.2.2.2.2.2.2.2.2.2.2.1
    have hLN : LN I := hK.2.2.2.2.2.2.2.2.2.2.2.2.1
    have hLPc : LPc I := hK.2.2.2.2.2.2.2.2.2.2.2.2.2.1
    have hLPk : LPk I := hK.2.2.2.2.2.2.2.2.2.2.2.2.2.2.1
    have hLTc : LTc I := hK.2.2.2.2.2.2.2.2.2.2.2.2.2.2.2.1
    have hLTk : LTk I := hK.2.2.2.2.2.2.2.2.2.2.2.2.2.2.2.2.1
    have hLGc : LGc I := hK.2.2.2.2.2.2.2.2.2.2.2.2.2.2.2.2.2.1
    have hLGk : LGk I := hK.2.2.2.2.2.2.2.2.2.2.2.2.2.2.2.2.2.2.1
    have hLRc : LRc I := hK.2.2.2.2.2.2.2.2.2.2.2.2.2.2.2.2.2.2.2.1
    have hLRk : LRk I := hK.2.2.2.2.2.2.2.2.2.2.2.2.2.2.2.2.2.2.2.2
    have gLH : LH I2 := LH_f hLH (fun s hs => ⟨(hW2 (227 + 2 * s) 0 (by omega)).trans (hW1 (227 + 2 * s) 0 (by omega)), (hW2 (227 + 2 * s) 1 (by omega)).trans (hW1 (227 + 2 * s) 1 (by omega))⟩) (fun s hs => ⟨(hW2 250 s (by omega)).trans (hW1 250 s (by omega)), (hW2 251 s (by omega)).trans (hW1 251 s (by omega))⟩)
    have gLN : LN I2 := LN_f hLN (fun s j hs hj => (hW2 (228 + 2 * s) j (by omega)).trans (hW1 (228 + 2 * s) j (by omega))) (fun s j hs hj => (hW2 252 (24 * s + j) (by omega)).trans (hW1 252 (24 * s + j) (by omega)))
    have gLPc : LPc I2 := LPc_f hR hLPc ((hW2 236 0 (by omega)).trans (hW1 236 0 (by omega))) (fun k j h1 h2 h3 => (hW2 k j (by omega)).trans (hW1 k j (by omega))) (fun j h1 h2 h3 h4 => (hW2 236 j (by omega)).trans (hW1 236 j (by omega)))
    have gLPk : LPk I2 := LPk_f hR hLPk ((hW2 0 2 (by omega)).trans (hW1 0 2 (by omega))) (fun k j h1 h2 => (hW2 k j (by omega)).trans (hW1 k j (by omega))) (fun j => (hW2 237 j (by omega)).trans (hW1 237 j (by omega)))
    have gLTc : LTc I2 := LTc_f hR hLTc ((hW2 1 (5) (by omega)).trans (hW1 1 (5) (by omega))) (fun j => (hW2 5 (j) (by omega)).trans (hW1 5 (j) (by omega))) ((hW2 236 (2) (by omega)).trans (hW1 236 (2) (by omega))) (fun j h1 h2 => (hW2 236 (j) (by omega)).trans (hW1 236 (j) (by omega)))
    have gLTk : LTk I2 := LTk_f hLTk ((hW2 0 (2) (by omega)).trans (hW1 0 (2) (by omega))) ((hW2 102 (5) (by omega)).trans (hW1 102 (5) (by omega))) (fun j => (hW2 106 (j) (by omega)).trans (hW1 106 (j) (by omega))) (fun j => (hW2 237 (j) (by omega)).trans (hW1 237 (j) (by omega)))
    have gLGc : LGc I2 := LGc_f hLGc (fun k j h1 h2 => (hW2 k j (by omega)).trans (hW1 k j (by omega))) (fun j h1 h2 => (hW2 236 (j) (by omega)).trans (hW1 236 (j) (by omega)))
    have gLGk : LGk I2 := LGk_f hLGk ((hW2 0 (2) (by omega)).trans (hW1 0 (2) (by omega))) (fun k j h1 h2 => (hW2 k j (by omega)).trans (hW1 k j (by omega))) (fun j => (hW2 237 (j) (by omega)).trans (hW1 237 (j) (by omega)))
    have gLRc : LRc I2 := LRc_f hR hLRc ((hW2 236 0 (by omega)).trans (hW1 236 0 (by omega))) (fun k j h1 h2 h3 h4 => (hW2 k j (by omega)).trans (hW1 k j (by omega))) (fun j h1 h2 h3 => (hW2 236 (j) (by omega)).trans (hW1 236 (j) (by omega)))
    have gLRk : LRk I2 := LRk_f hR hLRk ((hW2 0 2 (by omega)).trans (hW1 0 2 (by omega))) (fun k j h1 h2 => (hW2 k j (by omega)).trans (hW1 k j (by omega))) (fun j => (hW2 237 j (by omega)).trans (hW1 237 j (by omega)))
    have gI : LI I2 := ((hW2 0 (2) (by omega)).trans (hW1 0 (2) (by omega))).trans (hI.trans ((hW2 235 (2) (by omega)).trans (hW1 235 (2) (by omega))).symm)
    have gL0 : LA 1 1 1 0 1 I2 := LA_f hL0 (fun j hj => (hW2 1 (j + 1) (by omega)).trans (hW1 1 (j + 1) (by omega))) (fun j hj => (hW2 236 (0 + 1 * j) (by omega)).trans (hW1 236 (0 + 1 * j) (by omega)))
    have gB0 : LB 1 1 1 0 1 I2 := LB_f hB0 ((hW2 0 (2) (by omega)).trans (hW1 0 (2) (by omega))) (fun j hj => (hW2 102 (j + 1) (by omega)).trans (hW1 102 (j + 1) (by omega))) (fun j hj => (hW2 237 (0 + 1 * j) (by omega)).trans (hW1 237 (0 + 1 * j) (by omega)))
    have gL1 : LA 4 0 5 4 1 I2 := LA_f hL1 (fun j hj => (hW2 4 (j + 0) (by omega)).trans (hW1 4 (j + 0) (by omega))) (fun j hj => (hW2 236 (4 + 1 * j) (by omega)).trans (hW1 236 (4 + 1 * j) (by omega)))
    have gB1 : LB 4 0 5 4 1 I2 := LB_f hB1 ((hW2 0 (2) (by omega)).trans (hW1 0 (2) (by omega))) (fun j hj => (hW2 105 (j + 0) (by omega)).trans (hW1 105 (j + 0) (by omega))) (fun j hj => (hW2 237 (4 + 1 * j) (by omega)).trans (hW1 237 (4 + 1 * j) (by omega)))
    have gL2 : LA 12 6 1 1 1 I2 := LA_f hL2 (fun j hj => (hW2 12 (j + 6) (by omega)).trans (hW1 12 (j + 6) (by omega))) (fun j hj => (hW2 236 (1 + 1 * j) (by omega)).trans (hW1 236 (1 + 1 * j) (by omega)))
    have gB2 : LB 12 6 1 1 1 I2 := LB_f hB2 ((hW2 0 (2) (by omega)).trans (hW1 0 (2) (by omega))) (fun j hj => (hW2 113 (j + 6) (by omega)).trans (hW1 113 (j + 6) (by omega))) (fun j hj => (hW2 237 (1 + 1 * j) (by omega)).trans (hW1 237 (1 + 1 * j) (by omega)))
    have gL3 : LA 15 0 20 188 6 I2 := LA_f hL3 (fun j hj => (hW2 15 (j + 0) (by omega)).trans (hW1 15 (j + 0) (by omega))) (fun j hj => (hW2 236 (188 + 6 * j) (by omega)).trans (hW1 236 (188 + 6 * j) (by omega)))
    have gB3 : LB 15 0 20 188 6 I2 := LB_f hB3 ((hW2 0 (2) (by omega)).trans (hW1 0 (2) (by omega))) (fun j hj => (hW2 116 (j + 0) (by omega)).trans (hW1 116 (j + 0) (by omega))) (fun j hj => (hW2 237 (188 + 6 * j) (by omega)).trans (hW1 237 (188 + 6 * j) (by omega)))
    have gL4 : LA 8 0 6 16 4 I2 := LA_f hL4 (fun j hj => (hW2 8 (j + 0) (by omega)).trans (hW1 8 (j + 0) (by omega))) (fun j hj => (hW2 236 (16 + 4 * j) (by omega)).trans (hW1 236 (16 + 4 * j) (by omega)))
    have gB4 : LB 8 0 6 16 4 I2 := LB_f hB4 ((hW2 0 (2) (by omega)).trans (hW1 0 (2) (by omega))) (fun j hj => (hW2 109 (j + 0) (by omega)).trans (hW1 109 (j + 0) (by omega))) (fun j hj => (hW2 237 (16 + 4 * j) (by omega)).trans (hW1 237 (16 + 4 * j) (by omega)))
    exact ⟨gI, gL0, gB0, gL1, gB1, gL2, gB2, gL3, gB3, gL4, gB4, gLH, gLN, gLPc, gLPk, gLTc, gLTk, gLGc, gLGk, gLRc, gLRk⟩
  exact law_tail h ih hF hR2 hK2
theorem law_c38 (h : Bd G i) (ih : NXT G i) (hF : FS F) (hR : Rg I) (hK : LK I) : GoN G 1000 kL_law 0 NP 1586 (lvl i) [] F I Qlw := by
  refine law_wp law_oc ckL_law [1665] ?_
  refine ⟨rfl, ixl h (by decide), ixh h (by decide), ?_⟩
  refine ⟨rfl, ixl h (by decide), ixh h (by decide), ?_⟩
  refine ⟨⟨_, rfl, (by decide)⟩, ?_⟩
  refine c_check hF hR  (fun r1 F1 I1 hF1 hR1 hA1 hr1 hW1 => ?_)
  refine ⟨rfl, ixl h (by decide), ixh h (by decide), ?_⟩
  refine ⟨rfl, ixl h (by decide), ixh h (by decide), ?_⟩
  refine ⟨⟨_, rfl, (by decide)⟩, ?_⟩
  refine r_check hF1 hR1  (fun r2 I2 hR2 hA2 hr2 hW2 => ?_)
  have hK2 : LK I2 := by
    have hI : I 0 2 = I 235 2 := hK.1
    have hL0 : LA 1 1 1 0 1 I := hK.2.1
    have hB0 : LB 1 1 1 0 1 I := hK.2.2.1
    have hL1 : LA 4 0 5 4 1 I := hK.2.2.2.1
    have hB1 : LB 4 0 5 4 1 I := hK.2.2.2.2.1
    have hL2 : LA 12 6 1 1 1 I := hK.2.2.2.2.2.1
    have hB2 : LB 12 6 1 1 1 I := hK.2.2.2.2.2.2.1
    have hL3 : LA 15 0 20 188 6 I := hK.2.2.2.2.2.2.2.1
    have hB3 : LB 15 0 20 188 6 I := hK.2.2.2.2.2.2.2.2.1
    have hL4 : LA 8 0 6 16 4 I := hK.2.2.2.2.2.2.2.2.2.1
    have hB4 : LB 8 0 6 16 4 I := hK.2.2.2.2.2.2.2.2.2.2.1
    have hLH : LH I := hK.2.2.2.2.2.2.2.2.2.2.2.1
    have hLN : LN I := hK.2.2.2.2.2.2.2.2.2.2.2.2.1
    have hLPc : LPc I := hK.2.2.2.2.2.2.2.2.2.2.2.2.2.1
    have hLPk : LPk I := hK.2.2.2.2.2.2.2.2.2.2.2.2.2.2.1
    have hLTc : LTc I := hK.2.2.2.2.2.2.2.2.2.2.2.2.2.2.2.1
    have hLTk : LTk I := hK.2.2.2.2.2.2.2.2.2.2.2.2.2.2.2.2.1
    have hLGc : LGc I := hK.2.2.2.2.2.2.2.2.2.2.2.2.2.2.2.2.2.1
    have hLGk : LGk I := hK.2.2.2.2.2.2.2.2.2.2.2.2.2.2.2.2.2.2.1
    have hLRc : LRc I := hK.2.2.2.2.2.2.2.2.2.2.2.2.2.2.2.2.2.2.2.1
    have hLRk : LRk I := hK.2.2.2.2.2.2.2.2.2.2.2.2.2.2.2.2.2.2.2.2
    have gLH : LH I2 := LH_f hLH (fun s hs => ⟨(hW2 (227 + 2 * s) 0 (by omega)).trans (hW1 (227 + 2 * s) 0 (by omega)), (hW2 (227 + 2 * s) 1 (by omega)).trans (hW1 (227 + 2 * s) 1 (by omega))⟩) (fun s hs => ⟨(hW2 250 s (by omega)).trans (hW1 250 s (by omega)), (hW2 251 s (by omega)).trans (hW1 251 s (by omega))⟩)
    have gLN : LN I2 := LN_f hLN (fun s j hs hj => (hW2 (228 + 2 * s) j (by omega)).trans (hW1 (228 + 2 * s) j (by omega))) (fun s j hs hj => (hW2 252 (24 * s + j) (by omega)).trans (hW1 252 (24 * s + j) (by omega)))
    have gLPc : LPc I2 := LPc_f hR hLPc ((hW2 236 0 (by omega)).trans (hW1 236 0 (by omega))) (fun k j h1 h2 h3 => (hW2 k j (by omega)).trans (hW1 k j (by omega))) (fun j h1 h2 h3 h4 => (hW2 236 j (by omega)).trans (hW1 236 j (by omega)))
    have gLPk : LPk I2 := LPk_f hR hLPk ((hW2 0 2 (by omega)).trans (hW1 0 2 (by omega))) (fun k j h1 h2 => (hW2 k j (by omega)).trans (hW1 k j (by omega))) (fun j => (hW2 237 j (by omega)).trans (hW1 237 j (by omega)))
    have gLTc : LTc I2 := LTc_f hR hLTc ((hW2 1 (5) (by omega)).trans (hW1 1 (5) (by omega))) (fun j => (hW2 5 (j) (by omega)).trans (hW1 5 (j) (by omega))) ((hW2 236 (2) (by omega)).trans (hW1 236 (2) (by omega))) (fun j h1 h2 => (hW2 236 (j) (by omega)).trans (hW1 236 (j) (by omega)))
    have gLTk : LTk I2 := LTk_f hLTk ((hW2 0 (2) (by omega)).trans (hW1 0 (2) (by omega))) ((hW2 102 (5) (by omega)).trans (hW1 102 (5) (by omega))) (fun j => (hW2 106 (j) (by omega)).trans (hW1 106 (j) (by omega))) (fun j => (hW2 237 (j) (by omega)).trans (hW1 237 (j) (by omega)))
    have gLGc : LGc I2 := LGc_f hLGc (fun k j h1 h2 => (hW2 k j (by omega)).trans (hW1 k j (by omega))) (fun j h1 h2 => (hW2 236 (j) (by omega)).trans (hW1 236 (j) (by omega)))
    have gLGk : LGk I2 := LGk_f hLGk ((hW2 0 (2) (by omega)).trans (hW1 0 (2) (by omega))) (fun k j h1 h2 => (hW2 k j (by omega)).trans (hW1 k j (by omega))) (fun j => (hW2 237 (j) (by omega)).trans (hW1 237 (j) (by omega)))
    have gLRc : LRc I2 := LRc_f hR hLRc ((hW2 236 0 (by omega)).trans (hW1 236 0 (by omega))) (fun k j h1 h2 h3 h4 => (hW2 k j (by omega)).trans (hW1 k j (by omega))) (fun j h1 h2 h3 => (hW2 236 (j) (by omega)).trans (hW1 236 (j) (by omega)))
    have gLRk : LRk I2 := LRk_f hR hLRk ((hW2 0 2 (by omega)).trans (hW1 0 2 (by omega))) (fun k j h1 h2 => (hW2 k j (by omega)).trans (hW1 k j (by omega))) (fun j => (hW2 237 j (by omega)).trans (hW1 237 j (by omega)))
    have gI : LI I2 := ((hW2 0 (2) (by omega)).trans (hW1 0 (2) (by omega))).trans (hI.trans ((hW2 235 (2) (by omega)).trans (hW1 235 (2) (by omega))).symm)
    have gL0 : LA 1 1 1 0 1 I2 := LA_f hL0 (fun j hj => (hW2 1 (j + 1) (by omega)).trans (hW1 1 (j + 1) (by omega))) (fun j hj => (hW2 236 (0 + 1 * j) (by omega)).trans (hW1 236 (0 + 1 * j) (by omega)))
    have gB0 : LB 1 1 1 0 1 I2 := LB_f hB0 ((hW2 0 (2) (by omega)).trans (hW1 0 (2) (by omega))) (fun j hj => (hW2 102 (j + 1) (by omega)).trans (hW1 102 (j + 1) (by omega))) (fun j hj => (hW2 237 (0 + 1 * j) (by omega)).trans (hW1 237 (0 + 1 * j) (by omega)))
    have gL1 : LA 4 0 5 4 1 I2 := LA_f hL1 (fun j hj => (hW2 4 (j + 0) (by omega)).trans (hW1 4 (j + 0) (by omega))) (fun j hj => (hW2 236 (4 + 1 * j) (by omega)).trans (hW1 236 (4 + 1 * j) (by omega)))
    have gB1 : LB 4 0 5 4 1 I2 := LB_f hB1 ((hW2 0 (2) (by omega)).trans (hW1 0 (2) (by omega))) (fun j hj => (hW2 105 (j + 0) (by omega)).trans (hW1 105 (j + 0) (by omega))) (fun j hj => (hW2 237 (4 + 1 * j) (by omega)).trans (hW1 237 (4 + 1 * j) (by omega)))
    have gL2 : LA 12 6 1 1 1 I2 := LA_f hL2 (fun j hj => (hW2 12 (j + 6) (by omega)).trans (hW1 12 (j + 6) (by omega))) (fun j hj => (hW2 236 (1 + 1 * j) (by omega)).trans (hW1 236 (1 + 1 * j) (by omega)))
    have gB2 : LB 12 6 1 1 1 I2 := LB_f hB2 ((hW2 0 (2) (by omega)).trans (hW1 0 (2) (by omega))) (fun j hj => (hW2 113 (j + 6) (by omega)).trans (hW1 113 (j + 6) (by omega))) (fun j hj => (hW2 237 (1 + 1 * j) (by omega)).trans (hW1 237 (1 + 1 * j) (by omega)))
    have gL3 : LA 15 0 20 188 6 I2 := LA_f hL3 (fun j hj => (hW2 15 (j + 0) (by omega)).trans (hW1 15 (j + 0) (by omega))) (fun j hj => (hW2 236 (188 + 6 * j) (by omega)).trans (hW1 236 (188 + 6 * j) (by omega)))
    have gB3 : LB 15 0 20 188 6 I2 := LB_f hB3 ((hW2 0 (2) (by omega)).trans (hW1 0 (2) (by omega))) (fun j hj => (hW2 116 (j + 0) (by omega)).trans (hW1 116 (j + 0) (by omega))) (fun j hj => (hW2 237 (188 + 6 * j) (by omega)).trans (hW1 237 (188 + 6 * j) (by omega)))
    have gL4 : LA 8 0 6 16 4 I2 := LA_f hL4 (fun j hj => (hW2 8 (j + 0) (by omega)).trans (hW1 8 (j + 0) (by omega))) (fun j hj => (hW2 236 (16 + 4 * j) (by omega)).trans (hW1 236 (16 + 4 * j) (by omega)))
    have gB4 : LB 8 0 6 16 4 I2 := LB_f hB4 ((hW2 0 (2) (by omega)).trans (hW1 0 (2) (by omega))) (fun j hj => (hW2 109 (j + 0) (by omega)).trans (hW1 109 (j + 0) (by omega))) (fun j hj => (hW2 237 (16 + 4 * j) (by omega)).trans (hW1 237 (16 + 4 * j) (by omega)))
    exact ⟨gI, gL0, gB0, gL1, gB1, gL2, gB2, gL3, gB3, gL4, gB4, gLH, gLN, gLPc, gLPk, gLTc, gLTk, gLGc, gLGk, gLRc, gLRk⟩
  exact law_tail h ih hF1 hR2 hK2
theorem law_c39 (h : Bd G i) (ih : NXT G i) (hF : FS F) (hR : Rg I) (hK : LK I) : GoN G 1000 kL_law 0 NP 1619 (lvl i) [] F I Qlw := by
  refine law_wp law_oc ckL_law [1665] ?_
  refine ⟨rfl, ixl h (by decide), ixh h (by decide), ?_⟩
  refine ⟨⟨_, rfl, (by decide)⟩, ?_⟩
  refine c_count hF hR  (fun r1 I1 hR1 hA1 hr1 hW1 => ?_)
  refine ⟨rfl, ixl h (by decide), ixh h (by decide), ?_⟩
  refine ⟨⟨_, rfl, (by decide)⟩, ?_⟩
  refine r_count hF hR1  (fun r2 I2 hR2 hA2 hr2 hW2 => ?_)
  have hK2 : LK I2 := by
    have hI : I 0 2 = I 235 2 := hK.1
    have hL0 : LA 1 1 1 0 1 I := hK.2.1
    have hB0 : LB 1 1 1 0 1 I := hK.2.2.1
    have hL1 : LA 4 0 5 4 1 I := hK.2.2.2.1
    have hB1 : LB 4 0 5 4 1 I := hK.2.2.2.2.1
    have hL2 : LA 12 6 1 1 1 I := hK.2.2.2.2.2.1
    have hB2 : LB 12 6 1 1 1 I := hK.2.2.2.2.2.2.1
    have hL3 : LA 15 0 20 188 6 I := hK.2.2.2.2.2.2.2.1
    have hB3 : LB 15 0 20 188 6 I := hK.2.2.2.2.2.2.2.2.1
    have hL4 : LA 8 0 6 16 4 I := hK.2.2.2.2.2.2.2.2.2.1
    have hB4 : LB 8 0 6 16 4 I := hK.2.2.2.2.2.2.2.2.2.2.1
    have hLH : LH I := hK.2.2.2.2.2.2.2.2.2.2.2.1
    have hLN : LN I := hK.2.2.2.2.2.2.2.2.2.2.2.2.1
    have hLPc : LPc I := hK.2.2.2.2.2.2.2.2.2.2.2.2.2.1
    have hLPk : LPk I := hK.2.2.2.2.2.2.2.2.2.2.2.2.2.2.1
    have hLTc : LTc I := hK.2.2.2.2.2.2.2.2.2.2.2.2.2.2.2.1
    have hLTk : LTk I := hK.2.2.2.2.2.2.2.2.2.2.2.2.2.2.2.2.1
    have hLGc : LGc I := hK.2.2.2.2.2.2.2.2.2.2.2.2.2.2.2.2.2.1
    have hLGk : LGk I := hK.2.2.2.2.2.2.2.2.2.2.2.2.2.2.2.2.2.2.1
    have hLRc : LRc I := hK.2.2.2.2.2.2.2.2.2.2.2.2.2.2.2.2.2.2.2.1
    have hLRk : LRk I := hK.2.2.2.2.2.2.2.2.2.2.2.2.2.2.2.2.2.2.2.2
    have gLH : LH I2 := LH_f hLH (fun s hs => ⟨(hW2 (227 + 2 * s) 0 (by omega)).trans (hW1 (227 + 2 * s) 0 (by omega)), (hW2 (227 + 2 * s) 1 (by omega)).trans (hW1 (227 + 2 * s) 1 (by omega))⟩) (fun s hs => ⟨(hW2 250 s (by omega)).trans (hW1 250 s (by omega)), (hW2 251 s (by omega)).trans (hW1 251 s (by omega))⟩)
    have gLN : LN I2 := LN_f hLN (fun s j hs hj => (hW2 (228 + 2 * s) j (by omega)).trans (hW1 (228 + 2 * s) j (by omega))) (fun s j hs hj => (hW2 252 (24 * s + j) (by omega)).trans (hW1 252 (24 * s + j) (by omega)))
    have gLPc : LPc I2 := LPc_f hR hLPc ((hW2 236 0 (by omega)).trans (hW1 236 0 (by omega))) (fun k j h1 h2 h3 => (hW2 k j (by omega)).trans (hW1 k j (by omega))) (fun j h1 h2 h3 h4 => (hW2 236 j (by omega)).trans (hW1 236 j (by omega)))
    have gLPk : LPk I2 := LPk_f hR hLPk ((hW2 0 2 (by omega)).trans (hW1 0 2 (by omega))) (fun k j h1 h2 => (hW2 k j (by omega)).trans (hW1 k j (by omega))) (fun j => (hW2 237 j (by omega)).trans (hW1 237 j (by omega)))
    have gLTc : LTc I2 := LTc_f hR hLTc ((hW2 1 (5) (by omega)).trans (hW1 1 (5) (by omega))) (fun j => (hW2 5 (j) (by omega)).trans (hW1 5 (j) (by omega))) ((hW2 236 (2) (by omega)).trans (hW1 236 (2) (by omega))) (fun j h1 h2 => (hW2 236 (j) (by omega)).trans (hW1 236 (j) (by omega)))
    have gLTk : LTk I2 := LTk_f hLTk ((hW2 0 (2) (by omega)).trans (hW1 0 (2) (by omega))) ((hW2 102 (5) (by omega)).trans (hW1 102 (5) (by omega))) (fun j => (hW2 106 (j) (by omega)).trans (hW1 106 (j) (by omega))) (fun j => (hW2 237 (j) (by omega)).trans (hW1 237 (j) (by omega)))
    have gLGc : LGc I2 := LGc_f hLGc (fun k j h1 h2 => (hW2 k j (by omega)).trans (hW1 k j (by omega))) (fun j h1 h2 => (hW2 236 (j) (by omega)).trans (hW1 236 (j) (by omega)))
    have gLGk : LGk I2 := LGk_f hLGk ((hW2 0 (2) (by omega)).trans (hW1 0 (2) (by omega))) (fun k j h1 h2 => (hW2 k j (by omega)).trans (hW1 k j (by omega))) (fun j => (hW2 237 (j) (by omega)).trans (hW1 237 (j) (by omega)))
    have gLRc : LRc I2 := LRc_f hR hLRc ((hW2 236 0 (by omega)).trans (hW1 236 0 (by omega))) (fun k j h1 h2 h3 h4 => (hW2 k j (by omega)).trans (hW1 k j (by omega))) (fun j h1 h2 h3 => (hW2 236 (j) (by omega)).trans (hW1 236 (j) (by omega)))
    have gLRk : LRk I2 := LRk_f hR hLRk ((hW2 0 2 (by omega)).trans (hW1 0 2 (by omega))) (fun k j h1 h2 => (hW2 k j (by omega)).trans (hW1 k j (by omega))) (fun j => (hW2 237 j (by omega)).trans (hW1 237 j (by omega)))
    have gI : LI I2 := ((hW2 0 (2) (by omega)).trans (hW1 0 (2) (by omega))).trans (hI.trans ((hW2 235 (2) (by omega)).trans (hW1 235 (2) (by omega))).symm)
    have gL0 : LA 1 1 1 0 1 I2 := LA_f hL0 (fun j hj => (hW2 1 (j + 1) (by omega)).trans (hW1 1 (j + 1) (by omega))) (fun j hj => (hW2 236 (0 + 1 * j) (by omega)).trans (hW1 236 (0 + 1 * j) (by omega)))
    have gB0 : LB 1 1 1 0 1 I2 := LB_f hB0 ((hW2 0 (2) (by omega)).trans (hW1 0 (2) (by omega))) (fun j hj => (hW2 102 (j + 1) (by omega)).trans (hW1 102 (j + 1) (by omega))) (fun j hj => (hW2 237 (0 + 1 * j) (by omega)).trans (hW1 237 (0 + 1 * j) (by omega)))
    have gL1 : LA 4 0 5 4 1 I2 := LA_f hL1 (fun j hj => (hW2 4 (j + 0) (by omega)).trans (hW1 4 (j + 0) (by omega))) (fun j hj => (hW2 236 (4 + 1 * j) (by omega)).trans (hW1 236 (4 + 1 * j) (by omega)))
    have gB1 : LB 4 0 5 4 1 I2 := LB_f hB1 ((hW2 0 (2) (by omega)).trans (hW1 0 (2) (by omega))) (fun j hj => (hW2 105 (j + 0) (by omega)).trans (hW1 105 (j + 0) (by omega))) (fun j hj => (hW2 237 (4 + 1 * j) (by omega)).trans (hW1 237 (4 + 1 * j) (by omega)))
    have gL2 : LA 12 6 1 1 1 I2 := LA_f hL2 (fun j hj => (hW2 12 (j + 6) (by omega)).trans (hW1 12 (j + 6) (by omega))) (fun j hj => (hW2 236 (1 + 1 * j) (by omega)).trans (hW1 236 (1 + 1 * j) (by omega)))
    have gB2 : LB 12 6 1 1 1 I2 := LB_f hB2 ((hW2 0 (2) (by omega)).trans (hW1 0 (2) (by omega))) (fun j hj => (hW2 113 (j + 6) (by omega)).trans (hW1 113 (j + 6) (by omega))) (fun j hj => (hW2 237 (1 + 1 * j) (by omega)).trans (hW1 237 (1 + 1 * j) (by omega)))
    have gL3 : LA 15 0 20 188 6 I2 := LA_f hL3 (fun j hj => (hW2 15 (j + 0) (by omega)).trans (hW1 15 (j + 0) (by omega))) (fun j hj => (hW2 236 (188 + 6 * j) (by omega)).trans (hW1 236 (188 + 6 * j) (by omega)))
    have gB3 : LB 15 0 20 188 6 I2 := LB_f hB3 ((hW2 0 (2) (by omega)).trans (hW1 0 (2) (by omega))) (fun j hj => (hW2 116 (j + 0) (by omega)).trans (hW1 116 (j + 0) (by omega))) (fun j hj => (hW2 237 (188 + 6 * j) (by omega)).trans (hW1 237 (188 + 6 * j) (by omega)))
    have gL4 : LA 8 0 6 16 4 I2 := LA_f hL4 (fun j hj => (hW2 8 (j + 0) (by omega)).trans (hW1 8 (j + 0) (by omega))) (fun j hj => (hW2 236 (16 + 4 * j) (by omega)).trans (hW1 236 (16 + 4 * j) (by omega)))
    have gB4 : LB 8 0 6 16 4 I2 := LB_f hB4 ((hW2 0 (2) (by omega)).trans (hW1 0 (2) (by omega))) (fun j hj => (hW2 109 (j + 0) (by omega)).trans (hW1 109 (j + 0) (by omega))) (fun j hj => (hW2 237 (16 + 4 * j) (by omega)).trans (hW1 237 (16 + 4 * j) (by omega)))
    exact ⟨gI, gL0, gB0, gL1, gB1, gL2, gB2, gL3, gB3, gL4, gB4, gLH, gLN, gLPc, gLPk, gLTc, gLTk, gLGc, gLGk, gLRc, gLRk⟩
  exact law_tail h ih hF hR2 hK2
theorem law_c40 (h : Bd G i) (ih : NXT G i) (hF : FS F) (hR : Rg I) (hK : LK I) : GoN G 1000 kL_law 0 NP 1642 (lvl i) [] F I Qlw := by
  refine law_wp law_oc ckL_law [1665] ?_
  refine ⟨rfl, ixl h (by decide), ixh h (by decide), ?_⟩
  refine ⟨⟨_, rfl, (by decide)⟩, ?_⟩
  refine c_told hF hR  (fun r1 I1 hR1 hA1 hr1 hW1 => ?_)
  refine ⟨rfl, ixl h (by decide), ixh h (by decide), ?_⟩
  refine ⟨⟨_, rfl, (by decide)⟩, ?_⟩
  refine r_told hF hR1  (fun r2 I2 hR2 hA2 hr2 hW2 => ?_)
  have hK2 : LK I2 := by
    have hI : I 0 2 = I 235 2 := hK.1
    have hL0 : LA 1 1 1 0 1 I := hK.2.1
    have hB0 : LB 1 1 1 0 1 I := hK.2.2.1
    have hL1 : LA 4 0 5 4 1 I := hK.2.2.2.1
    have hB1 : LB 4 0 5 4 1 I := hK.2.2.2.2.1
    have hL2 : LA 12 6 1 1 1 I := hK.2.2.2.2.2.1
    have hB2 : LB 12 6 1 1 1 I := hK.2.2.2.2.2.2.1
    have hL3 : LA 15 0 20 188 6 I := hK.2.2.2.2.2.2.2.1
    have hB3 : LB 15 0 20 188 6 I := hK.2.2.2.2.2.2.2.2.1
    have hL4 : LA 8 0 6 16 4 I := hK.2.2.2.2.2.2.2.2.2.1
    have hB4 : LB 8 0 6 16 4 I := hK.2.2.2.2.2.2.2.2.2.2.1
    have hLH : LH I := hK.2.2.2.2.2.2.2.2.2.2.2.1
    have hLN : LN I := hK.2.2.2.2.2.2.2.2.2.2.2.2.1
    have hLPc : LPc I := hK.2.2.2.2.2.2.2.2.2.2.2.2.2.1
    have hLPk : LPk I := hK.2.2.2.2.2.2.2.2.2.2.2.2.2.2.1
    have hLTc : LTc I := hK.2.2.2.2.2.2.2.2.2.2.2.2.2.2.2.1
    have hLTk : LTk I := hK.2.2.2.2.2.2.2.2.2.2.2.2.2.2.2.2.1
    have hLGc : LGc I := hK.2.2.2.2.2.2.2.2.2.2.2.2.2.2.2.2.2.1
    have hLGk : LGk I := hK.2.2.2.2.2.2.2.2.2.2.2.2.2.2.2.2.2.2.1
    have hLRc : LRc I := hK.2.2.2.2.2.2.2.2.2.2.2.2.2.2.2.2.2.2.2.1
    have hLRk : LRk I := hK.2.2.2.2.2.2.2.2.2.2.2.2.2.2.2.2.2.2.2.2
    have gLH : LH I2 := LH_f hLH (fun s hs => ⟨(hW2 (227 + 2 * s) 0 (by omega)).trans (hW1 (227 + 2 * s) 0 (by omega)), (hW2 (227 + 2 * s) 1 (by omega)).trans (hW1 (227 + 2 * s) 1 (by omega))⟩) (fun s hs => ⟨(hW2 250 s (by omega)).trans (hW1 250 s (by omega)), (hW2 251 s (by omega)).trans (hW1 251 s (by omega))⟩)
    have gLN : LN I2 := LN_f hLN (fun s j hs hj => (hW2 (228 + 2 * s) j (by omega)).trans (hW1 (228 + 2 * s) j (by omega))) (fun s j hs hj => (hW2 252 (24 * s + j) (by omega)).trans (hW1 252 (24 * s + j) (by omega)))
    have gLPc : LPc I2 := LPc_f hR hLPc ((hW2 236 0 (by omega)).trans (hW1 236 0 (by omega))) (fun k j h1 h2 h3 => (hW2 k j (by omega)).trans (hW1 k j (by omega))) (fun j h1 h2 h3 h4 => (hW2 236 j (by omega)).trans (hW1 236 j (by omega)))
    have gLPk : LPk I2 := LPk_f hR hLPk ((hW2 0 2 (by omega)).trans (hW1 0 2 (by omega))) (fun k j h1 h2 => (hW2 k j (by omega)).trans (hW1 k j (by omega))) (fun j => (hW2 237 j (by omega)).trans (hW1 237 j (by omega)))
    have gLTc : LTc I2 := LTc_f hR hLTc ((hW2 1 (5) (by omega)).trans (hW1 1 (5) (by omega))) (fun j => (hW2 5 (j) (by omega)).trans (hW1 5 (j) (by omega))) ((hW2 236 (2) (by omega)).trans (hW1 236 (2) (by omega))) (fun j h1 h2 => (hW2 236 (j) (by omega)).trans (hW1 236 (j) (by omega)))
    have gLTk : LTk I2 := LTk_f hLTk ((hW2 0 (2) (by omega)).trans (hW1 0 (2) (by omega))) ((hW2 102 (5) (by omega)).trans (hW1 102 (5) (by omega))) (fun j => (hW2 106 (j) (by omega)).trans (hW1 106 (j) (by omega))) (fun j => (hW2 237 (j) (by omega)).trans (hW1 237 (j) (by omega)))
    have gLGc : LGc I2 := LGc_f hLGc (fun k j h1 h2 => (hW2 k j (by omega)).trans (hW1 k j (by omega))) (fun j h1 h2 => (hW2 236 (j) (by omega)).trans (hW1 236 (j) (by omega)))
    have gLGk : LGk I2 := LGk_f hLGk ((hW2 0 (2) (by omega)).trans (hW1 0 (2) (by omega))) (fun k j h1 h2 => (hW2 k j (by omega)).trans (hW1 k j (by omega))) (fun j => (hW2 237 (j) (by omega)).trans (hW1 237 (j) (by omega)))
    have gLRc : LRc I2 := LRc_f hR hLRc ((hW2 236 0 (by omega)).trans (hW1 236 0 (by omega))) (fun k j h1 h2 h3 h4 => (hW2 k j (by omega)).trans (hW1 k j (by omega))) (fun j h1 h2 h3 => (hW2 236 (j) (by omega)).trans (hW1 236 (j) (by omega)))
    have gLRk : LRk I2 := LRk_f hR hLRk ((hW2 0 2 (by omega)).trans (hW1 0 2 (by omega))) (fun k j h1 h2 => (hW2 k j (by omega)).trans (hW1 k j (by omega))) (fun j => (hW2 237 j (by omega)).trans (hW1 237 j (by omega)))
    have gI : LI I2 := ((hW2 0 (2) (by omega)).trans (hW1 0 (2) (by omega))).trans (hI.trans ((hW2 235 (2) (by omega)).trans (hW1 235 (2) (by omega))).symm)
    have gL0 : LA 1 1 1 0 1 I2 := LA_f hL0 (fun j hj => (hW2 1 (j + 1) (by omega)).trans (hW1 1 (j + 1) (by omega))) (fun j hj => (hW2 236 (0 + 1 * j) (by omega)).trans (hW1 236 (0 + 1 * j) (by omega)))
    have gB0 : LB 1 1 1 0 1 I2 := LB_f hB0 ((hW2 0 (2) (by omega)).trans (hW1 0 (2) (by omega))) (fun j hj => (hW2 102 (j + 1) (by omega)).trans (hW1 102 (j + 1) (by omega))) (fun j hj => (hW2 237 (0 + 1 * j) (by omega)).trans (hW1 237 (0 + 1 * j) (by omega)))
    have gL1 : LA 4 0 5 4 1 I2 := LA_f hL1 (fun j hj => (hW2 4 (j + 0) (by omega)).trans (hW1 4 (j + 0) (by omega))) (fun j hj => (hW2 236 (4 + 1 * j) (by omega)).trans (hW1 236 (4 + 1 * j) (by omega)))
    have gB1 : LB 4 0 5 4 1 I2 := LB_f hB1 ((hW2 0 (2) (by omega)).trans (hW1 0 (2) (by omega))) (fun j hj => (hW2 105 (j + 0) (by omega)).trans (hW1 105 (j + 0) (by omega))) (fun j hj => (hW2 237 (4 + 1 * j) (by omega)).trans (hW1 237 (4 + 1 * j) (by omega)))
    have gL2 : LA 12 6 1 1 1 I2 := LA_f hL2 (fun j hj => (hW2 12 (j + 6) (by omega)).trans (hW1 12 (j + 6) (by omega))) (fun j hj => (hW2 236 (1 + 1 * j) (by omega)).trans (hW1 236 (1 + 1 * j) (by omega)))
    have gB2 : LB 12 6 1 1 1 I2 := LB_f hB2 ((hW2 0 (2) (by omega)).trans (hW1 0 (2) (by omega))) (fun j hj => (hW2 113 (j + 6) (by omega)).trans (hW1 113 (j + 6) (by omega))) (fun j hj => (hW2 237 (1 + 1 * j) (by omega)).trans (hW1 237 (1 + 1 * j) (by omega)))
    have gL3 : LA 15 0 20 188 6 I2 := LA_f hL3 (fun j hj => (hW2 15 (j + 0) (by omega)).trans (hW1 15 (j + 0) (by omega))) (fun j hj => (hW2 236 (188 + 6 * j) (by omega)).trans (hW1 236 (188 + 6 * j) (by omega)))
    have gB3 : LB 15 0 20 188 6 I2 := LB_f hB3 ((hW2 0 (2) (by omega)).trans (hW1 0 (2) (by omega))) (fun j hj => (hW2 116 (j + 0) (by omega)).trans (hW1 116 (j + 0) (by omega))) (fun j hj => (hW2 237 (188 + 6 * j) (by omega)).trans (hW1 237 (188 + 6 * j) (by omega)))
    have gL4 : LA 8 0 6 16 4 I2 := LA_f hL4 (fun j hj => (hW2 8 (j + 0) (by omega)).trans (hW1 8 (j + 0) (by omega))) (fun j hj => (hW2 236 (16 + 4 * j) (by omega)).trans (hW1 236 (16 + 4 * j) (by omega)))
    have gB4 : LB 8 0 6 16 4 I2 := LB_f hB4 ((hW2 0 (2) (by omega)).trans (hW1 0 (2) (by omega))) (fun j hj => (hW2 109 (j + 0) (by omega)).trans (hW1 109 (j + 0) (by omega))) (fun j hj => (hW2 237 (16 + 4 * j) (by omega)).trans (hW1 237 (16 + 4 * j) (by omega)))
    exact ⟨gI, gL0, gB0, gL1, gB1, gL2, gB2, gL3, gB3, gL4, gB4, gLH, gLN, gLPc, gLPk, gLTc, gLTk, gLGc, gLGk, gLRc, gLRk⟩
  exact law_tail h ih hF hR2 hK2
theorem law_18 (hN : gN G ≤ 3072) : ∀ (m : Nat) (i : Int) (F : pF) (I : pI), FS F → Rg I → LK I → 0 ≤ i → (3078 - i).toNat < m → GoN G 1000 kL_law 0 NP 18 (lvl i) [] F I Qlw := by
  intro m
  induction m with
  | zero => intro i F I _ _ _ _ h; exact absurd h (Nat.not_lt_zero _)
  | succ m IH =>
    intro i F I hF hR hK hi hm
    refine law_wp law_oc ckL_law [212, 275, 308, 341, 374, 417, 460, 493, 556, 579, 612, 635, 668, 701, 724, 757, 790, 823, 866, 909, 962, 995, 1048, 1091, 1134, 1167, 1200, 1233, 1256, 1299, 1322, 1365, 1388, 1431, 1474, 1537, 1550, 1563, 1586, 1619, 1642, 1665] ?_
    refine ⟨rfl, ?_⟩
    refine ⟨fun _ => ⟨rfl, Or.inr rfl, rfl⟩, fun c => ?_⟩
    have h := isB hN hi c
    have ih : NXT G i := fun F I hF hR hK => IH (i + 6) F I hF hR hK (by omega) (by have := h.2.1; have := h.2.2; omega)
    refine ⟨rfl, hi, (by have := h.2.1; omega), ?_⟩
    refine ⟨fun _ => law_c0 h ih hF hR hK, fun _ => ?_⟩
    refine ⟨fun _ => law_c1 h ih hF hR hK, fun _ => ?_⟩
    refine ⟨fun _ => law_c2 h ih hF hR hK, fun _ => ?_⟩
    refine ⟨fun _ => law_c3 h ih hF hR hK, fun _ => ?_⟩
    refine ⟨fun _ => law_c4 h ih hF hR hK, fun _ => ?_⟩
    refine ⟨fun _ => law_c5 h ih hF hR hK, fun _ => ?_⟩
    refine ⟨fun _ => law_c6 h ih hF hR hK, fun _ => ?_⟩
    refine ⟨fun _ => law_c7 h ih hF hR hK, fun _ => ?_⟩
    refine ⟨fun _ => law_c8 h ih hF hR hK, fun _ => ?_⟩
    refine ⟨fun _ => law_c9 h ih hF hR hK, fun _ => ?_⟩
    refine ⟨fun _ => law_c10 h ih hF hR hK, fun _ => ?_⟩
    refine ⟨fun _ => law_c11 h ih hF hR hK, fun _ => ?_⟩
    refine ⟨fun _ => law_c12 h ih hF hR hK, fun _ => ?_⟩
    refine ⟨fun _ => law_c13 h ih hF hR hK, fun _ => ?_⟩
    refine ⟨fun _ => law_c14 h ih hF hR hK, fun _ => ?_⟩
    refine ⟨fun _ => law_c15 h ih hF hR hK, fun _ => ?_⟩
    refine ⟨fun _ => law_c16 h ih hF hR hK, fun _ => ?_⟩
    refine ⟨fun _ => law_c17 h ih hF hR hK, fun _ => ?_⟩
    refine ⟨fun _ => law_c18 h ih hF hR hK, fun _ => ?_⟩
    refine ⟨fun _ => law_c19 h ih hF hR hK, fun _ => ?_⟩
    refine ⟨fun _ => law_c20 h ih hF hR hK, fun _ => ?_⟩
    refine ⟨fun _ => law_c21 h ih hF hR hK, fun _ => ?_⟩
    refine ⟨fun _ => law_c22 h ih hF hR hK, fun _ => ?_⟩
    refine ⟨fun _ => law_c23 h ih hF hR hK, fun _ => ?_⟩
    refine ⟨fun _ => law_c24 h ih hF hR hK, fun _ => ?_⟩
    refine ⟨fun _ => law_c25 h ih hF hR hK, fun _ => ?_⟩
    refine ⟨fun _ => law_c26 h ih hF hR hK, fun _ => ?_⟩
    refine ⟨fun _ => law_c27 h ih hF hR hK, fun _ => ?_⟩
    refine ⟨fun _ => law_c28 h ih hF hR hK, fun _ => ?_⟩
    refine ⟨fun _ => law_c29 h ih hF hR hK, fun _ => ?_⟩
    refine ⟨fun _ => law_c30 h ih hF hR hK, fun _ => ?_⟩
    refine ⟨fun _ => law_c31 h ih hF hR hK, fun _ => ?_⟩
    refine ⟨fun _ => law_c32 h ih hF hR hK, fun _ => ?_⟩
    refine ⟨fun _ => law_c33 h ih hF hR hK, fun _ => ?_⟩
    refine ⟨fun _ => law_c34 h ih hF hR hK, fun _ => ?_⟩
    refine ⟨fun _ => law_c35 h ih hF hR hK, fun _ => ?_⟩
    refine ⟨fun _ => law_c36 h ih hF hR hK, fun _ => ?_⟩
    refine ⟨fun _ => law_c37 h ih hF hR hK, fun _ => ?_⟩
    refine ⟨fun _ => law_c38 h ih hF hR hK, fun _ => ?_⟩
    refine ⟨fun _ => law_c39 h ih hF hR hK, fun _ => ?_⟩
    refine ⟨fun _ => law_c40 h ih hF hR hK, fun _ => ?_⟩
    exact law_tail h ih hF hR hK
set_option maxRecDepth 100000 in
theorem law_go (hN : gN G ≤ 3072) : GoN G 1000 kL_law 0 0 0 [some (vr EXT), none, none, none] [] (fun _ _ => none) (fun _ _ => 0) Qlw := by
  refine law_wp law_oc ckL_law [18] ?_
  refine ⟨rfl, (by decide), (by decide), ?_⟩
  refine ⟨Nat.le_of_ble_eq_true rfl, (by decide), ?_⟩
  refine s_X11_init_0 ?_
  refine ⟨rfl, (by decide), (by decide), ?_⟩
  refine ⟨Nat.le_of_ble_eq_true rfl, (by decide), ?_⟩
  refine s_X12_init_235 ?_
  exact law_18 hN _ 0 F00 I00 F00_S I00_R I00_K (by decide) (Nat.lt_succ_self _)
end LW
/-! the claim's start: the law's walk, through law_start. -/
theorem whole_start {p : Program} {e : Env} {s : State} {m : MethodId} {below : List Frame} {meth : Method} {c : Code} (l : Launch) (hflags : l.flags = flags0) {b L : Nat} {xs : Nat → Int32} (hL : L ≤ 3072) (C0 : lw_At p s m meth c b L xs) : W p l e room_1 s m #[Value.ref b] below meth c s.heap [] 0 0 (lw_Z below #[Value.ref b] s) (entryFrame m ([Value.ref b] : List Value).toArray 4) :=
  law_start l C0 (fun G hg _ => law_go (by rw [hg]; exact hL))
