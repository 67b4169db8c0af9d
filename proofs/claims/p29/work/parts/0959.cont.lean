/-! rows of numbers: what the calls write into them. Own work (scripts laid by wip/pm/gen34.py). -/
section CO
variable {G : pG} {d : Nat} {F : pF} {I : pI} {Q : Option pV → pF → pI → Prop}
def cst (b v : Int) : Int := if b = 8 then wb v else if b = 16 then wsh v else v
/-- n numbers stand there, each from lo to hi -/
abbrev GD (f : Nat → Int) (len n lo hi : Int) : Prop := n ≤ len ∧ ∀ j : Nat, (j : Int) < n → lo ≤ f j ∧ f j ≤ hi
theorem GD_e {f g : Nat → Int} {l n lo hi : Int} (hn : n ≤ 24) (e : ∀ j, j < 24 → f j = g j) : GD f l n lo hi ↔ GD g l n lo hi :=
  ⟨fun h => ⟨h.1, fun j hj => by rw [← e j (by omega)]; exact h.2 j hj⟩, fun h => ⟨h.1, fun j hj => by rw [e j (by omega)]; exact h.2 j hj⟩⟩
/-- the numbers of the class's rows and of the reference's -/
def LN (I : pI) : Prop := ∀ s j : Nat, s < 4 → j < 24 → I (228 + 2 * s) j = I 252 (24 * s + j)
theorem LN_of {I : pI} (h : (List.range 4).all (fun s => (List.range 24).all (fun j => I (228 + 2 * s) j == I 252 (24 * s + j))) = true) : LN I := fun s j hs hj => by
  have a := List.all_eq_true.mp h s (List.mem_range.mpr hs)
  have b := List.all_eq_true.mp a j (List.mem_range.mpr hj)
  simpa using b
theorem LN_f {I J : pI} (h : LN I) (h1 : ∀ s j, s < 4 → j < 24 → J (228 + 2 * s) j = I (228 + 2 * s) j) (h2 : ∀ s j, s < 4 → j < 24 → J 252 (24 * s + j) = I 252 (24 * s + j)) : LN J := fun s j hs hj => (h1 s j hs hj).trans ((h s j hs hj).trans (h2 s j hs hj).symm)
theorem put_k {I J K : pI} {a b v : Int} (hH : LH I) (hN : LN I) (h1 : ∀ s j : Nat, s < 4 → j < 24 → J (228 + 2 * s) j = if fx_put a b (I (227 + 2 * Int.toNat a) 0) (I (227 + 2 * Int.toNat a) 1) = 1 ∧ (s : Int) = a ∧ (j : Int) = b then cst (I (227 + 2 * Int.toNat a) 0) v else I (228 + 2 * s) j)
    (h2 : ∀ s j : Nat, s < 4 → j < 24 → K 252 (24 * s + j) = if fx_put a b (J 250 (Int.toNat a)) (J 251 (Int.toNat a)) = 1 ∧ (s : Int) = a ∧ (j : Int) = b then cst (J 250 (Int.toNat a)) v else J 252 (24 * s + j)) (h3 : ∀ s j, s < 4 → j < 24 → K (228 + 2 * s) j = J (228 + 2 * s) j) (h4 : ∀ k j, 235 ≤ k → J k j = I k j) : LN K := fun s j hs hj => by
  rw [h3 s j hs hj, h1 s j hs hj, h2 s j hs hj, h4 252 _ (by decide), hN s j hs hj]
  by_cases c : (s : Int) = a ∧ (j : Int) = b
  · have e := hH (Int.toNat a) (by omega)
    rw [h4 250 _ (by decide), h4 251 _ (by decide), e.1, e.2]
  · rw [if_neg (fun z => c z.2), if_neg (fun z => c z.2)]
theorem move_k {I J K : pI} {a i b jj n : Int} (hR : Rg I) (hH : LH I) (hN : LN I)
    (h1 : ∀ s j : Nat, s < 4 → j < 24 → J (228 + 2 * s) j = if 0 ≤ fx_move a i b jj n (I (227 + 2 * Int.toNat a) 0) (I (227 + 2 * Int.toNat a) 1) (I (227 + 2 * Int.toNat b) 0) (I (227 + 2 * Int.toNat b) 1) ∧ (s : Int) = b ∧ jj ≤ (j : Int) ∧ (j : Int) < jj + n then I (228 + 2 * Int.toNat a) (Int.toNat i + (j - Int.toNat jj)) else I (228 + 2 * s) j)
    (h2 : ∀ s j : Nat, s < 4 → j < 24 → K 252 (24 * s + j) = if 0 ≤ fx_move a i b jj n (J 250 (Int.toNat a)) (J 251 (Int.toNat a)) (J 250 (Int.toNat b)) (J 251 (Int.toNat b)) ∧ (s : Int) = b ∧ jj ≤ (j : Int) ∧ (j : Int) < jj + n then J 252 (24 * Int.toNat a + (Int.toNat i + (j - Int.toNat jj))) else J 252 (24 * s + j))
    (h3 : ∀ s j, s < 4 → j < 24 → K (228 + 2 * s) j = J (228 + 2 * s) j) (h4 : ∀ k j, 235 ≤ k → J k j = I k j) : LN K := fun s j hs hj => by
  rw [h3 s j hs hj, h1 s j hs hj, h2 s j hs hj, h4 252 _ (by decide), h4 252 _ (by decide), hN s j hs hj]
  by_cases c : (0 ≤ a ∧ a ≤ 3) ∧ (0 ≤ b ∧ b ≤ 3)
  · have e := hH (Int.toNat a) (by omega)
    have f := hH (Int.toNat b) (by omega)
    rw [h4 250 _ (by decide), h4 251 _ (by decide), h4 250 _ (by decide), h4 251 _ (by decide), e.1, e.2, f.1, f.2]
    have g := (Rg.h hR (lay_sh c.1) (by omega)).2
    rw [e.2] at g
    split
    · next z =>
      have z1 := z.1
      unfold fx_move at z1
      rw [hN (Int.toNat a) _ (by omega) (by (repeat' split at z1) <;> omega)]
    · rfl
  · have k : ∀ x y z w, ¬ 0 ≤ fx_move a i b jj n x y z w := fun x y z w => by unfold fx_move; rw [if_pos (by omega)]; decide
    rw [if_neg (fun z => k _ _ _ _ z.1), if_neg (fun z => k _ _ _ _ z.1)]
theorem c_become4_l (hF : FS F) (hR : Rg I) {v0 v1 : Int} {h : Nat} (hh : HP F h) (hQ : ∀ (I' : pI), Rg I' → (∀ k j, ¬ (k = h ∨ k = h + 1) → I' k j = I k j) → ((I' h 0) = v0) → (v0 = 0 → (I' h 1) = 0) → (¬ v0 = 0 → 0 ≤ v1 → v1 ≤ 24 → (I' h 1) = v1) → (∀ j : Nat, j < 24 → I' (h + 1) j = 0) → Q none F I') : ∀ (mz : Nat) (i : Int) (J : pI), Rg J → (∀ k j, ¬ (k = h ∨ k = h + 1) → J k j = I k j) → ((0 : Int) ≤ i) → ((i : Int) ≤ 24) → ((J h 0) = v0) → (v0 = 0 → (J h 1) = 0) → (¬ v0 = 0 → 0 ≤ v1 → v1 ≤ 24 → (J h 1) = v1) → (∀ j : Nat, (j : Int) < i → J (h + 1) j = 0) → (24 - i).toNat < mz → GoN G d kX7_become NP NP 29 [some (vr h), some (vi v0), some (vi v1), some (vi i)] [] F J Q := by
  intro mz
  induction mz with
  | zero => intro i J hJ hV _ _ _ _ _ _ h; exact absurd h (Nat.not_lt_zero _)
  | succ mz ih =>
    intro i J hJ hV c100 c101 c102 c103 c104 c105 hm
    refine GoN_in (fun hok hA => ?_)
    have iiv0 : -2147483648 ≤ v0 ∧ v0 < 2147483648 := hok 1 _ rfl
    have iiv1 : -2147483648 ≤ v1 ∧ v1 < 2147483648 := hok 2 _ rfl
    have iii : -2147483648 ≤ i ∧ i < 2147483648 := hok 3 _ rfl
    have a1 : -2147483648 ≤ (J h 0) ∧ (J h 0) < 2147483648 := hA.1 _ _
    have r2 : 0 ≤ (J h 1) ∧ (J h 1) ≤ 24 := hJ.h hh.1 (by have := hh.2.2.1; omega)
    refine Go_wp (by decide) ckX7_become [29] ?_
    refine ⟨fun (c4 : ((24 : Int) ≤ i)) => ?_, fun (c4 : (¬ ((24 : Int) ≤ i))) => ?_⟩
    ·
      exact ⟨rfl, hQ _ hJ (fun ka ja hk => (hV ka ja (by omega))) (show (J h 0) = v0 from by first | omega | (simp only [wr, wl] at *; omega)) (show v0 = 0 → (J h 1) = 0 from by first | with_reducible assumption | omega | (simp only [wr, wl] at *; omega)) (show ¬ v0 = 0 → 0 ≤ v1 → v1 ≤ 24 → (J h 1) = v1 from by first | with_reducible assumption | omega | (simp only [wr, wl] at *; omega)) (fun j hj => c105 j (by omega))⟩
    ·
      refine ⟨_, hh.1, (by have := hh.2.2.1; show _ < 254; omega), ?_⟩
      refine fun w0 hw0 => ?_; obtain rfl : w0 = some (h + 1) := hw0.symm.trans hh.2.2.2
      refine ⟨_, hh.2.1, (by have := hh.2.2.1; show _ < 254; omega), (show (0 : Int) ≤ i from by first | with_reducible assumption | omega | (simp only [wr, wl] at *; omega)), (show i < (24 : Int) from by first | with_reducible assumption | omega | (simp only [wr, wl] at *; omega)), ?_⟩
      have n5 : (wr (i + 1)) = i + 1 := wr_id (show -2147483648 ≤ (i + 1 : Int) ∧ (i + 1 : Int) < 2147483648 from by omega)
      have u6 : ((uI J (h + 1) (Int.toNat i) 0) h 0) = (J h 0) := uI_o (fun e => absurd e.1 (lay_ne hh.1 hh.2.1 (by decide)))
      have u7 : ((uI J (h + 1) (Int.toNat i) 0) h 1) = (J h 1) := uI_o (fun e => absurd e.1 (lay_ne hh.1 hh.2.1 (by decide)))
      exact ih (wr (i + 1)) (uI J (h + 1) (Int.toNat i) 0) (Rg.u hJ (Pr_l hh.2.1 (by have := hh.2.2.1; omega) _ _ ⟨Or.inl (by decide), Or.inl (by decide), Or.inl (by decide)⟩)) (fun ka ja hk => ((uI_o (show ¬ (ka = (h + 1) ∧ ja = (Int.toNat i)) from by have := hh.2.2.1; omega))).trans ((hV ka ja (by omega)))) (show (0 : Int) ≤ (wr (i + 1)) from by first | with_reducible assumption | omega | (simp only [wr, wl] at *; omega)) (show ((wr (i + 1)) : Int) ≤ 24 from by first | with_reducible assumption | omega | (simp only [wr, wl] at *; omega)) (show ((uI J (h + 1) (Int.toNat i) 0) h 0) = v0 from by first | omega | (simp only [wr, wl] at *; omega)) (show v0 = 0 → ((uI J (h + 1) (Int.toNat i) 0) h 1) = 0 from by first | with_reducible assumption | omega | (simp only [wr, wl] at *; omega)) (show ¬ v0 = 0 → 0 ≤ v1 → v1 ≤ 24 → ((uI J (h + 1) (Int.toNat i) 0) h 1) = v1 from by first | with_reducible assumption | omega | (simp only [wr, wl] at *; omega)) (fun j hj => if e : j = (Int.toNat i) then (by rw [e]; exact uJ_eq) else (uJ_ne e).trans (c105 j (by omega))) (show (24 - (wr (i + 1))).toNat < mz from by omega)
theorem c_become4 (hF : FS F) (hR : Rg I) {v0 v1 : Int} {h : Nat} (hh : HP F h) (hQ : ∀ (I' : pI), Rg I' → AR I' → (∀ k j, ¬ (k = h ∨ k = h + 1) → I' k j = I k j) → ((I' h 0) = v0) → (v0 = 0 → (I' h 1) = 0) → (¬ v0 = 0 → 0 ≤ v1 → v1 ≤ 24 → (I' h 1) = v1) → (∀ j : Nat, j < 24 → I' (h + 1) j = 0) → Q none F I') : CallN G (d + 1) kX7_become [vr h, vi v0, vi v1] NP F I Q := by
  refine CallN_in (fun hok hA => CallN_out ?_)
  have iv0 : -2147483648 ≤ v0 ∧ v0 < 2147483648 := hok (vi v0) (by simp)
  have iv1 : -2147483648 ≤ v1 ∧ v1 < 2147483648 := hok (vi v1) (by simp)
  refine Call_wp (lv := [some (vr h), some (vi v0), some (vi v1), none]) (by decide) ckX7_become [29] rfl rfl ?_
  refine ⟨_, hh.1, (by have := hh.2.2.1; show _ < 254; omega), ?_⟩
  refine ⟨fun (c1 : (¬ (v0 : Int) = 0)) => ?_, fun (c1 : ((v0 : Int) = 0)) => ?_⟩
  ·
    refine j_min (fun w2 h3 h4 h5 => ?_)
    refine j_max (fun w6 h7 h8 h9 => ?_)
    refine ⟨_, hh.1, (by have := hh.2.2.1; show _ < 254; omega), ?_⟩
    have p10 : (0 : Int) ≤ w6 ∧ (w6 : Int) ≤ 24 := by omega
    have u11 : ((uI (uI I h 0 v0) h 1 w6) h 0) = v0 := (uJ_ne (by decide)).trans (uJ_eq)
    have u12 : ((uI (uI I h 0 v0) h 1 w6) h 1) = w6 := uJ_eq
    refine c_become4_l hF hR hh (fun I' g1 g2 g3 g4 g5 g6 hv hA' => hQ _ g1 hA' g2 g3 g4 g5 g6) _ 0 (uI (uI I h 0 v0) h 1 w6) (Rg.u (Rg.u hR (Pr_l hh.1 (by have := hh.2.2.1; omega) _ _ (by decide))) (Pr_h hh.1 (by have := hh.2.2.1; omega) p10)) (fun ka ja hk => ((uI_o (show ¬ (ka = h ∧ ja = 1) from by have := hh.2.2.1; omega))).trans ((uI_o (show ¬ (ka = h ∧ ja = 0) from by have := hh.2.2.1; omega)))) (show (0 : Int) ≤ (0 : Int) from Int.le_refl _) (show ((0 : Int) : Int) ≤ 24 from by first | with_reducible assumption | omega | (simp only [wr, wl] at *; omega)) (show ((uI (uI I h 0 v0) h 1 w6) h 0) = v0 from by first | omega | (simp only [wr, wl] at *; omega)) (show v0 = 0 → ((uI (uI I h 0 v0) h 1 w6) h 1) = 0 from by first | with_reducible assumption | omega | (simp only [wr, wl] at *; omega)) (show ¬ v0 = 0 → 0 ≤ v1 → v1 ≤ 24 → ((uI (uI I h 0 v0) h 1 w6) h 1) = v1 from by first | with_reducible assumption | omega | (simp only [wr, wl] at *; omega)) (fun j hj => absurd hj (by omega)) (Nat.lt_succ_self _)
  ·
    refine ⟨_, hh.1, (by have := hh.2.2.1; show _ < 254; omega), ?_⟩
    have p13 : (0 : Int) ≤ 0 ∧ (0 : Int) ≤ 24 := by decide
    have u14 : ((uI (uI I h 0 v0) h 1 0) h 0) = v0 := (uJ_ne (by decide)).trans (uJ_eq)
    have u15 : ((uI (uI I h 0 v0) h 1 0) h 1) = 0 := uJ_eq
    refine c_become4_l hF hR hh (fun I' g1 g2 g3 g4 g5 g6 hv hA' => hQ _ g1 hA' g2 g3 g4 g5 g6) _ 0 (uI (uI I h 0 v0) h 1 0) (Rg.u (Rg.u hR (Pr_l hh.1 (by have := hh.2.2.1; omega) _ _ (by decide))) (Pr_h hh.1 (by have := hh.2.2.1; omega) p13)) (fun ka ja hk => ((uI_o (show ¬ (ka = h ∧ ja = 1) from by have := hh.2.2.1; omega))).trans ((uI_o (show ¬ (ka = h ∧ ja = 0) from by have := hh.2.2.1; omega)))) (show (0 : Int) ≤ (0 : Int) from Int.le_refl _) (show ((0 : Int) : Int) ≤ 24 from by first | with_reducible assumption | omega | (simp only [wr, wl] at *; omega)) (show ((uI (uI I h 0 v0) h 1 0) h 0) = v0 from by first | omega | (simp only [wr, wl] at *; omega)) (show v0 = 0 → ((uI (uI I h 0 v0) h 1 0) h 1) = 0 from by first | with_reducible assumption | omega | (simp only [wr, wl] at *; omega)) (show ¬ v0 = 0 → 0 ≤ v1 → v1 ≤ 24 → ((uI (uI I h 0 v0) h 1 0) h 1) = v1 from by first | with_reducible assumption | omega | (simp only [wr, wl] at *; omega)) (fun j hj => absurd hj (by omega)) (Nat.lt_succ_self _)
theorem c_sheet4 (hF : FS F) (hR : Rg I) {v0 v1 v2 : Int}  (hQ : ∀ (r : Int) (I' : pI), Rg I' → AR I' → iR r → (∀ k j, ¬ (k = 203 ∨ (227 ≤ k ∧ k < 235)) → I' k j = I k j) → (r = fx_sheet v0 v1 v2 ∧ (∀ s : Nat, s < 4 → I' (227 + 2 * s) 0 = (if VS v0 v1 v2 ∧ (s : Int) = v0 then v1 else I (227 + 2 * s) 0) ∧ I' (227 + 2 * s) 1 = (if VS v0 v1 v2 ∧ (s : Int) = v0 then (if v1 = 0 then 0 else v2) else I (227 + 2 * s) 1)) ∧ ∀ s j : Nat, s < 4 → j < 24 → I' (228 + 2 * s) j = if VS v0 v1 v2 ∧ (s : Int) = v0 then 0 else I (228 + 2 * s) j) → Q (some (vi r)) F I') : CallN G (d + 2) kX11_sheet [vr 0, vi v0, vi v1, vi v2] NP F I Q := by
  refine CallN_in (fun hok hA => CallN_out ?_)
  have iv0 : -2147483648 ≤ v0 ∧ v0 < 2147483648 := hok (vi v0) (by simp)
  have iv1 : -2147483648 ≤ v1 ∧ v1 < 2147483648 := hok (vi v1) (by simp)
  have iv2 : -2147483648 ≤ v2 ∧ v2 < 2147483648 := hok (vi v2) (by simp)
  refine Call_wp (lv := [some (vr 0), some (vi v0), some (vi v1), some (vi v2), none]) (by decide) ckX11_sheet [] rfl rfl ?_
  refine ⟨⟨_, rfl, (by decide)⟩, ?_⟩
  refine s_X11_sheetAt hF (fun (w1 : (0 ≤ v0 ∧ v0 ≤ 3)) => ?_) (fun (w1 : ¬ (0 ≤ v0 ∧ v0 ≤ 3)) => ?_)
  ·
    have hp2 : HP F (227 + 2 * Int.toNat v0) := HP_of hF w1
    refine ⟨fun (c3 : ((v1 : Int) = 0)) => ?_, fun (c3 : (¬ ((v1 : Int) = 0))) => ?_⟩
    ·
      refine ⟨fun _ => ?_, fun c => absurd (show ((v1 : Int) = 0) from by first | omega | (simp only [wr, wl] at *; omega)) c⟩
      refine ⟨fun _ => ?_, fun c => absurd (show ((v1 : Int) = 0) from by first | omega | (simp only [wr, wl] at *; omega)) c⟩
      refine ⟨⟨_, hp2.1, (by have := hp2.2.2.1; show _ < 254; omega)⟩, ?_⟩
      refine c_become4 (v0 := v1) (v1 := v2) hF hR hp2 (fun I4 hR5 hA6 hW7 q8 q9 q10 qr11 => ?_)
      have q8 : (I4 (227 + 2 * Int.toNat v0) 0) = (v1 : Int) := q8
      have q9 : (v1 : Int) = 0 → (I4 (227 + 2 * Int.toNat v0) 1) = 0 := q9
      have q10 : ¬ (v1 : Int) = 0 → 0 ≤ (v2 : Int) → (v2 : Int) ≤ 24 → (I4 (227 + 2 * Int.toNat v0) 1) = (v2 : Int) := q10
      exact ⟨rfl, fun hv hA' => hQ _ _ hR5 hA' (hv _ rfl) (fun ka ja hk => (hW7 ka ja (by omega))) (⟨(by unfold fx_sheet; (repeat' split) <;> first | rfl | omega), fun s hs => (by
                                  by_cases e : (s : Int) = v0
                                  · rw [show 227 + 2 * s = 227 + 2 * Int.toNat v0 from by omega, if_pos ⟨show VS v0 v1 v2 from by unfold VS; omega, e⟩, if_pos ⟨show VS v0 v1 v2 from by unfold VS; omega, e⟩]
                                    exact ⟨q8, by split <;> omega⟩
                                  · rw [if_neg (fun h => e h.2), if_neg (fun h => e h.2)]
                                    exact ⟨hW7 _ _ (by first | decide | omega), hW7 _ _ (by first | decide | omega)⟩), fun s j hs hj => if e : (s : Int) = v0 then (by rw [show 228 + 2 * s = 227 + 2 * Int.toNat v0 + 1 from by omega, if_pos ⟨show VS v0 v1 v2 from by unfold VS; omega, e⟩]; exact qr11 j hj) else (by rw [if_neg (fun h => e h.2)]; exact hW7 _ _ (by first | decide | omega))⟩)⟩
    ·
      refine ⟨fun (c12 : ((v1 : Int) = 8)) => ?_, fun (c12 : (¬ ((v1 : Int) = 8))) => ?_⟩
      ·
        refine ⟨fun c => absurd c (show (¬ ((v1 : Int) = 0)) from by first | omega | (simp only [wr, wl] at *; omega)), fun _ => ?_⟩
        refine ⟨fun (c13 : ((0 : Int) ≤ v2)) => ?_, fun (c13 : (¬ ((0 : Int) ≤ v2))) => ?_⟩
        ·
          refine ⟨fun c => absurd c (show (¬ ((v1 : Int) = 0)) from by first | omega | (simp only [wr, wl] at *; omega)), fun _ => ?_⟩
          refine ⟨fun (c14 : ((v2 : Int) ≤ 24)) => ?_, fun (c14 : (¬ ((v2 : Int) ≤ 24))) => ?_⟩
          ·
            refine ⟨⟨_, hp2.1, (by have := hp2.2.2.1; show _ < 254; omega)⟩, ?_⟩
            refine c_become4 (v0 := v1) (v1 := v2) hF hR hp2 (fun I15 hR16 hA17 hW18 q19 q20 q21 qr22 => ?_)
            have q19 : (I15 (227 + 2 * Int.toNat v0) 0) = (v1 : Int) := q19
            have q20 : (v1 : Int) = 0 → (I15 (227 + 2 * Int.toNat v0) 1) = 0 := q20
            have q21 : ¬ (v1 : Int) = 0 → 0 ≤ (v2 : Int) → (v2 : Int) ≤ 24 → (I15 (227 + 2 * Int.toNat v0) 1) = (v2 : Int) := q21
            exact ⟨rfl, fun hv hA' => hQ _ _ hR16 hA' (hv _ rfl) (fun ka ja hk => (hW18 ka ja (by omega))) (⟨(by unfold fx_sheet; (repeat' split) <;> first | rfl | omega), fun s hs => (by
                                  by_cases e : (s : Int) = v0
                                  · rw [show 227 + 2 * s = 227 + 2 * Int.toNat v0 from by omega, if_pos ⟨show VS v0 v1 v2 from by unfold VS; omega, e⟩, if_pos ⟨show VS v0 v1 v2 from by unfold VS; omega, e⟩]
                                    exact ⟨q19, by split <;> omega⟩
                                  · rw [if_neg (fun h => e h.2), if_neg (fun h => e h.2)]
                                    exact ⟨hW18 _ _ (by first | decide | omega), hW18 _ _ (by first | decide | omega)⟩), fun s j hs hj => if e : (s : Int) = v0 then (by rw [show 228 + 2 * s = 227 + 2 * Int.toNat v0 + 1 from by omega, if_pos ⟨show VS v0 v1 v2 from by unfold VS; omega, e⟩]; exact qr22 j hj) else (by rw [if_neg (fun h => e h.2)]; exact hW18 _ _ (by first | decide | omega))⟩)⟩
          ·
            refine ⟨⟨_, rfl, (by decide)⟩, ?_⟩
            refine s_X11_refuse hF (e := 1) (by decide) ?_
            exact ⟨rfl, fun hv hA' => hQ _ _ (Rg.u hR (Pr_f rfl)) hA' (hv _ rfl) (fun ka ja hk => (uI_o (show ¬ (ka = 203 ∧ ja = 1) from by first | (intro e; obtain ⟨rfl, rfl⟩ := e; exact hk (by decide)) | omega))) (⟨(by unfold fx_sheet; (repeat' split) <;> first | rfl | omega), fun s hs => ⟨((uI_o (by omega))).trans (if_neg (fun h => absurd h.1 (by unfold VS; omega))).symm, ((uI_o (by omega))).trans (if_neg (fun h => absurd h.1 (by unfold VS; omega))).symm⟩, fun s j hs hj => ((uI_o (by omega))).trans (if_neg (fun h => absurd h.1 (by unfold VS; omega))).symm⟩)⟩
        ·
          refine ⟨⟨_, rfl, (by decide)⟩, ?_⟩
          refine s_X11_refuse hF (e := 3) (by decide) ?_
          exact ⟨rfl, fun hv hA' => hQ _ _ (Rg.u hR (Pr_f rfl)) hA' (hv _ rfl) (fun ka ja hk => (uI_o (show ¬ (ka = 203 ∧ ja = 3) from by first | (intro e; obtain ⟨rfl, rfl⟩ := e; exact hk (by decide)) | omega))) (⟨(by unfold fx_sheet; (repeat' split) <;> first | rfl | omega), fun s hs => ⟨((uI_o (by omega))).trans (if_neg (fun h => absurd h.1 (by unfold VS; omega))).symm, ((uI_o (by omega))).trans (if_neg (fun h => absurd h.1 (by unfold VS; omega))).symm⟩, fun s j hs hj => ((uI_o (by omega))).trans (if_neg (fun h => absurd h.1 (by unfold VS; omega))).symm⟩)⟩
      ·
        refine ⟨fun (c23 : ((v1 : Int) = 16)) => ?_, fun (c23 : (¬ ((v1 : Int) = 16))) => ?_⟩
        ·
          refine ⟨fun c => absurd c (show (¬ ((v1 : Int) = 0)) from by first | omega | (simp only [wr, wl] at *; omega)), fun _ => ?_⟩
          refine ⟨fun (c24 : ((0 : Int) ≤ v2)) => ?_, fun (c24 : (¬ ((0 : Int) ≤ v2))) => ?_⟩
          ·
            refine ⟨fun c => absurd c (show (¬ ((v1 : Int) = 0)) from by first | omega | (simp only [wr, wl] at *; omega)), fun _ => ?_⟩
            refine ⟨fun (c25 : ((v2 : Int) ≤ 24)) => ?_, fun (c25 : (¬ ((v2 : Int) ≤ 24))) => ?_⟩
            ·
              refine ⟨⟨_, hp2.1, (by have := hp2.2.2.1; show _ < 254; omega)⟩, ?_⟩
              refine c_become4 (v0 := v1) (v1 := v2) hF hR hp2 (fun I26 hR27 hA28 hW29 q30 q31 q32 qr33 => ?_)
              have q30 : (I26 (227 + 2 * Int.toNat v0) 0) = (v1 : Int) := q30
              have q31 : (v1 : Int) = 0 → (I26 (227 + 2 * Int.toNat v0) 1) = 0 := q31
              have q32 : ¬ (v1 : Int) = 0 → 0 ≤ (v2 : Int) → (v2 : Int) ≤ 24 → (I26 (227 + 2 * Int.toNat v0) 1) = (v2 : Int) := q32
              exact ⟨rfl, fun hv hA' => hQ _ _ hR27 hA' (hv _ rfl) (fun ka ja hk => (hW29 ka ja (by omega))) (⟨(by unfold fx_sheet; (repeat' split) <;> first | rfl | omega), fun s hs => (by
                                  by_cases e : (s : Int) = v0
                                  · rw [show 227 + 2 * s = 227 + 2 * Int.toNat v0 from by omega, if_pos ⟨show VS v0 v1 v2 from by unfold VS; omega, e⟩, if_pos ⟨show VS v0 v1 v2 from by unfold VS; omega, e⟩]
                                    exact ⟨q30, by split <;> omega⟩
                                  · rw [if_neg (fun h => e h.2), if_neg (fun h => e h.2)]
                                    exact ⟨hW29 _ _ (by first | decide | omega), hW29 _ _ (by first | decide | omega)⟩), fun s j hs hj => if e : (s : Int) = v0 then (by rw [show 228 + 2 * s = 227 + 2 * Int.toNat v0 + 1 from by omega, if_pos ⟨show VS v0 v1 v2 from by unfold VS; omega, e⟩]; exact qr33 j hj) else (by rw [if_neg (fun h => e h.2)]; exact hW29 _ _ (by first | decide | omega))⟩)⟩
            ·
              refine ⟨⟨_, rfl, (by decide)⟩, ?_⟩
              refine s_X11_refuse hF (e := 1) (by decide) ?_
              exact ⟨rfl, fun hv hA' => hQ _ _ (Rg.u hR (Pr_f rfl)) hA' (hv _ rfl) (fun ka ja hk => (uI_o (show ¬ (ka = 203 ∧ ja = 1) from by first | (intro e; obtain ⟨rfl, rfl⟩ := e; exact hk (by decide)) | omega))) (⟨(by unfold fx_sheet; (repeat' split) <;> first | rfl | omega), fun s hs => ⟨((uI_o (by omega))).trans (if_neg (fun h => absurd h.1 (by unfold VS; omega))).symm, ((uI_o (by omega))).trans (if_neg (fun h => absurd h.1 (by unfold VS; omega))).symm⟩, fun s j hs hj => ((uI_o (by omega))).trans (if_neg (fun h => absurd h.1 (by unfold VS; omega))).symm⟩)⟩
          ·
            refine ⟨⟨_, rfl, (by decide)⟩, ?_⟩
            refine s_X11_refuse hF (e := 3) (by decide) ?_
            exact ⟨rfl, fun hv hA' => hQ _ _ (Rg.u hR (Pr_f rfl)) hA' (hv _ rfl) (fun ka ja hk => (uI_o (show ¬ (ka = 203 ∧ ja = 3) from by first | (intro e; obtain ⟨rfl, rfl⟩ := e; exact hk (by decide)) | omega))) (⟨(by unfold fx_sheet; (repeat' split) <;> first | rfl | omega), fun s hs => ⟨((uI_o (by omega))).trans (if_neg (fun h => absurd h.1 (by unfold VS; omega))).symm, ((uI_o (by omega))).trans (if_neg (fun h => absurd h.1 (by unfold VS; omega))).symm⟩, fun s j hs hj => ((uI_o (by omega))).trans (if_neg (fun h => absurd h.1 (by unfold VS; omega))).symm⟩)⟩
        ·
          refine ⟨fun (c34 : ((v1 : Int) = 32)) => ?_, fun (c34 : (¬ ((v1 : Int) = 32))) => ?_⟩
          ·
            refine ⟨fun c => absurd c (show (¬ ((v1 : Int) = 0)) from by first | omega | (simp only [wr, wl] at *; omega)), fun _ => ?_⟩
            refine ⟨fun (c35 : ((0 : Int) ≤ v2)) => ?_, fun (c35 : (¬ ((0 : Int) ≤ v2))) => ?_⟩
            ·
              refine ⟨fun c => absurd c (show (¬ ((v1 : Int) = 0)) from by first | omega | (simp only [wr, wl] at *; omega)), fun _ => ?_⟩
              refine ⟨fun (c36 : ((v2 : Int) ≤ 24)) => ?_, fun (c36 : (¬ ((v2 : Int) ≤ 24))) => ?_⟩
              ·
                refine ⟨⟨_, hp2.1, (by have := hp2.2.2.1; show _ < 254; omega)⟩, ?_⟩
                refine c_become4 (v0 := v1) (v1 := v2) hF hR hp2 (fun I37 hR38 hA39 hW40 q41 q42 q43 qr44 => ?_)
                have q41 : (I37 (227 + 2 * Int.toNat v0) 0) = (v1 : Int) := q41
                have q42 : (v1 : Int) = 0 → (I37 (227 + 2 * Int.toNat v0) 1) = 0 := q42
                have q43 : ¬ (v1 : Int) = 0 → 0 ≤ (v2 : Int) → (v2 : Int) ≤ 24 → (I37 (227 + 2 * Int.toNat v0) 1) = (v2 : Int) := q43
                exact ⟨rfl, fun hv hA' => hQ _ _ hR38 hA' (hv _ rfl) (fun ka ja hk => (hW40 ka ja (by omega))) (⟨(by unfold fx_sheet; (repeat' split) <;> first | rfl | omega), fun s hs => (by
                                  by_cases e : (s : Int) = v0
                                  · rw [show 227 + 2 * s = 227 + 2 * Int.toNat v0 from by omega, if_pos ⟨show VS v0 v1 v2 from by unfold VS; omega, e⟩, if_pos ⟨show VS v0 v1 v2 from by unfold VS; omega, e⟩]
                                    exact ⟨q41, by split <;> omega⟩
                                  · rw [if_neg (fun h => e h.2), if_neg (fun h => e h.2)]
                                    exact ⟨hW40 _ _ (by first | decide | omega), hW40 _ _ (by first | decide | omega)⟩), fun s j hs hj => if e : (s : Int) = v0 then (by rw [show 228 + 2 * s = 227 + 2 * Int.toNat v0 + 1 from by omega, if_pos ⟨show VS v0 v1 v2 from by unfold VS; omega, e⟩]; exact qr44 j hj) else (by rw [if_neg (fun h => e h.2)]; exact hW40 _ _ (by first | decide | omega))⟩)⟩
              ·
                refine ⟨⟨_, rfl, (by decide)⟩, ?_⟩
                refine s_X11_refuse hF (e := 1) (by decide) ?_
                exact ⟨rfl, fun hv hA' => hQ _ _ (Rg.u hR (Pr_f rfl)) hA' (hv _ rfl) (fun ka ja hk => (uI_o (show ¬ (ka = 203 ∧ ja = 1) from by first | (intro e; obtain ⟨rfl, rfl⟩ := e; exact hk (by decide)) | omega))) (⟨(by unfold fx_sheet; (repeat' split) <;> first | rfl | omega), fun s hs => ⟨((uI_o (by omega))).trans (if_neg (fun h => absurd h.1 (by unfold VS; omega))).symm, ((uI_o (by omega))).trans (if_neg (fun h => absurd h.1 (by unfold VS; omega))).symm⟩, fun s j hs hj => ((uI_o (by omega))).trans (if_neg (fun h => absurd h.1 (by unfold VS; omega))).symm⟩)⟩
            ·
              refine ⟨⟨_, rfl, (by decide)⟩, ?_⟩
              refine s_X11_refuse hF (e := 3) (by decide) ?_
              exact ⟨rfl, fun hv hA' => hQ _ _ (Rg.u hR (Pr_f rfl)) hA' (hv _ rfl) (fun ka ja hk => (uI_o (show ¬ (ka = 203 ∧ ja = 3) from by first | (intro e; obtain ⟨rfl, rfl⟩ := e; exact hk (by decide)) | omega))) (⟨(by unfold fx_sheet; (repeat' split) <;> first | rfl | omega), fun s hs => ⟨((uI_o (by omega))).trans (if_neg (fun h => absurd h.1 (by unfold VS; omega))).symm, ((uI_o (by omega))).trans (if_neg (fun h => absurd h.1 (by unfold VS; omega))).symm⟩, fun s j hs hj => ((uI_o (by omega))).trans (if_neg (fun h => absurd h.1 (by unfold VS; omega))).symm⟩)⟩
          ·
            refine ⟨⟨_, rfl, (by decide)⟩, ?_⟩
            refine s_X11_refuse hF (e := 1) (by decide) ?_
            exact ⟨rfl, fun hv hA' => hQ _ _ (Rg.u hR (Pr_f rfl)) hA' (hv _ rfl) (fun ka ja hk => (uI_o (show ¬ (ka = 203 ∧ ja = 1) from by first | (intro e; obtain ⟨rfl, rfl⟩ := e; exact hk (by decide)) | omega))) (⟨(by unfold fx_sheet; (repeat' split) <;> first | rfl | omega), fun s hs => ⟨((uI_o (by omega))).trans (if_neg (fun h => absurd h.1 (by unfold VS; omega))).symm, ((uI_o (by omega))).trans (if_neg (fun h => absurd h.1 (by unfold VS; omega))).symm⟩, fun s j hs hj => ((uI_o (by omega))).trans (if_neg (fun h => absurd h.1 (by unfold VS; omega))).symm⟩)⟩
  ·
    refine ⟨⟨_, rfl, (by decide)⟩, ?_⟩
    refine s_X11_refuse hF (e := 1) (by decide) ?_
    exact ⟨rfl, fun hv hA' => hQ _ _ (Rg.u hR (Pr_f rfl)) hA' (hv _ rfl) (fun ka ja hk => (uI_o (show ¬ (ka = 203 ∧ ja = 1) from by first | (intro e; obtain ⟨rfl, rfl⟩ := e; exact hk (by decide)) | omega))) (⟨(by unfold fx_sheet; (repeat' split) <;> first | rfl | omega), fun s hs => ⟨((uI_o (by omega))).trans (if_neg (fun h => absurd h.1 (by unfold VS; omega))).symm, ((uI_o (by omega))).trans (if_neg (fun h => absurd h.1 (by unfold VS; omega))).symm⟩, fun s j hs hj => ((uI_o (by omega))).trans (if_neg (fun h => absurd h.1 (by unfold VS; omega))).symm⟩)⟩
theorem r_sheet4_l (hF : FS F) (hR : Rg I) {v0 v1 v2 : Int} (hs : 0 ≤ v0 ∧ v0 ≤ 3) (hQ : ∀ (r : Int) (I' : pI), Rg I' → (∀ k j, ¬ (k = 252) → I' k j = I k j) → (r = 1) → (∀ j : Nat, I' 252 j = if 24 * v0 ≤ (j : Int) ∧ (j : Int) < 24 * v0 + 24 then 0 else I 252 j) → Q (some (vi r)) F I') : ∀ (mz : Nat) (k : Int) (J : pI), Rg J → (∀ k j, ¬ (k = 252) → J k j = I k j) → ((0 : Int) ≤ k) → ((k : Int) ≤ 24) → (∀ j : Nat, J 252 j = if 24 * v0 ≤ (j : Int) ∧ (j : Int) < 24 * v0 + k then 0 else I 252 j) → (24 - k).toNat < mz → GoN G d kX12_sheet NP NP 93 [some (vr 235), some (vi v0), some (vi v1), some (vi v2), some (vi k)] [] F J Q := by
  intro mz
  induction mz with
  | zero => intro k J hJ hV _ _ _ h; exact absurd h (Nat.not_lt_zero _)
  | succ mz ih =>
    intro k J hJ hV c100 c101 c102 hm
    refine GoN_in (fun hok hA => ?_)
    have iiv0 : -2147483648 ≤ v0 ∧ v0 < 2147483648 := hok 1 _ rfl
    have iiv1 : -2147483648 ≤ v1 ∧ v1 < 2147483648 := hok 2 _ rfl
    have iiv2 : -2147483648 ≤ v2 ∧ v2 < 2147483648 := hok 3 _ rfl
    have iik : -2147483648 ≤ k ∧ k < 2147483648 := hok 4 _ rfl
    refine Go_wp (by decide) ckX12_sheet [93] ?_
    refine ⟨fun (c1 : ((24 : Int) ≤ k)) => ?_, fun (c1 : (¬ ((24 : Int) ≤ k))) => ?_⟩
    ·
      exact ⟨rfl, hQ _ _ hJ (fun ka ja hk => (hV ka ja (by omega))) (show 1 = 1 from by first | omega | (simp only [wr, wl] at *; omega)) (fun j => (c102 j).trans (if e2 : 24 * v0 ≤ (j : Int) ∧ (j : Int) < 24 * v0 + k then (by rw [if_pos e2, if_pos (by omega)]) else (by rw [if_neg e2, if_neg (by omega)])))⟩
    ·
      refine ⟨_, rfl, (by decide), ?_⟩
      refine fun w0 hw0 => ?_; obtain rfl : w0 = some 252 := hw0.symm.trans (FS.g hF rfl)
      have n2 : (wr (24 * v0)) = 24 * v0 := wr_id (show -2147483648 ≤ (24 * v0 : Int) ∧ (24 * v0 : Int) < 2147483648 from by omega)
      have n3 : (wr ((wr (24 * v0)) + k)) = (wr (24 * v0)) + k := wr_id (show -2147483648 ≤ ((wr (24 * v0)) + k : Int) ∧ ((wr (24 * v0)) + k : Int) < 2147483648 from by omega)
      refine ⟨_, rfl, (by decide), (show (0 : Int) ≤ (wr ((wr (24 * v0)) + k)) from by first | with_reducible assumption | omega | (simp only [wr, wl] at *; omega)), (show (wr ((wr (24 * v0)) + k)) < (96 : Int) from by first | with_reducible assumption | omega | (simp only [wr, wl] at *; omega)), ?_⟩
      have n4 : (wr (k + 1)) = k + 1 := wr_id (show -2147483648 ≤ (k + 1 : Int) ∧ (k + 1 : Int) < 2147483648 from by omega)
      exact ih (wr (k + 1)) (uI J 252 (Int.toNat (wr ((wr (24 * v0)) + k))) 0) (Rg.u hJ (Pr_p (k := 252) rfl _ _)) (fun ka ja hk => ((uI_o (show ¬ (ka = 252 ∧ ja = (Int.toNat (wr ((wr (24 * v0)) + k)))) from by omega))).trans ((hV ka ja (by omega)))) (show (0 : Int) ≤ (wr (k + 1)) from by first | with_reducible assumption | omega | (simp only [wr, wl] at *; omega)) (show ((wr (k + 1)) : Int) ≤ 24 from by first | with_reducible assumption | omega | (simp only [wr, wl] at *; omega)) (fun j => if e : j = (Int.toNat (wr ((wr (24 * v0)) + k))) then (by rw [e, if_pos (by omega)]; exact uJ_eq) else ((uJ_ne e).trans (c102 j)).trans (if e2 : 24 * v0 ≤ (j : Int) ∧ (j : Int) < 24 * v0 + k then (by rw [if_pos e2, if_pos (by omega)]) else (by rw [if_neg e2, if_neg (by omega)]))) (show (24 - (wr (k + 1))).toNat < mz from by omega)
theorem r_sheet4 (hF : FS F) (hR : Rg I) {v0 v1 v2 : Int}  (hQ : ∀ (r : Int) (I' : pI), Rg I' → AR I' → iR r → (∀ k j, ¬ (k = 238 ∨ k = 250 ∨ k = 251 ∨ k = 252) → I' k j = I k j) → (r = fx_sheet v0 v1 v2 ∧ (∀ s : Nat, s < 4 → I' 250 s = (if VS v0 v1 v2 ∧ (s : Int) = v0 then v1 else I 250 s) ∧ I' 251 s = (if VS v0 v1 v2 ∧ (s : Int) = v0 then (if v1 = 0 then 0 else v2) else I 251 s)) ∧ ∀ s j : Nat, s < 4 → j < 24 → I' 252 (24 * s + j) = if VS v0 v1 v2 ∧ (s : Int) = v0 then 0 else I 252 (24 * s + j)) → Q (some (vi r)) F I') : CallN G (d + 2) kX12_sheet [vr 235, vi v0, vi v1, vi v2] NP F I Q := by
  refine CallN_in (fun hok hA => CallN_out ?_)
  have iv0 : -2147483648 ≤ v0 ∧ v0 < 2147483648 := hok (vi v0) (by simp)
  have iv1 : -2147483648 ≤ v1 ∧ v1 < 2147483648 := hok (vi v1) (by simp)
  have iv2 : -2147483648 ≤ v2 ∧ v2 < 2147483648 := hok (vi v2) (by simp)
  refine Call_wp (lv := [some (vr 235), some (vi v0), some (vi v1), some (vi v2), none]) (by decide) ckX12_sheet [93] rfl rfl ?_
  refine s_X12_isSheet (fun (w1 : ((0 : Int) ≤ v0 ∧ (v0 : Int) ≤ 3)) => ?_) (fun (w1 : ¬ ((0 : Int) ≤ v0 ∧ (v0 : Int) ≤ 3)) => ?_)
  ·
    refine ⟨fun c => absurd c (show (¬ ((1 : Int) = 0)) from by decide), fun _ => ?_⟩
    refine ⟨fun (c2 : ((v1 : Int) = 0)) => ?_, fun (c2 : (¬ ((v1 : Int) = 0))) => ?_⟩
    ·
      refine ⟨fun _ => ?_, fun c => absurd (show ((v1 : Int) = 0) from by first | omega | (simp only [wr, wl] at *; omega)) c⟩
      refine ⟨fun _ => ?_, fun c => absurd (show ((v1 : Int) = 0) from by first | omega | (simp only [wr, wl] at *; omega)) c⟩
      refine ⟨_, rfl, (by decide), ?_⟩
      refine fun w0 hw0 => ?_; obtain rfl : w0 = some 250 := hw0.symm.trans (FS.g hF rfl)
      refine ⟨_, rfl, (by decide), (show (0 : Int) ≤ v0 from by first | with_reducible assumption | omega | (simp only [wr, wl] at *; omega)), (show v0 < (4 : Int) from by first | with_reducible assumption | omega | (simp only [wr, wl] at *; omega)), ?_⟩
      refine ⟨_, rfl, (by decide), ?_⟩
      refine fun w0 hw0 => ?_; obtain rfl : w0 = some 251 := hw0.symm.trans (FS.g hF rfl)
      refine ⟨fun c => absurd (show ((v1 : Int) = 0) from by first | omega | (simp only [wr, wl] at *; omega)) c, fun _ => ?_⟩
      refine ⟨_, rfl, (by decide), (show (0 : Int) ≤ v0 from by first | with_reducible assumption | omega | (simp only [wr, wl] at *; omega)), (show v0 < (4 : Int) from by first | with_reducible assumption | omega | (simp only [wr, wl] at *; omega)), ?_⟩
      have p3 : (0 : Int) ≤ 0 ∧ (0 : Int) ≤ 24 := by omega
      refine r_sheet4_l hF (Rg.u (Rg.u hR (Pr_p (k := 250) rfl _ _)) (Pr_s p3)) (by omega) (fun r I' g1 g2 g3 g4 hv hA' => hQ _ _ g1 hA' (hv _ rfl) (fun ka ja hk => (g2 ka ja (by omega)).trans (((uI_o (show ¬ (ka = 251 ∧ ja = (Int.toNat v0)) from by first | (intro e; obtain ⟨rfl, _⟩ := e; exact hk (by decide)) | omega))).trans ((uI_o (show ¬ (ka = 250 ∧ ja = (Int.toNat v0)) from by first | (intro e; obtain ⟨rfl, _⟩ := e; exact hk (by decide)) | omega))))) ⟨g3.trans (show (1 : Int) = fx_sheet v0 v1 v2 from (by unfold fx_sheet; (repeat' split) <;> first | rfl | omega)), fun s hs => (by
                  by_cases e : (s : Int) = v0
                  · have e2 : s = Int.toNat v0 := by omega
                    rw [if_pos ⟨show VS v0 v1 v2 from by unfold VS; omega, e⟩, if_pos ⟨show VS v0 v1 v2 from by unfold VS; omega, e⟩, g2 250 s (by omega), g2 251 s (by omega), e2]
                    exact ⟨(uI_o (fun e => absurd e.1 (by decide))).trans uJ_eq, uJ_eq.trans (by split <;> omega)⟩
                  · rw [if_neg (fun h => e h.2), if_neg (fun h => e h.2), g2 250 s (by omega), g2 251 s (by omega)]
                    exact ⟨(uI_o (fun e => absurd e.1 (by decide))).trans (uJ_ne (by omega)), (uJ_ne (by omega)).trans (uI_o (fun e => absurd e.1 (by decide)))⟩), fun s j hs hj => (g4 (24 * s + j)).trans (if e : (s : Int) = v0 then (by rw [if_pos (by omega), if_pos ⟨show VS v0 v1 v2 from by unfold VS; omega, e⟩]) else (by rw [if_neg (by omega), if_neg (fun h => e h.2)]; exact ((uI_o (fun e => absurd e.1 (by decide))).trans (uI_o (fun e => absurd e.1 (by decide))))))⟩) _ 0 (uI (uI I 250 (Int.toNat v0) v1) 251 (Int.toNat v0) 0) (Rg.u (Rg.u hR (Pr_p (k := 250) rfl _ _)) (Pr_s p3)) (fun _ _ _ => rfl) (show (0 : Int) ≤ (0 : Int) from Int.le_refl _) (show ((0 : Int) : Int) ≤ 24 from by first | with_reducible assumption | omega | (simp only [wr, wl] at *; omega)) (fun j => (if_neg (by omega)).symm) (Nat.lt_succ_self _)
    ·
      refine ⟨fun (c4 : ((v1 : Int) = 8)) => ?_, fun (c4 : (¬ ((v1 : Int) = 8))) => ?_⟩
      ·
        refine ⟨fun c => absurd c (show (¬ ((v1 : Int) = 0)) from by first | omega | (simp only [wr, wl] at *; omega)), fun _ => ?_⟩
        refine ⟨fun (c5 : ((0 : Int) ≤ v2)) => ?_, fun (c5 : (¬ ((0 : Int) ≤ v2))) => ?_⟩
        ·
          refine ⟨fun c => absurd c (show (¬ ((v1 : Int) = 0)) from by first | omega | (simp only [wr, wl] at *; omega)), fun _ => ?_⟩
          refine ⟨fun (c6 : ((v2 : Int) ≤ 24)) => ?_, fun (c6 : (¬ ((v2 : Int) ≤ 24))) => ?_⟩
          ·
            refine ⟨_, rfl, (by decide), ?_⟩
            refine fun w0 hw0 => ?_; obtain rfl : w0 = some 250 := hw0.symm.trans (FS.g hF rfl)
            refine ⟨_, rfl, (by decide), (show (0 : Int) ≤ v0 from by first | with_reducible assumption | omega | (simp only [wr, wl] at *; omega)), (show v0 < (4 : Int) from by first | with_reducible assumption | omega | (simp only [wr, wl] at *; omega)), ?_⟩
            refine ⟨_, rfl, (by decide), ?_⟩
            refine fun w0 hw0 => ?_; obtain rfl : w0 = some 251 := hw0.symm.trans (FS.g hF rfl)
            refine ⟨fun _ => ?_, fun c => absurd c (show (¬ (v1 : Int) = 0) from by first | omega | (simp only [wr, wl] at *; omega))⟩
            refine ⟨_, rfl, (by decide), (show (0 : Int) ≤ v0 from by first | with_reducible assumption | omega | (simp only [wr, wl] at *; omega)), (show v0 < (4 : Int) from by first | with_reducible assumption | omega | (simp only [wr, wl] at *; omega)), ?_⟩
            have p7 : (0 : Int) ≤ v2 ∧ (v2 : Int) ≤ 24 := by omega
            refine r_sheet4_l hF (Rg.u (Rg.u hR (Pr_p (k := 250) rfl _ _)) (Pr_s p7)) (by omega) (fun r I' g1 g2 g3 g4 hv hA' => hQ _ _ g1 hA' (hv _ rfl) (fun ka ja hk => (g2 ka ja (by omega)).trans (((uI_o (show ¬ (ka = 251 ∧ ja = (Int.toNat v0)) from by first | (intro e; obtain ⟨rfl, _⟩ := e; exact hk (by decide)) | omega))).trans ((uI_o (show ¬ (ka = 250 ∧ ja = (Int.toNat v0)) from by first | (intro e; obtain ⟨rfl, _⟩ := e; exact hk (by decide)) | omega))))) ⟨g3.trans (show (1 : Int) = fx_sheet v0 v1 v2 from (by unfold fx_sheet; (repeat' split) <;> first | rfl | omega)), fun s hs => (by
                  by_cases e : (s : Int) = v0
                  · have e2 : s = Int.toNat v0 := by omega
                    rw [if_pos ⟨show VS v0 v1 v2 from by unfold VS; omega, e⟩, if_pos ⟨show VS v0 v1 v2 from by unfold VS; omega, e⟩, g2 250 s (by omega), g2 251 s (by omega), e2]
                    exact ⟨(uI_o (fun e => absurd e.1 (by decide))).trans uJ_eq, uJ_eq.trans (by split <;> omega)⟩
                  · rw [if_neg (fun h => e h.2), if_neg (fun h => e h.2), g2 250 s (by omega), g2 251 s (by omega)]
                    exact ⟨(uI_o (fun e => absurd e.1 (by decide))).trans (uJ_ne (by omega)), (uJ_ne (by omega)).trans (uI_o (fun e => absurd e.1 (by decide)))⟩), fun s j hs hj => (g4 (24 * s + j)).trans (if e : (s : Int) = v0 then (by rw [if_pos (by omega), if_pos ⟨show VS v0 v1 v2 from by unfold VS; omega, e⟩]) else (by rw [if_neg (by omega), if_neg (fun h => e h.2)]; exact ((uI_o (fun e => absurd e.1 (by decide))).trans (uI_o (fun e => absurd e.1 (by decide))))))⟩) _ 0 (uI (uI I 250 (Int.toNat v0) v1) 251 (Int.toNat v0) v2) (Rg.u (Rg.u hR (Pr_p (k := 250) rfl _ _)) (Pr_s p7)) (fun _ _ _ => rfl) (show (0 : Int) ≤ (0 : Int) from Int.le_refl _) (show ((0 : Int) : Int) ≤ 24 from by first | with_reducible assumption | omega | (simp only [wr, wl] at *; omega)) (fun j => (if_neg (by omega)).symm) (Nat.lt_succ_self _)
          ·
            refine ⟨⟨_, rfl, (by decide)⟩, ?_⟩
            refine s_X12_finding hF (v := (-1000001)) (by decide) ?_
            exact ⟨rfl, fun hv hA' => hQ _ _ (Rg.u hR (Pr_f rfl)) hA' (hv _ rfl) (fun ka ja hk => (uI_o (show ¬ (ka = 238 ∧ ja = 1) from by first | (intro e; obtain ⟨rfl, rfl⟩ := e; exact hk (by decide)) | omega))) (⟨(by unfold fx_sheet; (repeat' split) <;> first | rfl | omega), fun s hs => ⟨((uI_o (by omega))).trans (if_neg (fun h => absurd h.1 (by unfold VS; omega))).symm, ((uI_o (by omega))).trans (if_neg (fun h => absurd h.1 (by unfold VS; omega))).symm⟩, fun s j hs hj => ((uI_o (by omega))).trans (if_neg (fun h => absurd h.1 (by unfold VS; omega))).symm⟩)⟩
        ·
          refine ⟨⟨_, rfl, (by decide)⟩, ?_⟩
          refine s_X12_finding hF (v := (-1000003)) (by decide) ?_
          exact ⟨rfl, fun hv hA' => hQ _ _ (Rg.u hR (Pr_f rfl)) hA' (hv _ rfl) (fun ka ja hk => (uI_o (show ¬ (ka = 238 ∧ ja = 3) from by first | (intro e; obtain ⟨rfl, rfl⟩ := e; exact hk (by decide)) | omega))) (⟨(by unfold fx_sheet; (repeat' split) <;> first | rfl | omega), fun s hs => ⟨((uI_o (by omega))).trans (if_neg (fun h => absurd h.1 (by unfold VS; omega))).symm, ((uI_o (by omega))).trans (if_neg (fun h => absurd h.1 (by unfold VS; omega))).symm⟩, fun s j hs hj => ((uI_o (by omega))).trans (if_neg (fun h => absurd h.1 (by unfold VS; omega))).symm⟩)⟩
      ·
        refine ⟨fun (c8 : ((v1 : Int) = 16)) => ?_, fun (c8 : (¬ ((v1 : Int) = 16))) => ?_⟩
        ·
          refine ⟨fun c => absurd c (show (¬ ((v1 : Int) = 0)) from by first | omega | (simp only [wr, wl] at *; omega)), fun _ => ?_⟩
          refine ⟨fun (c9 : ((0 : Int) ≤ v2)) => ?_, fun (c9 : (¬ ((0 : Int) ≤ v2))) => ?_⟩
          ·
            refine ⟨fun c => absurd c (show (¬ ((v1 : Int) = 0)) from by first | omega | (simp only [wr, wl] at *; omega)), fun _ => ?_⟩
            refine ⟨fun (c10 : ((v2 : Int) ≤ 24)) => ?_, fun (c10 : (¬ ((v2 : Int) ≤ 24))) => ?_⟩
            ·
              refine ⟨_, rfl, (by decide), ?_⟩
              refine fun w0 hw0 => ?_; obtain rfl : w0 = some 250 := hw0.symm.trans (FS.g hF rfl)
              refine ⟨_, rfl, (by decide), (show (0 : Int) ≤ v0 from by first | with_reducible assumption | omega | (simp only [wr, wl] at *; omega)), (show v0 < (4 : Int) from by first | with_reducible assumption | omega | (simp only [wr, wl] at *; omega)), ?_⟩
              refine ⟨_, rfl, (by decide), ?_⟩
              refine fun w0 hw0 => ?_; obtain rfl : w0 = some 251 := hw0.symm.trans (FS.g hF rfl)
              refine ⟨fun _ => ?_, fun c => absurd c (show (¬ (v1 : Int) = 0) from by first | omega | (simp only [wr, wl] at *; omega))⟩
              refine ⟨_, rfl, (by decide), (show (0 : Int) ≤ v0 from by first | with_reducible assumption | omega | (simp only [wr, wl] at *; omega)), (show v0 < (4 : Int) from by first | with_reducible assumption | omega | (simp only [wr, wl] at *; omega)), ?_⟩
              have p11 : (0 : Int) ≤ v2 ∧ (v2 : Int) ≤ 24 := by omega
              refine r_sheet4_l hF (Rg.u (Rg.u hR (Pr_p (k := 250) rfl _ _)) (Pr_s p11)) (by omega) (fun r I' g1 g2 g3 g4 hv hA' => hQ _ _ g1 hA' (hv _ rfl) (fun ka ja hk => (g2 ka ja (by omega)).trans (((uI_o (show ¬ (ka = 251 ∧ ja = (Int.toNat v0)) from by first | (intro e; obtain ⟨rfl, _⟩ := e; exact hk (by decide)) | omega))).trans ((uI_o (show ¬ (ka = 250 ∧ ja = (Int.toNat v0)) from by first | (intro e; obtain ⟨rfl, _⟩ := e; exact hk (by decide)) | omega))))) ⟨g3.trans (show (1 : Int) = fx_sheet v0 v1 v2 from (by unfold fx_sheet; (repeat' split) <;> first | rfl | omega)), fun s hs => (by
                  by_cases e : (s : Int) = v0
                  · have e2 : s = Int.toNat v0 := by omega
                    rw [if_pos ⟨show VS v0 v1 v2 from by unfold VS; omega, e⟩, if_pos ⟨show VS v0 v1 v2 from by unfold VS; omega, e⟩, g2 250 s (by omega), g2 251 s (by omega), e2]
                    exact ⟨(uI_o (fun e => absurd e.1 (by decide))).trans uJ_eq, uJ_eq.trans (by split <;> omega)⟩
                  · rw [if_neg (fun h => e h.2), if_neg (fun h => e h.2), g2 250 s (by omega), g2 251 s (by omega)]
                    exact ⟨(uI_o (fun e => absurd e.1 (by decide))).trans (uJ_ne (by omega)), (uJ_ne (by omega)).trans (uI_o (fun e => absurd e.1 (by decide)))⟩), fun s j hs hj => (g4 (24 * s + j)).trans (if e : (s : Int) = v0 then (by rw [if_pos (by omega), if_pos ⟨show VS v0 v1 v2 from by unfold VS; omega, e⟩]) else (by rw [if_neg (by omega), if_neg (fun h => e h.2)]; exact ((uI_o (fun e => absurd e.1 (by decide))).trans (uI_o (fun e => absurd e.1 (by decide))))))⟩) _ 0 (uI (uI I 250 (Int.toNat v0) v1) 251 (Int.toNat v0) v2) (Rg.u (Rg.u hR (Pr_p (k := 250) rfl _ _)) (Pr_s p11)) (fun _ _ _ => rfl) (show (0 : Int) ≤ (0 : Int) from Int.le_refl _) (show ((0 : Int) : Int) ≤ 24 from by first | with_reducible assumption | omega | (simp only [wr, wl] at *; omega)) (fun j => (if_neg (by omega)).symm) (Nat.lt_succ_self _)
            ·
              refine ⟨⟨_, rfl, (by decide)⟩, ?_⟩
              refine s_X12_finding hF (v := (-1000001)) (by decide) ?_
              exact ⟨rfl, fun hv hA' => hQ _ _ (Rg.u hR (Pr_f rfl)) hA' (hv _ rfl) (fun ka ja hk => (uI_o (show ¬ (ka = 238 ∧ ja = 1) from by first | (intro e; obtain ⟨rfl, rfl⟩ := e; exact hk (by decide)) | omega))) (⟨(by unfold fx_sheet; (repeat' split) <;> first | rfl | omega), fun s hs => ⟨((uI_o (by omega))).trans (if_neg (fun h => absurd h.1 (by unfold VS; omega))).symm, ((uI_o (by omega))).trans (if_neg (fun h => absurd h.1 (by unfold VS; omega))).symm⟩, fun s j hs hj => ((uI_o (by omega))).trans (if_neg (fun h => absurd h.1 (by unfold VS; omega))).symm⟩)⟩
          ·
            refine ⟨⟨_, rfl, (by decide)⟩, ?_⟩
            refine s_X12_finding hF (v := (-1000003)) (by decide) ?_
            exact ⟨rfl, fun hv hA' => hQ _ _ (Rg.u hR (Pr_f rfl)) hA' (hv _ rfl) (fun ka ja hk => (uI_o (show ¬ (ka = 238 ∧ ja = 3) from by first | (intro e; obtain ⟨rfl, rfl⟩ := e; exact hk (by decide)) | omega))) (⟨(by unfold fx_sheet; (repeat' split) <;> first | rfl | omega), fun s hs => ⟨((uI_o (by omega))).trans (if_neg (fun h => absurd h.1 (by unfold VS; omega))).symm, ((uI_o (by omega))).trans (if_neg (fun h => absurd h.1 (by unfold VS; omega))).symm⟩, fun s j hs hj => ((uI_o (by omega))).trans (if_neg (fun h => absurd h.1 (by unfold VS; omega))).symm⟩)⟩
        ·
          refine ⟨fun (c12 : ((v1 : Int) = 32)) => ?_, fun (c12 : (¬ ((v1 : Int) = 32))) => ?_⟩
          ·
            refine ⟨fun c => absurd c (show (¬ ((v1 : Int) = 0)) from by first | omega | (simp only [wr, wl] at *; omega)), fun _ => ?_⟩
            refine ⟨fun (c13 : ((0 : Int) ≤ v2)) => ?_, fun (c13 : (¬ ((0 : Int) ≤ v2))) => ?_⟩
            ·
              refine ⟨fun c => absurd c (show (¬ ((v1 : Int) = 0)) from by first | omega | (simp only [wr, wl] at *; omega)), fun _ => ?_⟩
              refine ⟨fun (c14 : ((v2 : Int) ≤ 24)) => ?_, fun (c14 : (¬ ((v2 : Int) ≤ 24))) => ?_⟩
              ·
                refine ⟨_, rfl, (by decide), ?_⟩
                refine fun w0 hw0 => ?_; obtain rfl : w0 = some 250 := hw0.symm.trans (FS.g hF rfl)
                refine ⟨_, rfl, (by decide), (show (0 : Int) ≤ v0 from by first | with_reducible assumption | omega | (simp only [wr, wl] at *; omega)), (show v0 < (4 : Int) from by first | with_reducible assumption | omega | (simp only [wr, wl] at *; omega)), ?_⟩
                refine ⟨_, rfl, (by decide), ?_⟩
                refine fun w0 hw0 => ?_; obtain rfl : w0 = some 251 := hw0.symm.trans (FS.g hF rfl)
                refine ⟨fun _ => ?_, fun c => absurd c (show (¬ (v1 : Int) = 0) from by first | omega | (simp only [wr, wl] at *; omega))⟩
                refine ⟨_, rfl, (by decide), (show (0 : Int) ≤ v0 from by first | with_reducible assumption | omega | (simp only [wr, wl] at *; omega)), (show v0 < (4 : Int) from by first | with_reducible assumption | omega | (simp only [wr, wl] at *; omega)), ?_⟩
                have p15 : (0 : Int) ≤ v2 ∧ (v2 : Int) ≤ 24 := by omega
                refine r_sheet4_l hF (Rg.u (Rg.u hR (Pr_p (k := 250) rfl _ _)) (Pr_s p15)) (by omega) (fun r I' g1 g2 g3 g4 hv hA' => hQ _ _ g1 hA' (hv _ rfl) (fun ka ja hk => (g2 ka ja (by omega)).trans (((uI_o (show ¬ (ka = 251 ∧ ja = (Int.toNat v0)) from by first | (intro e; obtain ⟨rfl, _⟩ := e; exact hk (by decide)) | omega))).trans ((uI_o (show ¬ (ka = 250 ∧ ja = (Int.toNat v0)) from by first | (intro e; obtain ⟨rfl, _⟩ := e; exact hk (by decide)) | omega))))) ⟨g3.trans (show (1 : Int) = fx_sheet v0 v1 v2 from (by unfold fx_sheet; (repeat' split) <;> first | rfl | omega)), fun s hs => (by
                  by_cases e : (s : Int) = v0
                  · have e2 : s = Int.toNat v0 := by omega
                    rw [if_pos ⟨show VS v0 v1 v2 from by unfold VS; omega, e⟩, if_pos ⟨show VS v0 v1 v2 from by unfold VS; omega, e⟩, g2 250 s (by omega), g2 251 s (by omega), e2]
                    exact ⟨(uI_o (fun e => absurd e.1 (by decide))).trans uJ_eq, uJ_eq.trans (by split <;> omega)⟩
                  · rw [if_neg (fun h => e h.2), if_neg (fun h => e h.2), g2 250 s (by omega), g2 251 s (by omega)]
                    exact ⟨(uI_o (fun e => absurd e.1 (by decide))).trans (uJ_ne (by omega)), (uJ_ne (by omega)).trans (uI_o (fun e => absurd e.1 (by decide)))⟩), fun s j hs hj => (g4 (24 * s + j)).trans (if e : (s : Int) = v0 then (by rw [if_pos (by omega), if_pos ⟨show VS v0 v1 v2 from by unfold VS; omega, e⟩]) else (by rw [if_neg (by omega), if_neg (fun h => e h.2)]; exact ((uI_o (fun e => absurd e.1 (by decide))).trans (uI_o (fun e => absurd e.1 (by decide))))))⟩) _ 0 (uI (uI I 250 (Int.toNat v0) v1) 251 (Int.toNat v0) v2) (Rg.u (Rg.u hR (Pr_p (k := 250) rfl _ _)) (Pr_s p15)) (fun _ _ _ => rfl) (show (0 : Int) ≤ (0 : Int) from Int.le_refl _) (show ((0 : Int) : Int) ≤ 24 from by first | with_reducible assumption | omega | (simp only [wr, wl] at *; omega)) (fun j => (if_neg (by omega)).symm) (Nat.lt_succ_self _)
              ·
                refine ⟨⟨_, rfl, (by decide)⟩, ?_⟩
                refine s_X12_finding hF (v := (-1000001)) (by decide) ?_
                exact ⟨rfl, fun hv hA' => hQ _ _ (Rg.u hR (Pr_f rfl)) hA' (hv _ rfl) (fun ka ja hk => (uI_o (show ¬ (ka = 238 ∧ ja = 1) from by first | (intro e; obtain ⟨rfl, rfl⟩ := e; exact hk (by decide)) | omega))) (⟨(by unfold fx_sheet; (repeat' split) <;> first | rfl | omega), fun s hs => ⟨((uI_o (by omega))).trans (if_neg (fun h => absurd h.1 (by unfold VS; omega))).symm, ((uI_o (by omega))).trans (if_neg (fun h => absurd h.1 (by unfold VS; omega))).symm⟩, fun s j hs hj => ((uI_o (by omega))).trans (if_neg (fun h => absurd h.1 (by unfold VS; omega))).symm⟩)⟩
            ·
              refine ⟨⟨_, rfl, (by decide)⟩, ?_⟩
              refine s_X12_finding hF (v := (-1000003)) (by decide) ?_
              exact ⟨rfl, fun hv hA' => hQ _ _ (Rg.u hR (Pr_f rfl)) hA' (hv _ rfl) (fun ka ja hk => (uI_o (show ¬ (ka = 238 ∧ ja = 3) from by first | (intro e; obtain ⟨rfl, rfl⟩ := e; exact hk (by decide)) | omega))) (⟨(by unfold fx_sheet; (repeat' split) <;> first | rfl | omega), fun s hs => ⟨((uI_o (by omega))).trans (if_neg (fun h => absurd h.1 (by unfold VS; omega))).symm, ((uI_o (by omega))).trans (if_neg (fun h => absurd h.1 (by unfold VS; omega))).symm⟩, fun s j hs hj => ((uI_o (by omega))).trans (if_neg (fun h => absurd h.1 (by unfold VS; omega))).symm⟩)⟩
          ·
            refine ⟨⟨_, rfl, (by decide)⟩, ?_⟩
            refine s_X12_finding hF (v := (-1000001)) (by decide) ?_
            exact ⟨rfl, fun hv hA' => hQ _ _ (Rg.u hR (Pr_f rfl)) hA' (hv _ rfl) (fun ka ja hk => (uI_o (show ¬ (ka = 238 ∧ ja = 1) from by first | (intro e; obtain ⟨rfl, rfl⟩ := e; exact hk (by decide)) | omega))) (⟨(by unfold fx_sheet; (repeat' split) <;> first | rfl | omega), fun s hs => ⟨((uI_o (by omega))).trans (if_neg (fun h => absurd h.1 (by unfold VS; omega))).symm, ((uI_o (by omega))).trans (if_neg (fun h => absurd h.1 (by unfold VS; omega))).symm⟩, fun s j hs hj => ((uI_o (by omega))).trans (if_neg (fun h => absurd h.1 (by unfold VS; omega))).symm⟩)⟩
  ·
    refine ⟨fun _ => ?_, fun c => absurd (show ((0 : Int) = 0) from by decide) c⟩
    refine ⟨⟨_, rfl, (by decide)⟩, ?_⟩
    refine s_X12_finding hF (v := (-1000001)) (by decide) ?_
    exact ⟨rfl, fun hv hA' => hQ _ _ (Rg.u hR (Pr_f rfl)) hA' (hv _ rfl) (fun ka ja hk => (uI_o (show ¬ (ka = 238 ∧ ja = 1) from by first | (intro e; obtain ⟨rfl, rfl⟩ := e; exact hk (by decide)) | omega))) (⟨(by unfold fx_sheet; (repeat' split) <;> first | rfl | omega), fun s hs => ⟨((uI_o (by omega))).trans (if_neg (fun h => absurd h.1 (by unfold VS; omega))).symm, ((uI_o (by omega))).trans (if_neg (fun h => absurd h.1 (by unfold VS; omega))).symm⟩, fun s j hs hj => ((uI_o (by omega))).trans (if_neg (fun h => absurd h.1 (by unfold VS; omega))).symm⟩)⟩
theorem c_put4 (hF : FS F) (hR : Rg I) {v0 v1 v2 : Int}  (hQ : ∀ (r : Int) (I' : pI), Rg I' → AR I' → iR r → (∀ k j, ¬ (k = 203 ∨ k = 228 ∨ k = 230 ∨ k = 232 ∨ k = 234) → I' k j = I k j) → (r = fx_put v0 v1 (I (227 + 2 * Int.toNat v0) 0) (I (227 + 2 * Int.toNat v0) 1) ∧ ∀ s j : Nat, s < 4 → j < 24 → I' (228 + 2 * s) j = if fx_put v0 v1 (I (227 + 2 * Int.toNat v0) 0) (I (227 + 2 * Int.toNat v0) 1) = 1 ∧ (s : Int) = v0 ∧ (j : Int) = v1 then cst (I (227 + 2 * Int.toNat v0) 0) v2 else I (228 + 2 * s) j) → Q (some (vi r)) F I') : CallN G (d + 2) kX11_put [vr 0, vi v0, vi v1, vi v2] NP F I Q := by
  refine CallN_in (fun hok hA => CallN_out ?_)
  have iv0 : -2147483648 ≤ v0 ∧ v0 < 2147483648 := hok (vi v0) (by simp)
  have iv1 : -2147483648 ≤ v1 ∧ v1 < 2147483648 := hok (vi v1) (by simp)
  have iv2 : -2147483648 ≤ v2 ∧ v2 < 2147483648 := hok (vi v2) (by simp)
  refine Call_wp (lv := [some (vr 0), some (vi v0), some (vi v1), some (vi v2), none]) (by decide) ckX11_put [] rfl rfl ?_
  refine ⟨⟨_, rfl, (by decide)⟩, ?_⟩
  refine s_X11_sheetAt hF (fun (w1 : (0 ≤ v0 ∧ v0 ≤ 3)) => ?_) (fun (w1 : ¬ (0 ≤ v0 ∧ v0 ≤ 3)) => ?_)
  ·
    have hp2 : HP F (227 + 2 * Int.toNat v0) := HP_of hF w1
    refine ⟨⟨_, hp2.1, (by have := hp2.2.2.1; show _ < 254; omega)⟩, ?_⟩
    refine Call_wp (lv := [some (vr (227 + 2 * Int.toNat v0))]) (by decide) ckX7_isMissing [] rfl rfl ?_
    refine ⟨_, hp2.1, (by have := hp2.2.2.1; show _ < 254; omega), ?_⟩
    have a3 : -2147483648 ≤ (I (227 + 2 * Int.toNat v0) 0) ∧ (I (227 + 2 * Int.toNat v0) 0) < 2147483648 := hA.1 _ _
    refine ⟨fun (c4 : (¬ ((I (227 + 2 * Int.toNat v0) 0) : Int) = 0)) => ?_, fun (c4 : (((I (227 + 2 * Int.toNat v0) 0) : Int) = 0)) => ?_⟩
    ·
      refine ⟨rfl, (by decide), ?_⟩
      refine ⟨fun _ => ?_, fun c => absurd (show ((0 : Int) = 0) from by decide) c⟩
      refine ⟨⟨_, hp2.1, (by have := hp2.2.2.1; show _ < 254; omega)⟩, ?_⟩
      refine Call_wp (lv := [some (vr (227 + 2 * Int.toNat v0)), some (vi v1), some (vi 1)]) (by decide) ckX7_spans [] rfl rfl ?_
      refine ⟨fun (c5 : ((v1 : Int) < 0)) => ?_, fun (c5 : (¬ ((v1 : Int) < 0))) => ?_⟩
      ·
        refine ⟨rfl, (by decide), ?_⟩
        refine ⟨fun c => absurd (show ((0 : Int) = 0) from by decide) c, fun _ => ?_⟩
        refine ⟨⟨_, rfl, (by decide)⟩, ?_⟩
        refine s_X11_refuse hF (e := 1) (by decide) ?_
        exact ⟨rfl, fun hv hA' => hQ _ _ (Rg.u hR (Pr_f rfl)) hA' (hv _ rfl) (fun ka ja hk => (uI_o (show ¬ (ka = 203 ∧ ja = 1) from by first | (intro e; obtain ⟨rfl, rfl⟩ := e; exact hk (by decide)) | omega))) (⟨(by unfold fx_put; (repeat' split) <;> first | rfl | omega), fun s j hs hj => (uI_o (by omega)).trans (if_neg (fun h => absurd h.1 (by unfold fx_put; (repeat' split) <;> omega))).symm⟩)⟩
      ·
        refine ⟨fun c => absurd c (show (¬ ((1 : Int) < 0)) from by decide), fun _ => ?_⟩
        refine ⟨_, hp2.1, (by have := hp2.2.2.1; show _ < 254; omega), ?_⟩
        have r6 : 0 ≤ (I (227 + 2 * Int.toNat v0) 1) ∧ (I (227 + 2 * Int.toNat v0) 1) ≤ 24 := hR.h hp2.1 (by have := hp2.2.2.1; omega)
        refine ⟨fun (c8 : (((I (227 + 2 * Int.toNat v0) 1) : Int) < 1)) => ?_, fun (c8 : (¬ (((I (227 + 2 * Int.toNat v0) 1) : Int) < 1))) => ?_⟩
        ·
          refine ⟨rfl, (by decide), ?_⟩
          refine ⟨fun c => absurd (show ((0 : Int) = 0) from by decide) c, fun _ => ?_⟩
          refine ⟨⟨_, rfl, (by decide)⟩, ?_⟩
          refine s_X11_refuse hF (e := 1) (by decide) ?_
          exact ⟨rfl, fun hv hA' => hQ _ _ (Rg.u hR (Pr_f rfl)) hA' (hv _ rfl) (fun ka ja hk => (uI_o (show ¬ (ka = 203 ∧ ja = 1) from by first | (intro e; obtain ⟨rfl, rfl⟩ := e; exact hk (by decide)) | omega))) (⟨(by unfold fx_put; (repeat' split) <;> first | rfl | omega), fun s j hs hj => (uI_o (by omega)).trans (if_neg (fun h => absurd h.1 (by unfold fx_put; (repeat' split) <;> omega))).symm⟩)⟩
        ·
          refine ⟨_, hp2.1, (by have := hp2.2.2.1; show _ < 254; omega), ?_⟩
          have n9 : (wr ((I (227 + 2 * Int.toNat v0) 1) - 1)) = (I (227 + 2 * Int.toNat v0) 1) - 1 := wr_id (show -2147483648 ≤ ((I (227 + 2 * Int.toNat v0) 1) - 1 : Int) ∧ ((I (227 + 2 * Int.toNat v0) 1) - 1 : Int) < 2147483648 from by omega)
          refine ⟨fun (c10 : (((wr ((I (227 + 2 * Int.toNat v0) 1) - 1)) : Int) < v1)) => ?_, fun (c10 : (¬ (((wr ((I (227 + 2 * Int.toNat v0) 1) - 1)) : Int) < v1))) => ?_⟩
          ·
            refine ⟨rfl, (by decide), ?_⟩
            refine ⟨fun c => absurd (show ((0 : Int) = 0) from by decide) c, fun _ => ?_⟩
            refine ⟨⟨_, rfl, (by decide)⟩, ?_⟩
            refine s_X11_refuse hF (e := 1) (by decide) ?_
            exact ⟨rfl, fun hv hA' => hQ _ _ (Rg.u hR (Pr_f rfl)) hA' (hv _ rfl) (fun ka ja hk => (uI_o (show ¬ (ka = 203 ∧ ja = 1) from by first | (intro e; obtain ⟨rfl, rfl⟩ := e; exact hk (by decide)) | omega))) (⟨(by unfold fx_put; (repeat' split) <;> first | rfl | omega), fun s j hs hj => (uI_o (by omega)).trans (if_neg (fun h => absurd h.1 (by unfold fx_put; (repeat' split) <;> omega))).symm⟩)⟩
          ·
            refine ⟨rfl, (by decide), ?_⟩
            refine ⟨fun _ => ?_, fun c => absurd c (show (¬ (1 : Int) = 0) from by decide)⟩
            refine ⟨⟨_, hp2.1, (by have := hp2.2.2.1; show _ < 254; omega)⟩, ?_⟩
            refine Call_wp (lv := [some (vr (227 + 2 * Int.toNat v0)), some (vi v1), some (vi v2)]) (by decide) ckX7_set [] rfl rfl ?_
            refine ⟨fun c => absurd c (show (¬ ((v1 : Int) < 0)) from by first | omega | (simp only [wr, wl] at *; omega)), fun _ => ?_⟩
            refine ⟨_, hp2.1, (by have := hp2.2.2.1; show _ < 254; omega), ?_⟩
            refine ⟨fun (c11 : (((I (227 + 2 * Int.toNat v0) 1) : Int) ≤ v1)) => ?_, fun (c11 : (¬ (((I (227 + 2 * Int.toNat v0) 1) : Int) ≤ v1))) => ?_⟩
            ·
              refine ⟨rfl, ?_⟩
              exact ⟨rfl, fun hv hA' => hQ _ _ hR hA' (hv _ rfl) (fun _ _ _ => rfl) (by exfalso; omega)⟩
            ·
              refine ⟨fun c => absurd c (show (¬ ((24 : Int) ≤ v1)) from by first | omega | (simp only [wr, wl] at *; omega)), fun _ => ?_⟩
              refine ⟨_, hp2.1, (by have := hp2.2.2.1; show _ < 254; omega), ?_⟩
              refine fun w0 hw0 => ?_; obtain rfl : w0 = some ((227 + 2 * Int.toNat v0) + 1) := hw0.symm.trans hp2.2.2.2
              refine ⟨_, hp2.1, (by have := hp2.2.2.1; show _ < 254; omega), ?_⟩
              refine ⟨fun (c12 : (¬ ((I (227 + 2 * Int.toNat v0) 0) : Int) = 8)) => ?_, fun (c12 : (((I (227 + 2 * Int.toNat v0) 0) : Int) = 8)) => ?_⟩
              ·
                refine ⟨_, hp2.1, (by have := hp2.2.2.1; show _ < 254; omega), ?_⟩
                refine ⟨fun (c13 : (¬ ((I (227 + 2 * Int.toNat v0) 0) : Int) = 16)) => ?_, fun (c13 : (((I (227 + 2 * Int.toNat v0) 0) : Int) = 16)) => ?_⟩
                ·
                  refine ⟨_, hp2.2.1, (by have := hp2.2.2.1; show _ < 254; omega), (show (0 : Int) ≤ v1 from by first | with_reducible assumption | omega | (simp only [wr, wl] at *; omega)), (show v1 < (24 : Int) from by first | with_reducible assumption | omega | (simp only [wr, wl] at *; omega)), ?_⟩
                  refine ⟨rfl, ?_⟩
                  exact ⟨rfl, fun hv hA' => hQ _ _ (Rg.u hR (Pr_l hp2.2.1 (by have := hp2.2.2.1; omega) _ _ ⟨Or.inl (by decide), Or.inl (by decide), Or.inl (by decide)⟩)) hA' (hv _ rfl) (fun ka ja hk => (uI_o (show ¬ (ka = ((227 + 2 * Int.toNat v0) + 1) ∧ ja = (Int.toNat v1)) from by have := hp2.2.2.1; omega))) (⟨(by unfold fx_put; (repeat' split) <;> first | rfl | omega), fun s j hs hj => if e : (s : Int) = v0 ∧ (j : Int) = v1 then (by rw [if_pos ⟨show fx_put v0 v1 (I (227 + 2 * Int.toNat v0) 0) (I (227 + 2 * Int.toNat v0) 1) = 1 from (by unfold fx_put; (repeat' split) <;> first | rfl | omega), e.1, e.2⟩, show 228 + 2 * s = 227 + 2 * Int.toNat v0 + 1 from by omega, show j = Int.toNat v1 from by omega]; exact uJ_eq.trans (by unfold cst; (repeat' split) <;> first | rfl | omega)) else (by rw [if_neg (fun h => e ⟨h.2.1, h.2.2⟩)]; exact uI_o (by omega))⟩)⟩
                ·
                  refine ⟨_, hp2.2.1, (by have := hp2.2.2.1; show _ < 254; omega), (show (0 : Int) ≤ v1 from by first | with_reducible assumption | omega | (simp only [wr, wl] at *; omega)), (show v1 < (24 : Int) from by first | with_reducible assumption | omega | (simp only [wr, wl] at *; omega)), ?_⟩
                  refine ⟨rfl, ?_⟩
                  exact ⟨rfl, fun hv hA' => hQ _ _ (Rg.u hR (Pr_l hp2.2.1 (by have := hp2.2.2.1; omega) _ _ ⟨Or.inl (by decide), Or.inl (by decide), Or.inl (by decide)⟩)) hA' (hv _ rfl) (fun ka ja hk => (uI_o (show ¬ (ka = ((227 + 2 * Int.toNat v0) + 1) ∧ ja = (Int.toNat v1)) from by have := hp2.2.2.1; omega))) (⟨(by unfold fx_put; (repeat' split) <;> first | rfl | omega), fun s j hs hj => if e : (s : Int) = v0 ∧ (j : Int) = v1 then (by rw [if_pos ⟨show fx_put v0 v1 (I (227 + 2 * Int.toNat v0) 0) (I (227 + 2 * Int.toNat v0) 1) = 1 from (by unfold fx_put; (repeat' split) <;> first | rfl | omega), e.1, e.2⟩, show 228 + 2 * s = 227 + 2 * Int.toNat v0 + 1 from by omega, show j = Int.toNat v1 from by omega]; exact uJ_eq.trans (by unfold cst; (repeat' split) <;> first | rfl | omega)) else (by rw [if_neg (fun h => e ⟨h.2.1, h.2.2⟩)]; exact uI_o (by omega))⟩)⟩
              ·
                refine ⟨_, hp2.2.1, (by have := hp2.2.2.1; show _ < 254; omega), (show (0 : Int) ≤ v1 from by first | with_reducible assumption | omega | (simp only [wr, wl] at *; omega)), (show v1 < (24 : Int) from by first | with_reducible assumption | omega | (simp only [wr, wl] at *; omega)), ?_⟩
                refine ⟨rfl, ?_⟩
                exact ⟨rfl, fun hv hA' => hQ _ _ (Rg.u hR (Pr_l hp2.2.1 (by have := hp2.2.2.1; omega) _ _ ⟨Or.inl (by decide), Or.inl (by decide), Or.inl (by decide)⟩)) hA' (hv _ rfl) (fun ka ja hk => (uI_o (show ¬ (ka = ((227 + 2 * Int.toNat v0) + 1) ∧ ja = (Int.toNat v1)) from by have := hp2.2.2.1; omega))) (⟨(by unfold fx_put; (repeat' split) <;> first | rfl | omega), fun s j hs hj => if e : (s : Int) = v0 ∧ (j : Int) = v1 then (by rw [if_pos ⟨show fx_put v0 v1 (I (227 + 2 * Int.toNat v0) 0) (I (227 + 2 * Int.toNat v0) 1) = 1 from (by unfold fx_put; (repeat' split) <;> first | rfl | omega), e.1, e.2⟩, show 228 + 2 * s = 227 + 2 * Int.toNat v0 + 1 from by omega, show j = Int.toNat v1 from by omega]; exact uJ_eq.trans (by unfold cst; (repeat' split) <;> first | rfl | omega)) else (by rw [if_neg (fun h => e ⟨h.2.1, h.2.2⟩)]; exact uI_o (by omega))⟩)⟩
    ·
      refine ⟨rfl, (by decide), ?_⟩
      refine ⟨fun c => absurd c (show (¬ ((1 : Int) = 0)) from by decide), fun _ => ?_⟩
      refine ⟨⟨_, rfl, (by decide)⟩, ?_⟩
      refine s_X11_refuse hF (e := 2) (by decide) ?_
      exact ⟨rfl, fun hv hA' => hQ _ _ (Rg.u hR (Pr_f rfl)) hA' (hv _ rfl) (fun ka ja hk => (uI_o (show ¬ (ka = 203 ∧ ja = 2) from by first | (intro e; obtain ⟨rfl, rfl⟩ := e; exact hk (by decide)) | omega))) (⟨(by unfold fx_put; (repeat' split) <;> first | rfl | omega), fun s j hs hj => (uI_o (by omega)).trans (if_neg (fun h => absurd h.1 (by unfold fx_put; (repeat' split) <;> omega))).symm⟩)⟩
  ·
    refine ⟨⟨_, rfl, (by decide)⟩, ?_⟩
    refine s_X11_refuse hF (e := 1) (by decide) ?_
    exact ⟨rfl, fun hv hA' => hQ _ _ (Rg.u hR (Pr_f rfl)) hA' (hv _ rfl) (fun ka ja hk => (uI_o (show ¬ (ka = 203 ∧ ja = 1) from by first | (intro e; obtain ⟨rfl, rfl⟩ := e; exact hk (by decide)) | omega))) (⟨(by unfold fx_put; (repeat' split) <;> first | rfl | omega), fun s j hs hj => (uI_o (by omega)).trans (if_neg (fun h => absurd h.1 (by unfold fx_put; (repeat' split) <;> omega))).symm⟩)⟩
theorem r_put4 (hF : FS F) (hR : Rg I) {v0 v1 v2 : Int}  (hQ : ∀ (r : Int) (I' : pI), Rg I' → AR I' → iR r → (∀ k j, ¬ (k = 238 ∨ k = 252) → I' k j = I k j) → (r = fx_put v0 v1 (I 250 (Int.toNat v0)) (I 251 (Int.toNat v0)) ∧ ∀ s j : Nat, s < 4 → j < 24 → I' 252 (24 * s + j) = if fx_put v0 v1 (I 250 (Int.toNat v0)) (I 251 (Int.toNat v0)) = 1 ∧ (s : Int) = v0 ∧ (j : Int) = v1 then cst (I 250 (Int.toNat v0)) v2 else I 252 (24 * s + j)) → Q (some (vi r)) F I') : CallN G (d + 2) kX12_put [vr 235, vi v0, vi v1, vi v2] NP F I Q := by
  refine CallN_in (fun hok hA => CallN_out ?_)
  have iv0 : -2147483648 ≤ v0 ∧ v0 < 2147483648 := hok (vi v0) (by simp)
  have iv1 : -2147483648 ≤ v1 ∧ v1 < 2147483648 := hok (vi v1) (by simp)
  have iv2 : -2147483648 ≤ v2 ∧ v2 < 2147483648 := hok (vi v2) (by simp)
  refine Call_wp (lv := [some (vr 235), some (vi v0), some (vi v1), some (vi v2)]) (by decide) ckX12_put [] rfl rfl ?_
  refine s_X12_isSheet (fun (w1 : ((0 : Int) ≤ v0 ∧ (v0 : Int) ≤ 3)) => ?_) (fun (w1 : ¬ ((0 : Int) ≤ v0 ∧ (v0 : Int) ≤ 3)) => ?_)
  ·
    refine ⟨fun _ => ?_, fun c => absurd c (show (¬ (1 : Int) = 0) from by decide)⟩
    refine ⟨_, rfl, (by decide), ?_⟩
    refine fun w0 hw0 => ?_; obtain rfl : w0 = some 250 := hw0.symm.trans (FS.g hF rfl)
    refine ⟨_, rfl, (by decide), (show (0 : Int) ≤ v0 from by first | with_reducible assumption | omega | (simp only [wr, wl] at *; omega)), (show v0 < (4 : Int) from by first | with_reducible assumption | omega | (simp only [wr, wl] at *; omega)), ?_⟩
    have a2 : -2147483648 ≤ (I 250 (Int.toNat v0)) ∧ (I 250 (Int.toNat v0)) < 2147483648 := hA.1 _ _
    refine ⟨fun (c3 : (¬ ((I 250 (Int.toNat v0)) : Int) = 0)) => ?_, fun (c3 : (((I 250 (Int.toNat v0)) : Int) = 0)) => ?_⟩
    ·
      refine ⟨_, rfl, (by decide), ?_⟩
      refine fun w0 hw0 => ?_; obtain rfl : w0 = some 251 := hw0.symm.trans (FS.g hF rfl)
      refine ⟨_, rfl, (by decide), (show (0 : Int) ≤ v0 from by first | with_reducible assumption | omega | (simp only [wr, wl] at *; omega)), (show v0 < (4 : Int) from by first | with_reducible assumption | omega | (simp only [wr, wl] at *; omega)), ?_⟩
      have r4 : 0 ≤ (I 251 (Int.toNat v0)) ∧ (I 251 (Int.toNat v0)) ≤ 24 := hR.s _ (by omega)
      have n6 : (wr ((I 251 (Int.toNat v0)) - 1)) = (I 251 (Int.toNat v0)) - 1 := wr_id (show -2147483648 ≤ ((I 251 (Int.toNat v0)) - 1 : Int) ∧ ((I 251 (Int.toNat v0)) - 1 : Int) < 2147483648 from by omega)
      refine s_X12_within (fun (w7 : ((0 : Int) ≤ v1 ∧ (v1 : Int) ≤ (wr ((I 251 (Int.toNat v0)) - 1)))) => ?_) (fun (w7 : ¬ ((0 : Int) ≤ v1 ∧ (v1 : Int) ≤ (wr ((I 251 (Int.toNat v0)) - 1)))) => ?_)
      ·
        refine ⟨fun _ => ?_, fun c => absurd c (show (¬ (1 : Int) = 0) from by decide)⟩
        refine ⟨_, rfl, (by decide), ?_⟩
        refine fun w0 hw0 => ?_; obtain rfl : w0 = some 252 := hw0.symm.trans (FS.g hF rfl)
        refine ⟨_, rfl, (by decide), ?_⟩
        refine fun w0 hw0 => ?_; obtain rfl : w0 = some 250 := hw0.symm.trans (FS.g hF rfl)
        refine ⟨_, rfl, (by decide), (show (0 : Int) ≤ v0 from by first | with_reducible assumption | omega | (simp only [wr, wl] at *; omega)), (show v0 < (4 : Int) from by first | with_reducible assumption | omega | (simp only [wr, wl] at *; omega)), ?_⟩
        refine ⟨fun (c8 : (¬ ((I 250 (Int.toNat v0)) : Int) = 8)) => ?_, fun (c8 : (((I 250 (Int.toNat v0)) : Int) = 8)) => ?_⟩
        ·
          refine ⟨_, rfl, (by decide), ?_⟩
          refine fun w0 hw0 => ?_; obtain rfl : w0 = some 250 := hw0.symm.trans (FS.g hF rfl)
          refine ⟨_, rfl, (by decide), (show (0 : Int) ≤ v0 from by first | with_reducible assumption | omega | (simp only [wr, wl] at *; omega)), (show v0 < (4 : Int) from by first | with_reducible assumption | omega | (simp only [wr, wl] at *; omega)), ?_⟩
          refine ⟨fun (c9 : (¬ ((I 250 (Int.toNat v0)) : Int) = 16)) => ?_, fun (c9 : (((I 250 (Int.toNat v0)) : Int) = 16)) => ?_⟩
          ·
            have n10 : (wr (24 * v0)) = 24 * v0 := wr_id (show -2147483648 ≤ (24 * v0 : Int) ∧ (24 * v0 : Int) < 2147483648 from by omega)
            have n11 : (wr ((wr (24 * v0)) + v1)) = (wr (24 * v0)) + v1 := wr_id (show -2147483648 ≤ ((wr (24 * v0)) + v1 : Int) ∧ ((wr (24 * v0)) + v1 : Int) < 2147483648 from by omega)
            refine ⟨_, rfl, (by decide), (show (0 : Int) ≤ (wr ((wr (24 * v0)) + v1)) from by first | with_reducible assumption | omega | (simp only [wr, wl] at *; omega)), (show (wr ((wr (24 * v0)) + v1)) < (96 : Int) from by first | with_reducible assumption | omega | (simp only [wr, wl] at *; omega)), ?_⟩
            exact ⟨rfl, fun hv hA' => hQ _ _ (Rg.u hR (Pr_p (k := 252) rfl _ _)) hA' (hv _ rfl) (fun ka ja hk => (uI_o (show ¬ (ka = 252 ∧ ja = (Int.toNat (wr ((wr (24 * v0)) + v1)))) from by omega))) (⟨(by unfold fx_put; (repeat' split) <;> first | rfl | omega), fun s j hs hj => if e : (s : Int) = v0 ∧ (j : Int) = v1 then (by rw [if_pos ⟨show fx_put v0 v1 (I 250 (Int.toNat v0)) (I 251 (Int.toNat v0)) = 1 from (by unfold fx_put; (repeat' split) <;> first | rfl | omega), e.1, e.2⟩, show 24 * s + j = (Int.toNat (wr ((wr (24 * v0)) + v1))) from by omega]; exact uJ_eq.trans (by unfold cst; (repeat' split) <;> first | rfl | omega)) else (by rw [if_neg (fun h => e ⟨h.2.1, h.2.2⟩)]; exact uJ_ne (show ¬ 24 * s + j = (Int.toNat (wr ((wr (24 * v0)) + v1))) from by omega))⟩)⟩
          ·
            have n12 : (wr (24 * v0)) = 24 * v0 := wr_id (show -2147483648 ≤ (24 * v0 : Int) ∧ (24 * v0 : Int) < 2147483648 from by omega)
            have n13 : (wr ((wr (24 * v0)) + v1)) = (wr (24 * v0)) + v1 := wr_id (show -2147483648 ≤ ((wr (24 * v0)) + v1 : Int) ∧ ((wr (24 * v0)) + v1 : Int) < 2147483648 from by omega)
            refine ⟨_, rfl, (by decide), (show (0 : Int) ≤ (wr ((wr (24 * v0)) + v1)) from by first | with_reducible assumption | omega | (simp only [wr, wl] at *; omega)), (show (wr ((wr (24 * v0)) + v1)) < (96 : Int) from by first | with_reducible assumption | omega | (simp only [wr, wl] at *; omega)), ?_⟩
            exact ⟨rfl, fun hv hA' => hQ _ _ (Rg.u hR (Pr_p (k := 252) rfl _ _)) hA' (hv _ rfl) (fun ka ja hk => (uI_o (show ¬ (ka = 252 ∧ ja = (Int.toNat (wr ((wr (24 * v0)) + v1)))) from by omega))) (⟨(by unfold fx_put; (repeat' split) <;> first | rfl | omega), fun s j hs hj => if e : (s : Int) = v0 ∧ (j : Int) = v1 then (by rw [if_pos ⟨show fx_put v0 v1 (I 250 (Int.toNat v0)) (I 251 (Int.toNat v0)) = 1 from (by unfold fx_put; (repeat' split) <;> first | rfl | omega), e.1, e.2⟩, show 24 * s + j = (Int.toNat (wr ((wr (24 * v0)) + v1))) from by omega]; exact uJ_eq.trans (by unfold cst; (repeat' split) <;> first | rfl | omega)) else (by rw [if_neg (fun h => e ⟨h.2.1, h.2.2⟩)]; exact uJ_ne (show ¬ 24 * s + j = (Int.toNat (wr ((wr (24 * v0)) + v1))) from by omega))⟩)⟩
        ·
          have n14 : (wr (24 * v0)) = 24 * v0 := wr_id (show -2147483648 ≤ (24 * v0 : Int) ∧ (24 * v0 : Int) < 2147483648 from by omega)
          have n15 : (wr ((wr (24 * v0)) + v1)) = (wr (24 * v0)) + v1 := wr_id (show -2147483648 ≤ ((wr (24 * v0)) + v1 : Int) ∧ ((wr (24 * v0)) + v1 : Int) < 2147483648 from by omega)
          refine ⟨_, rfl, (by decide), (show (0 : Int) ≤ (wr ((wr (24 * v0)) + v1)) from by first | with_reducible assumption | omega | (simp only [wr, wl] at *; omega)), (show (wr ((wr (24 * v0)) + v1)) < (96 : Int) from by first | with_reducible assumption | omega | (simp only [wr, wl] at *; omega)), ?_⟩
          exact ⟨rfl, fun hv hA' => hQ _ _ (Rg.u hR (Pr_p (k := 252) rfl _ _)) hA' (hv _ rfl) (fun ka ja hk => (uI_o (show ¬ (ka = 252 ∧ ja = (Int.toNat (wr ((wr (24 * v0)) + v1)))) from by omega))) (⟨(by unfold fx_put; (repeat' split) <;> first | rfl | omega), fun s j hs hj => if e : (s : Int) = v0 ∧ (j : Int) = v1 then (by rw [if_pos ⟨show fx_put v0 v1 (I 250 (Int.toNat v0)) (I 251 (Int.toNat v0)) = 1 from (by unfold fx_put; (repeat' split) <;> first | rfl | omega), e.1, e.2⟩, show 24 * s + j = (Int.toNat (wr ((wr (24 * v0)) + v1))) from by omega]; exact uJ_eq.trans (by unfold cst; (repeat' split) <;> first | rfl | omega)) else (by rw [if_neg (fun h => e ⟨h.2.1, h.2.2⟩)]; exact uJ_ne (show ¬ 24 * s + j = (Int.toNat (wr ((wr (24 * v0)) + v1))) from by omega))⟩)⟩
      ·
        refine ⟨fun c => absurd (show ((0 : Int) = 0) from by decide) c, fun _ => ?_⟩
        refine ⟨⟨_, rfl, (by decide)⟩, ?_⟩
        refine s_X12_finding hF (v := (-1000001)) (by decide) ?_
        exact ⟨rfl, fun hv hA' => hQ _ _ (Rg.u hR (Pr_f rfl)) hA' (hv _ rfl) (fun ka ja hk => (uI_o (show ¬ (ka = 238 ∧ ja = 1) from by first | (intro e; obtain ⟨rfl, rfl⟩ := e; exact hk (by decide)) | omega))) (⟨(by unfold fx_put; (repeat' split) <;> first | rfl | omega), fun s j hs hj => (uI_o (by omega)).trans (if_neg (fun h => absurd h.1 (by unfold fx_put; (repeat' split) <;> omega))).symm⟩)⟩
    ·
      refine ⟨⟨_, rfl, (by decide)⟩, ?_⟩
      refine s_X12_finding hF (v := (-1000002)) (by decide) ?_
      exact ⟨rfl, fun hv hA' => hQ _ _ (Rg.u hR (Pr_f rfl)) hA' (hv _ rfl) (fun ka ja hk => (uI_o (show ¬ (ka = 238 ∧ ja = 2) from by first | (intro e; obtain ⟨rfl, rfl⟩ := e; exact hk (by decide)) | omega))) (⟨(by unfold fx_put; (repeat' split) <;> first | rfl | omega), fun s j hs hj => (uI_o (by omega)).trans (if_neg (fun h => absurd h.1 (by unfold fx_put; (repeat' split) <;> omega))).symm⟩)⟩
  ·
    refine ⟨fun c => absurd (show ((0 : Int) = 0) from by decide) c, fun _ => ?_⟩
    refine ⟨⟨_, rfl, (by decide)⟩, ?_⟩
    refine s_X12_finding hF (v := (-1000001)) (by decide) ?_
    exact ⟨rfl, fun hv hA' => hQ _ _ (Rg.u hR (Pr_f rfl)) hA' (hv _ rfl) (fun ka ja hk => (uI_o (show ¬ (ka = 238 ∧ ja = 1) from by first | (intro e; obtain ⟨rfl, rfl⟩ := e; exact hk (by decide)) | omega))) (⟨(by unfold fx_put; (repeat' split) <;> first | rfl | omega), fun s j hs hj => (uI_o (by omega)).trans (if_neg (fun h => absurd h.1 (by unfold fx_put; (repeat' split) <;> omega))).symm⟩)⟩
theorem c_move4 (hF : FS F) (hR : Rg I) {v0 v1 v2 v3 v4 : Int}  (hQ : ∀ (r : Int) (I' : pI), Rg I' → AR I' → iR r → (∀ k j, ¬ (k = 203 ∨ k = 228 ∨ k = 230 ∨ k = 232 ∨ k = 234) → I' k j = I k j) → (r = fx_move v0 v1 v2 v3 v4 (I (227 + 2 * Int.toNat v0) 0) (I (227 + 2 * Int.toNat v0) 1) (I (227 + 2 * Int.toNat v2) 0) (I (227 + 2 * Int.toNat v2) 1) ∧ ∀ s j : Nat, s < 4 → j < 24 → I' (228 + 2 * s) j = if 0 ≤ fx_move v0 v1 v2 v3 v4 (I (227 + 2 * Int.toNat v0) 0) (I (227 + 2 * Int.toNat v0) 1) (I (227 + 2 * Int.toNat v2) 0) (I (227 + 2 * Int.toNat v2) 1) ∧ (s : Int) = v2 ∧ v3 ≤ (j : Int) ∧ (j : Int) < v3 + v4 then I (228 + 2 * Int.toNat v0) (Int.toNat v1 + (j - Int.toNat v3)) else I (228 + 2 * s) j) → Q (some (vi r)) F I') : CallN G (d + 2) kX11_move [vr 0, vi v0, vi v1, vi v2, vi v3, vi v4] NP F I Q := by
  refine CallN_in (fun hok hA => CallN_out ?_)
  have iv0 : -2147483648 ≤ v0 ∧ v0 < 2147483648 := hok (vi v0) (by simp)
  have iv1 : -2147483648 ≤ v1 ∧ v1 < 2147483648 := hok (vi v1) (by simp)
  have iv2 : -2147483648 ≤ v2 ∧ v2 < 2147483648 := hok (vi v2) (by simp)
  have iv3 : -2147483648 ≤ v3 ∧ v3 < 2147483648 := hok (vi v3) (by simp)
  have iv4 : -2147483648 ≤ v4 ∧ v4 < 2147483648 := hok (vi v4) (by simp)
  refine Call_wp (lv := [some (vr 0), some (vi v0), some (vi v1), some (vi v2), some (vi v3), some (vi v4), none, none]) (by decide) ckX11_move [] rfl rfl ?_
  refine ⟨⟨_, rfl, (by decide)⟩, ?_⟩
  refine s_X11_sheetAt hF (fun (w1 : (0 ≤ v0 ∧ v0 ≤ 3)) => ?_) (fun (w1 : ¬ (0 ≤ v0 ∧ v0 ≤ 3)) => ?_)
  ·
    have hp2 : HP F (227 + 2 * Int.toNat v0) := HP_of hF w1
    refine ⟨⟨_, rfl, (by decide)⟩, ?_⟩
    refine s_X11_sheetAt hF (fun (w3 : (0 ≤ v2 ∧ v2 ≤ 3)) => ?_) (fun (w3 : ¬ (0 ≤ v2 ∧ v2 ≤ 3)) => ?_)
    ·
      have hp4 : HP F (227 + 2 * Int.toNat v2) := HP_of hF w3
      refine ⟨⟨_, hp2.1, (by have := hp2.2.2.1; show _ < 254; omega)⟩, ?_⟩
      refine Call_wp (lv := [some (vr (227 + 2 * Int.toNat v0))]) (by decide) ckX7_isMissing [] rfl rfl ?_
      refine ⟨_, hp2.1, (by have := hp2.2.2.1; show _ < 254; omega), ?_⟩
      have a5 : -2147483648 ≤ (I (227 + 2 * Int.toNat v0) 0) ∧ (I (227 + 2 * Int.toNat v0) 0) < 2147483648 := hA.1 _ _
      refine ⟨fun (c6 : (¬ ((I (227 + 2 * Int.toNat v0) 0) : Int) = 0)) => ?_, fun (c6 : (((I (227 + 2 * Int.toNat v0) 0) : Int) = 0)) => ?_⟩
      ·
        refine ⟨rfl, (by decide), ?_⟩
        refine ⟨fun c => absurd (show ((0 : Int) = 0) from by decide) c, fun _ => ?_⟩
        refine ⟨⟨_, hp4.1, (by have := hp4.2.2.1; show _ < 254; omega)⟩, ?_⟩
        refine Call_wp (lv := [some (vr (227 + 2 * Int.toNat v2))]) (by decide) ckX7_isMissing [] rfl rfl ?_
        refine ⟨_, hp4.1, (by have := hp4.2.2.1; show _ < 254; omega), ?_⟩
        have a7 : -2147483648 ≤ (I (227 + 2 * Int.toNat v2) 0) ∧ (I (227 + 2 * Int.toNat v2) 0) < 2147483648 := hA.1 _ _
        refine ⟨fun (c8 : (¬ ((I (227 + 2 * Int.toNat v2) 0) : Int) = 0)) => ?_, fun (c8 : (((I (227 + 2 * Int.toNat v2) 0) : Int) = 0)) => ?_⟩
        ·
          refine ⟨rfl, (by decide), ?_⟩
          refine ⟨fun _ => ?_, fun c => absurd (show ((0 : Int) = 0) from by decide) c⟩
          refine ⟨_, hp2.1, (by have := hp2.2.2.1; show _ < 254; omega), ?_⟩
          refine ⟨_, hp4.1, (by have := hp4.2.2.1; show _ < 254; omega), ?_⟩
          refine ⟨fun (c9 : (((I (227 + 2 * Int.toNat v0) 0) : Int) = (I (227 + 2 * Int.toNat v2) 0))) => ?_, fun (c9 : (¬ (((I (227 + 2 * Int.toNat v0) 0) : Int) = (I (227 + 2 * Int.toNat v2) 0)))) => ?_⟩
          ·
            refine ⟨⟨_, hp2.1, (by have := hp2.2.2.1; show _ < 254; omega)⟩, ?_⟩
            refine Call_wp (lv := [some (vr (227 + 2 * Int.toNat v0)), some (vi v1), some (vi v4)]) (by decide) ckX7_spans [] rfl rfl ?_
            refine ⟨fun (c10 : ((v1 : Int) < 0)) => ?_, fun (c10 : (¬ ((v1 : Int) < 0))) => ?_⟩
            ·
              refine ⟨rfl, (by decide), ?_⟩
              refine ⟨fun _ => ?_, fun c => absurd (show ((0 : Int) = 0) from by decide) c⟩
              refine ⟨⟨_, rfl, (by decide)⟩, ?_⟩
              refine s_X11_refuse hF (e := 1) (by decide) ?_
              exact ⟨rfl, fun hv hA' => hQ _ _ (Rg.u hR (Pr_f rfl)) hA' (hv _ rfl) (fun ka ja hk => (uI_o (show ¬ (ka = 203 ∧ ja = 1) from by first | (intro e; obtain ⟨rfl, rfl⟩ := e; exact hk (by decide)) | omega))) (⟨(by unfold fx_move; (repeat' split) <;> first | rfl | omega), fun s j hs hj => (uI_o (by omega)).trans (if_neg (fun h => absurd h.1 (by unfold fx_move; (repeat' split) <;> omega))).symm⟩)⟩
            ·
              refine ⟨fun (c11 : ((v4 : Int) < 0)) => ?_, fun (c11 : (¬ ((v4 : Int) < 0))) => ?_⟩
              ·
                refine ⟨rfl, (by decide), ?_⟩
                refine ⟨fun _ => ?_, fun c => absurd (show ((0 : Int) = 0) from by decide) c⟩
                refine ⟨⟨_, rfl, (by decide)⟩, ?_⟩
                refine s_X11_refuse hF (e := 1) (by decide) ?_
                exact ⟨rfl, fun hv hA' => hQ _ _ (Rg.u hR (Pr_f rfl)) hA' (hv _ rfl) (fun ka ja hk => (uI_o (show ¬ (ka = 203 ∧ ja = 1) from by first | (intro e; obtain ⟨rfl, rfl⟩ := e; exact hk (by decide)) | omega))) (⟨(by unfold fx_move; (repeat' split) <;> first | rfl | omega), fun s j hs hj => (uI_o (by omega)).trans (if_neg (fun h => absurd h.1 (by unfold fx_move; (repeat' split) <;> omega))).symm⟩)⟩
              ·
                refine ⟨_, hp2.1, (by have := hp2.2.2.1; show _ < 254; omega), ?_⟩
                have r12 : 0 ≤ (I (227 + 2 * Int.toNat v0) 1) ∧ (I (227 + 2 * Int.toNat v0) 1) ≤ 24 := hR.h hp2.1 (by have := hp2.2.2.1; omega)
                refine ⟨fun (c14 : (((I (227 + 2 * Int.toNat v0) 1) : Int) < v4)) => ?_, fun (c14 : (¬ (((I (227 + 2 * Int.toNat v0) 1) : Int) < v4))) => ?_⟩
                ·
                  refine ⟨rfl, (by decide), ?_⟩
                  refine ⟨fun _ => ?_, fun c => absurd (show ((0 : Int) = 0) from by decide) c⟩
                  refine ⟨⟨_, rfl, (by decide)⟩, ?_⟩
                  refine s_X11_refuse hF (e := 1) (by decide) ?_
                  exact ⟨rfl, fun hv hA' => hQ _ _ (Rg.u hR (Pr_f rfl)) hA' (hv _ rfl) (fun ka ja hk => (uI_o (show ¬ (ka = 203 ∧ ja = 1) from by first | (intro e; obtain ⟨rfl, rfl⟩ := e; exact hk (by decide)) | omega))) (⟨(by unfold fx_move; (repeat' split) <;> first | rfl | omega), fun s j hs hj => (uI_o (by omega)).trans (if_neg (fun h => absurd h.1 (by unfold fx_move; (repeat' split) <;> omega))).symm⟩)⟩
                ·
                  refine ⟨_, hp2.1, (by have := hp2.2.2.1; show _ < 254; omega), ?_⟩
                  have n15 : (wr ((I (227 + 2 * Int.toNat v0) 1) - v4)) = (I (227 + 2 * Int.toNat v0) 1) - v4 := wr_id (show -2147483648 ≤ ((I (227 + 2 * Int.toNat v0) 1) - v4 : Int) ∧ ((I (227 + 2 * Int.toNat v0) 1) - v4 : Int) < 2147483648 from by omega)
                  refine ⟨fun (c16 : (((wr ((I (227 + 2 * Int.toNat v0) 1) - v4)) : Int) < v1)) => ?_, fun (c16 : (¬ (((wr ((I (227 + 2 * Int.toNat v0) 1) - v4)) : Int) < v1))) => ?_⟩
                  ·
                    refine ⟨rfl, (by decide), ?_⟩
                    refine ⟨fun _ => ?_, fun c => absurd (show ((0 : Int) = 0) from by decide) c⟩
                    refine ⟨⟨_, rfl, (by decide)⟩, ?_⟩
                    refine s_X11_refuse hF (e := 1) (by decide) ?_
                    exact ⟨rfl, fun hv hA' => hQ _ _ (Rg.u hR (Pr_f rfl)) hA' (hv _ rfl) (fun ka ja hk => (uI_o (show ¬ (ka = 203 ∧ ja = 1) from by first | (intro e; obtain ⟨rfl, rfl⟩ := e; exact hk (by decide)) | omega))) (⟨(by unfold fx_move; (repeat' split) <;> first | rfl | omega), fun s j hs hj => (uI_o (by omega)).trans (if_neg (fun h => absurd h.1 (by unfold fx_move; (repeat' split) <;> omega))).symm⟩)⟩
                  ·
                    refine ⟨rfl, (by decide), ?_⟩
                    refine ⟨fun c => absurd c (show (¬ ((1 : Int) = 0)) from by decide), fun _ => ?_⟩
                    refine ⟨⟨_, hp4.1, (by have := hp4.2.2.1; show _ < 254; omega)⟩, ?_⟩
                    refine Call_wp (lv := [some (vr (227 + 2 * Int.toNat v2)), some (vi v3), some (vi v4)]) (by decide) ckX7_spans [] rfl rfl ?_
                    refine ⟨fun (c17 : ((v3 : Int) < 0)) => ?_, fun (c17 : (¬ ((v3 : Int) < 0))) => ?_⟩
                    ·
                      refine ⟨rfl, (by decide), ?_⟩
                      refine ⟨fun c => absurd (show ((0 : Int) = 0) from by decide) c, fun _ => ?_⟩
                      refine ⟨⟨_, rfl, (by decide)⟩, ?_⟩
                      refine s_X11_refuse hF (e := 1) (by decide) ?_
                      exact ⟨rfl, fun hv hA' => hQ _ _ (Rg.u hR (Pr_f rfl)) hA' (hv _ rfl) (fun ka ja hk => (uI_o (show ¬ (ka = 203 ∧ ja = 1) from by first | (intro e; obtain ⟨rfl, rfl⟩ := e; exact hk (by decide)) | omega))) (⟨(by unfold fx_move; (repeat' split) <;> first | rfl | omega), fun s j hs hj => (uI_o (by omega)).trans (if_neg (fun h => absurd h.1 (by unfold fx_move; (repeat' split) <;> omega))).symm⟩)⟩
                    ·
                      refine ⟨fun c => absurd c (show (¬ ((v4 : Int) < 0)) from by first | omega | (simp only [wr, wl] at *; omega)), fun _ => ?_⟩
                      refine ⟨_, hp4.1, (by have := hp4.2.2.1; show _ < 254; omega), ?_⟩
                      have r18 : 0 ≤ (I (227 + 2 * Int.toNat v2) 1) ∧ (I (227 + 2 * Int.toNat v2) 1) ≤ 24 := hR.h hp4.1 (by have := hp4.2.2.1; omega)
                      refine ⟨fun (c20 : (((I (227 + 2 * Int.toNat v2) 1) : Int) < v4)) => ?_, fun (c20 : (¬ (((I (227 + 2 * Int.toNat v2) 1) : Int) < v4))) => ?_⟩
                      ·
                        refine ⟨rfl, (by decide), ?_⟩
                        refine ⟨fun c => absurd (show ((0 : Int) = 0) from by decide) c, fun _ => ?_⟩
                        refine ⟨⟨_, rfl, (by decide)⟩, ?_⟩
                        refine s_X11_refuse hF (e := 1) (by decide) ?_
                        exact ⟨rfl, fun hv hA' => hQ _ _ (Rg.u hR (Pr_f rfl)) hA' (hv _ rfl) (fun ka ja hk => (uI_o (show ¬ (ka = 203 ∧ ja = 1) from by first | (intro e; obtain ⟨rfl, rfl⟩ := e; exact hk (by decide)) | omega))) (⟨(by unfold fx_move; (repeat' split) <;> first | rfl | omega), fun s j hs hj => (uI_o (by omega)).trans (if_neg (fun h => absurd h.1 (by unfold fx_move; (repeat' split) <;> omega))).symm⟩)⟩
                      ·
                        refine ⟨_, hp4.1, (by have := hp4.2.2.1; show _ < 254; omega), ?_⟩
                        have n21 : (wr ((I (227 + 2 * Int.toNat v2) 1) - v4)) = (I (227 + 2 * Int.toNat v2) 1) - v4 := wr_id (show -2147483648 ≤ ((I (227 + 2 * Int.toNat v2) 1) - v4 : Int) ∧ ((I (227 + 2 * Int.toNat v2) 1) - v4 : Int) < 2147483648 from by omega)
                        refine ⟨fun (c22 : (((wr ((I (227 + 2 * Int.toNat v2) 1) - v4)) : Int) < v3)) => ?_, fun (c22 : (¬ (((wr ((I (227 + 2 * Int.toNat v2) 1) - v4)) : Int) < v3))) => ?_⟩
                        ·
                          refine ⟨rfl, (by decide), ?_⟩
                          refine ⟨fun c => absurd (show ((0 : Int) = 0) from by decide) c, fun _ => ?_⟩
                          refine ⟨⟨_, rfl, (by decide)⟩, ?_⟩
                          refine s_X11_refuse hF (e := 1) (by decide) ?_
                          exact ⟨rfl, fun hv hA' => hQ _ _ (Rg.u hR (Pr_f rfl)) hA' (hv _ rfl) (fun ka ja hk => (uI_o (show ¬ (ka = 203 ∧ ja = 1) from by first | (intro e; obtain ⟨rfl, rfl⟩ := e; exact hk (by decide)) | omega))) (⟨(by unfold fx_move; (repeat' split) <;> first | rfl | omega), fun s j hs hj => (uI_o (by omega)).trans (if_neg (fun h => absurd h.1 (by unfold fx_move; (repeat' split) <;> omega))).symm⟩)⟩
                        ·
                          refine ⟨rfl, (by decide), ?_⟩
                          refine ⟨fun _ => ?_, fun c => absurd c (show (¬ (1 : Int) = 0) from by decide)⟩
                          refine ⟨_, hp2.1, (by have := hp2.2.2.1; show _ < 254; omega), ?_⟩
                          refine fun w0 hw0 => ?_; obtain rfl : w0 = some ((227 + 2 * Int.toNat v0) + 1) := hw0.symm.trans hp2.2.2.2
                          refine ⟨_, hp4.1, (by have := hp4.2.2.1; show _ < 254; omega), ?_⟩
                          refine fun w0 hw0 => ?_; obtain rfl : w0 = some ((227 + 2 * Int.toNat v2) + 1) := hw0.symm.trans hp4.2.2.2
                          refine ⟨_, _, _, (by decide), hp2.2.1, hp4.2.1, (by have := hp2.2.2.1; show _ < 254; omega), (by have := hp4.2.2.1; show _ < 254; omega), (by first | omega | (simp only [wr, wl] at *; omega)), (by first | omega | (simp only [wr, wl] at *; omega)), (by first | omega | (simp only [wr, wl] at *; omega)), (by first | omega | (simp only [wr, wl] at *; omega)), (by first | omega | (simp only [wr, wl] at *; omega)), (by decide), (by omega), ?_⟩
                          exact ⟨rfl, fun hv hA' => hQ _ _ (Rg.c hR (fun _ _ => Pr_l hp4.2.1 (by have := hp4.2.2.1; omega) _ _ ⟨Or.inl (by decide), Or.inl (by decide), Or.inl (by decide)⟩)) hA' (hv _ rfl) (fun ka ja hk => (cI_o (show ¬ ka = ((227 + 2 * Int.toNat v2) + 1) from by have := hp4.2.2.1; omega))) (⟨(by unfold fx_move; (repeat' split) <;> first | rfl | omega), fun s j hs hj => if e : (s : Int) = v2 ∧ v3 ≤ (j : Int) ∧ (j : Int) < v3 + v4 then (by rw [if_pos ⟨show 0 ≤ fx_move v0 v1 v2 v3 v4 (I (227 + 2 * Int.toNat v0) 0) (I (227 + 2 * Int.toNat v0) 1) (I (227 + 2 * Int.toNat v2) 0) (I (227 + 2 * Int.toNat v2) 1) from (by unfold fx_move; (repeat' split) <;> omega), e.1, e.2.1, e.2.2⟩]; unfold cI; rw [if_pos ⟨by omega, by omega, by omega⟩, show 227 + 2 * Int.toNat v0 + 1 = 228 + 2 * Int.toNat v0 from by omega]) else (by rw [if_neg (fun h => e ⟨h.2.1, h.2.2.1, h.2.2.2⟩)]; unfold cI; exact if_neg (fun h => e ⟨by omega, by omega, by omega⟩))⟩)⟩
          ·
            refine ⟨⟨_, rfl, (by decide)⟩, ?_⟩
            refine s_X11_refuse hF (e := 5) (by decide) ?_
            exact ⟨rfl, fun hv hA' => hQ _ _ (Rg.u hR (Pr_f rfl)) hA' (hv _ rfl) (fun ka ja hk => (uI_o (show ¬ (ka = 203 ∧ ja = 5) from by first | (intro e; obtain ⟨rfl, rfl⟩ := e; exact hk (by decide)) | omega))) (⟨(by unfold fx_move; (repeat' split) <;> first | rfl | omega), fun s j hs hj => (uI_o (by omega)).trans (if_neg (fun h => absurd h.1 (by unfold fx_move; (repeat' split) <;> omega))).symm⟩)⟩
        ·
          refine ⟨rfl, (by decide), ?_⟩
          refine ⟨fun c => absurd c (show (¬ ((1 : Int) = 0)) from by decide), fun _ => ?_⟩
          refine ⟨⟨_, rfl, (by decide)⟩, ?_⟩
          refine s_X11_refuse hF (e := 2) (by decide) ?_
          exact ⟨rfl, fun hv hA' => hQ _ _ (Rg.u hR (Pr_f rfl)) hA' (hv _ rfl) (fun ka ja hk => (uI_o (show ¬ (ka = 203 ∧ ja = 2) from by first | (intro e; obtain ⟨rfl, rfl⟩ := e; exact hk (by decide)) | omega))) (⟨(by unfold fx_move; (repeat' split) <;> first | rfl | omega), fun s j hs hj => (uI_o (by omega)).trans (if_neg (fun h => absurd h.1 (by unfold fx_move; (repeat' split) <;> omega))).symm⟩)⟩
      ·
        refine ⟨rfl, (by decide), ?_⟩
        refine ⟨fun _ => ?_, fun c => absurd c (show (¬ (1 : Int) = 0) from by decide)⟩
        refine ⟨⟨_, rfl, (by decide)⟩, ?_⟩
        refine s_X11_refuse hF (e := 2) (by decide) ?_
        exact ⟨rfl, fun hv hA' => hQ _ _ (Rg.u hR (Pr_f rfl)) hA' (hv _ rfl) (fun ka ja hk => (uI_o (show ¬ (ka = 203 ∧ ja = 2) from by first | (intro e; obtain ⟨rfl, rfl⟩ := e; exact hk (by decide)) | omega))) (⟨(by unfold fx_move; (repeat' split) <;> first | rfl | omega), fun s j hs hj => (uI_o (by omega)).trans (if_neg (fun h => absurd h.1 (by unfold fx_move; (repeat' split) <;> omega))).symm⟩)⟩
    ·
      refine ⟨⟨_, rfl, (by decide)⟩, ?_⟩
      refine s_X11_refuse hF (e := 1) (by decide) ?_
      exact ⟨rfl, fun hv hA' => hQ _ _ (Rg.u hR (Pr_f rfl)) hA' (hv _ rfl) (fun ka ja hk => (uI_o (show ¬ (ka = 203 ∧ ja = 1) from by first | (intro e; obtain ⟨rfl, rfl⟩ := e; exact hk (by decide)) | omega))) (⟨(by unfold fx_move; (repeat' split) <;> first | rfl | omega), fun s j hs hj => (uI_o (by omega)).trans (if_neg (fun h => absurd h.1 (by unfold fx_move; (repeat' split) <;> omega))).symm⟩)⟩
  ·
    refine ⟨⟨_, rfl, (by decide)⟩, ?_⟩
    refine s_X11_sheetAt hF (fun (w23 : (0 ≤ v2 ∧ v2 ≤ 3)) => ?_) (fun (w23 : ¬ (0 ≤ v2 ∧ v2 ≤ 3)) => ?_)
    ·
      have hp24 : HP F (227 + 2 * Int.toNat v2) := HP_of hF w23
      refine ⟨⟨_, rfl, (by decide)⟩, ?_⟩
      refine s_X11_refuse hF (e := 1) (by decide) ?_
      exact ⟨rfl, fun hv hA' => hQ _ _ (Rg.u hR (Pr_f rfl)) hA' (hv _ rfl) (fun ka ja hk => (uI_o (show ¬ (ka = 203 ∧ ja = 1) from by first | (intro e; obtain ⟨rfl, rfl⟩ := e; exact hk (by decide)) | omega))) (⟨(by unfold fx_move; (repeat' split) <;> first | rfl | omega), fun s j hs hj => (uI_o (by omega)).trans (if_neg (fun h => absurd h.1 (by unfold fx_move; (repeat' split) <;> omega))).symm⟩)⟩
    ·
      refine ⟨⟨_, rfl, (by decide)⟩, ?_⟩
      refine s_X11_refuse hF (e := 1) (by decide) ?_
      exact ⟨rfl, fun hv hA' => hQ _ _ (Rg.u hR (Pr_f rfl)) hA' (hv _ rfl) (fun ka ja hk => (uI_o (show ¬ (ka = 203 ∧ ja = 1) from by first | (intro e; obtain ⟨rfl, rfl⟩ := e; exact hk (by decide)) | omega))) (⟨(by unfold fx_move; (repeat' split) <;> first | rfl | omega), fun s j hs hj => (uI_o (by omega)).trans (if_neg (fun h => absurd h.1 (by unfold fx_move; (repeat' split) <;> omega))).symm⟩)⟩
theorem r_move4_l2 (hF : FS F) (hR : Rg I) {v0 v1 v2 v3 v4 : Int} (h0 : 0 ≤ v0 ∧ v0 ≤ 3) (h2 : 0 ≤ v2 ∧ v2 ≤ 3) (h4 : 0 ≤ v4 ∧ v4 ≤ 24) (h1 : 0 ≤ v1 ∧ v1 + v4 ≤ 24) (h3 : 0 ≤ v3 ∧ v3 + v4 ≤ 24) (hQ : ∀ (r : Int) (I' : pI), Rg I' → (∀ k j, ¬ (k = 252) → I' k j = I k j) → (r = v4) → (∀ j : Nat, I' 252 j = if 24 * v2 + v3 ≤ (j : Int) ∧ (j : Int) < 24 * v2 + v3 + v4 then I 253 (j - Int.toNat (24 * v2 + v3)) else I 252 j) → Q (some (vi r)) F I') : ∀ (mz : Nat) (k : Int) (J : pI), Rg J → (∀ k j, ¬ (k = 252) → J k j = I k j) → ((0 : Int) ≤ k) → ((k : Int) ≤ 24) → (k ≤ v4) → (∀ j : Nat, J 252 j = if 24 * v2 + v3 ≤ (j : Int) ∧ (j : Int) < 24 * v2 + v3 + k then I 253 (j - Int.toNat (24 * v2 + v3)) else I 252 j) → (24 - k).toNat < mz → GoN G d kX12_move NP NP 164 [some (vr 235), some (vi v0), some (vi v1), some (vi v2), some (vi v3), some (vi v4), some (vi k)] [] F J Q := by
  intro mz
  induction mz with
  | zero => intro k J hJ hV _ _ _ _ h; exact absurd h (Nat.not_lt_zero _)
  | succ mz ih =>
    intro k J hJ hV c100 c101 c102 c103 hm
    refine GoN_in (fun hok hA => ?_)
    have iiv0 : -2147483648 ≤ v0 ∧ v0 < 2147483648 := hok 1 _ rfl
    have iiv1 : -2147483648 ≤ v1 ∧ v1 < 2147483648 := hok 2 _ rfl
    have iiv2 : -2147483648 ≤ v2 ∧ v2 < 2147483648 := hok 3 _ rfl
    have iiv3 : -2147483648 ≤ v3 ∧ v3 < 2147483648 := hok 4 _ rfl
    have iiv4 : -2147483648 ≤ v4 ∧ v4 < 2147483648 := hok 5 _ rfl
    have iik : -2147483648 ≤ k ∧ k < 2147483648 := hok 6 _ rfl
    refine Go_wp (by decide) ckX12_move [164] ?_
    refine ⟨fun (c1 : ((v4 : Int) ≤ k)) => ?_, fun (c1 : (¬ ((v4 : Int) ≤ k))) => ?_⟩
    ·
      exact ⟨rfl, hQ _ _ hJ (fun ka ja hk => (hV ka ja (by omega))) (show v4 = v4 from by first | omega | (simp only [wr, wl] at *; omega)) (fun j => (c103 j).trans (if e2 : 24 * v2 + v3 ≤ (j : Int) ∧ (j : Int) < 24 * v2 + v3 + k then (by rw [if_pos e2, if_pos (by omega)]) else (by rw [if_neg e2, if_neg (by omega)])))⟩
    ·
      refine ⟨_, rfl, (by decide), ?_⟩
      refine fun w0 hw0 => ?_; obtain rfl : w0 = some 252 := hw0.symm.trans (FS.g hF rfl)
      refine ⟨_, rfl, (by decide), ?_⟩
      refine fun w0 hw0 => ?_; obtain rfl : w0 = some 253 := hw0.symm.trans (FS.g hF rfl)
      refine ⟨_, rfl, (by decide), (show (0 : Int) ≤ k from by first | with_reducible assumption | omega | (simp only [wr, wl] at *; omega)), (show k < (24 : Int) from by first | with_reducible assumption | omega | (simp only [wr, wl] at *; omega)), ?_⟩
      have u2 : (J 253 (Int.toNat k)) = (I 253 (Int.toNat k)) := hV _ _ (by first | decide | omega)
      have a3 : -2147483648 ≤ (J 253 (Int.toNat k)) ∧ (J 253 (Int.toNat k)) < 2147483648 := hA.1 _ _
      have n4 : (wr (24 * v2)) = 24 * v2 := wr_id (show -2147483648 ≤ (24 * v2 : Int) ∧ (24 * v2 : Int) < 2147483648 from by omega)
      have n5 : (wr ((wr (24 * v2)) + v3)) = (wr (24 * v2)) + v3 := wr_id (show -2147483648 ≤ ((wr (24 * v2)) + v3 : Int) ∧ ((wr (24 * v2)) + v3 : Int) < 2147483648 from by omega)
      have n6 : (wr ((wr ((wr (24 * v2)) + v3)) + k)) = (wr ((wr (24 * v2)) + v3)) + k := wr_id (show -2147483648 ≤ ((wr ((wr (24 * v2)) + v3)) + k : Int) ∧ ((wr ((wr (24 * v2)) + v3)) + k : Int) < 2147483648 from by omega)
      refine ⟨_, rfl, (by decide), (show (0 : Int) ≤ (wr ((wr ((wr (24 * v2)) + v3)) + k)) from by first | with_reducible assumption | omega | (simp only [wr, wl] at *; omega)), (show (wr ((wr ((wr (24 * v2)) + v3)) + k)) < (96 : Int) from by first | with_reducible assumption | omega | (simp only [wr, wl] at *; omega)), ?_⟩
      have n7 : (wr (k + 1)) = k + 1 := wr_id (show -2147483648 ≤ (k + 1 : Int) ∧ (k + 1 : Int) < 2147483648 from by omega)
      exact ih (wr (k + 1)) (uI J 252 (Int.toNat (wr ((wr ((wr (24 * v2)) + v3)) + k))) (J 253 (Int.toNat k))) (Rg.u hJ (Pr_p (k := 252) rfl _ _)) (fun ka ja hk => ((uI_o (show ¬ (ka = 252 ∧ ja = (Int.toNat (wr ((wr ((wr (24 * v2)) + v3)) + k)))) from by omega))).trans ((hV ka ja (by omega)))) (show (0 : Int) ≤ (wr (k + 1)) from by first | with_reducible assumption | omega | (simp only [wr, wl] at *; omega)) (show ((wr (k + 1)) : Int) ≤ 24 from by first | with_reducible assumption | omega | (simp only [wr, wl] at *; omega)) (show (wr (k + 1)) ≤ v4 from by first | with_reducible assumption | omega | (simp only [wr, wl] at *; omega)) (fun j => if e : j = (Int.toNat (wr ((wr ((wr (24 * v2)) + v3)) + k))) then (by rw [e, if_pos (by omega), show (Int.toNat (wr ((wr ((wr (24 * v2)) + v3)) + k))) - Int.toNat (24 * v2 + v3) = Int.toNat k from by omega]; exact uJ_eq.trans (hV 253 _ (by decide))) else ((uJ_ne e).trans (c103 j)).trans (if e2 : 24 * v2 + v3 ≤ (j : Int) ∧ (j : Int) < 24 * v2 + v3 + k then (by rw [if_pos e2, if_pos (by omega)]) else (by rw [if_neg e2, if_neg (by omega)]))) (show (24 - (wr (k + 1))).toNat < mz from by omega)
theorem r_move4_l1 (hF : FS F) (hR : Rg I) {v0 v1 v2 v3 v4 : Int} (h0 : 0 ≤ v0 ∧ v0 ≤ 3) (h2 : 0 ≤ v2 ∧ v2 ≤ 3) (h4 : 0 ≤ v4 ∧ v4 ≤ 24) (h1 : 0 ≤ v1 ∧ v1 + v4 ≤ 24) (h3 : 0 ≤ v3 ∧ v3 + v4 ≤ 24) (hQ : ∀ (r : Int) (I' : pI), Rg I' → (∀ k j, ¬ (k = 252 ∨ k = 253) → I' k j = I k j) → (r = v4) → (∀ j : Nat, I' 252 j = if 24 * v2 + v3 ≤ (j : Int) ∧ (j : Int) < 24 * v2 + v3 + v4 then I 252 (24 * Int.toNat v0 + Int.toNat v1 + (j - Int.toNat (24 * v2 + v3))) else I 252 j) → Q (some (vi r)) F I') : ∀ (mz : Nat) (k : Int) (J : pI), Rg J → (∀ k j, ¬ (k = 252 ∨ k = 253) → J k j = I k j) → ((0 : Int) ≤ k) → ((k : Int) ≤ 24) → (k ≤ v4) → (∀ j : Nat, (j : Int) < k → J 253 j = I 252 (24 * Int.toNat v0 + Int.toNat v1 + j)) → (∀ j : Nat, J 252 j = I 252 j) → (24 - k).toNat < mz → GoN G d kX12_move NP NP 127 [some (vr 235), some (vi v0), some (vi v1), some (vi v2), some (vi v3), some (vi v4), some (vi k)] [] F J Q := by
  intro mz
  induction mz with
  | zero => intro k J hJ hV _ _ _ _ _ h; exact absurd h (Nat.not_lt_zero _)
  | succ mz ih =>
    intro k J hJ hV c100 c101 c102 c103 c104 hm
    refine GoN_in (fun hok hA => ?_)
    have iiv0 : -2147483648 ≤ v0 ∧ v0 < 2147483648 := hok 1 _ rfl
    have iiv1 : -2147483648 ≤ v1 ∧ v1 < 2147483648 := hok 2 _ rfl
    have iiv2 : -2147483648 ≤ v2 ∧ v2 < 2147483648 := hok 3 _ rfl
    have iiv3 : -2147483648 ≤ v3 ∧ v3 < 2147483648 := hok 4 _ rfl
    have iiv4 : -2147483648 ≤ v4 ∧ v4 < 2147483648 := hok 5 _ rfl
    have iik : -2147483648 ≤ k ∧ k < 2147483648 := hok 6 _ rfl
    refine Go_wp (by decide) ckX12_move [127, 164] ?_
    refine ⟨fun (c1 : ((v4 : Int) ≤ k)) => ?_, fun (c1 : (¬ ((v4 : Int) ≤ k))) => ?_⟩
    ·
      refine r_move4_l2 hF hJ (by omega) (by omega) (by omega) (by omega) (by omega) (fun r I' g1 g2 g3 g4 => hQ _ _ g1 (fun ka ja hk => (g2 ka ja (by omega)).trans (hV ka ja (by omega))) g3 (fun j => (g4 j).trans (if e2 : 24 * v2 + v3 ≤ (j : Int) ∧ (j : Int) < 24 * v2 + v3 + v4 then (by rw [if_pos e2, if_pos e2]; exact c103 _ (by omega)) else (by rw [if_neg e2, if_neg e2]; exact c104 j)))) _ 0 J hJ (fun _ _ _ => rfl) (show (0 : Int) ≤ (0 : Int) from Int.le_refl _) (show ((0 : Int) : Int) ≤ 24 from by first | with_reducible assumption | omega | (simp only [wr, wl] at *; omega)) (show (0 : Int) ≤ v4 from by first | with_reducible assumption | omega | (simp only [wr, wl] at *; omega)) (fun j => (if_neg (by omega)).symm) (Nat.lt_succ_self _)
    ·
      refine ⟨_, rfl, (by decide), ?_⟩
      refine fun w0 hw0 => ?_; obtain rfl : w0 = some 253 := hw0.symm.trans (FS.g hF rfl)
      refine ⟨_, rfl, (by decide), ?_⟩
      refine fun w0 hw0 => ?_; obtain rfl : w0 = some 252 := hw0.symm.trans (FS.g hF rfl)
      have n2 : (wr (24 * v0)) = 24 * v0 := wr_id (show -2147483648 ≤ (24 * v0 : Int) ∧ (24 * v0 : Int) < 2147483648 from by omega)
      have n3 : (wr ((wr (24 * v0)) + v1)) = (wr (24 * v0)) + v1 := wr_id (show -2147483648 ≤ ((wr (24 * v0)) + v1 : Int) ∧ ((wr (24 * v0)) + v1 : Int) < 2147483648 from by omega)
      have n4 : (wr ((wr ((wr (24 * v0)) + v1)) + k)) = (wr ((wr (24 * v0)) + v1)) + k := wr_id (show -2147483648 ≤ ((wr ((wr (24 * v0)) + v1)) + k : Int) ∧ ((wr ((wr (24 * v0)) + v1)) + k : Int) < 2147483648 from by omega)
      refine ⟨_, rfl, (by decide), (show (0 : Int) ≤ (wr ((wr ((wr (24 * v0)) + v1)) + k)) from by first | with_reducible assumption | omega | (simp only [wr, wl] at *; omega)), (show (wr ((wr ((wr (24 * v0)) + v1)) + k)) < (96 : Int) from by first | with_reducible assumption | omega | (simp only [wr, wl] at *; omega)), ?_⟩
      refine ⟨_, rfl, (by decide), (show (0 : Int) ≤ k from by first | with_reducible assumption | omega | (simp only [wr, wl] at *; omega)), (show k < (24 : Int) from by first | with_reducible assumption | omega | (simp only [wr, wl] at *; omega)), ?_⟩
      have n5 : (wr (k + 1)) = k + 1 := wr_id (show -2147483648 ≤ (k + 1 : Int) ∧ (k + 1 : Int) < 2147483648 from by omega)
      exact ih (wr (k + 1)) (uI J 253 (Int.toNat k) (J 252 (Int.toNat (wr ((wr ((wr (24 * v0)) + v1)) + k))))) (Rg.u hJ (Pr_p (k := 253) rfl _ _)) (fun ka ja hk => ((uI_o (show ¬ (ka = 253 ∧ ja = (Int.toNat k)) from by first | (intro e; obtain ⟨rfl, _⟩ := e; exact hk (by decide)) | omega))).trans ((hV ka ja (by omega)))) (show (0 : Int) ≤ (wr (k + 1)) from by first | with_reducible assumption | omega | (simp only [wr, wl] at *; omega)) (show ((wr (k + 1)) : Int) ≤ 24 from by first | with_reducible assumption | omega | (simp only [wr, wl] at *; omega)) (show (wr (k + 1)) ≤ v4 from by first | with_reducible assumption | omega | (simp only [wr, wl] at *; omega)) (fun j hj => if e : j = (Int.toNat k) then (by rw [e]; exact uJ_eq.trans ((c104 _).trans (congrArg (I 252) (by omega)))) else (uJ_ne e).trans (c103 j (by omega))) (fun j => (uI_o (fun e => absurd e.1 (by decide))).trans (c104 j)) (show (24 - (wr (k + 1))).toNat < mz from by omega)
theorem r_move4 (hF : FS F) (hR : Rg I) {v0 v1 v2 v3 v4 : Int}  (hQ : ∀ (r : Int) (I' : pI), Rg I' → AR I' → iR r → (∀ k j, ¬ (k = 238 ∨ k = 252 ∨ k = 253) → I' k j = I k j) → (r = fx_move v0 v1 v2 v3 v4 (I 250 (Int.toNat v0)) (I 251 (Int.toNat v0)) (I 250 (Int.toNat v2)) (I 251 (Int.toNat v2)) ∧ ∀ s j : Nat, s < 4 → j < 24 → I' 252 (24 * s + j) = if 0 ≤ fx_move v0 v1 v2 v3 v4 (I 250 (Int.toNat v0)) (I 251 (Int.toNat v0)) (I 250 (Int.toNat v2)) (I 251 (Int.toNat v2)) ∧ (s : Int) = v2 ∧ v3 ≤ (j : Int) ∧ (j : Int) < v3 + v4 then I 252 (24 * Int.toNat v0 + (Int.toNat v1 + (j - Int.toNat v3))) else I 252 (24 * s + j)) → Q (some (vi r)) F I') : CallN G (d + 2) kX12_move [vr 235, vi v0, vi v1, vi v2, vi v3, vi v4] NP F I Q := by
  refine CallN_in (fun hok hA => CallN_out ?_)
  have iv0 : -2147483648 ≤ v0 ∧ v0 < 2147483648 := hok (vi v0) (by simp)
  have iv1 : -2147483648 ≤ v1 ∧ v1 < 2147483648 := hok (vi v1) (by simp)
  have iv2 : -2147483648 ≤ v2 ∧ v2 < 2147483648 := hok (vi v2) (by simp)
  have iv3 : -2147483648 ≤ v3 ∧ v3 < 2147483648 := hok (vi v3) (by simp)
  have iv4 : -2147483648 ≤ v4 ∧ v4 < 2147483648 := hok (vi v4) (by simp)
  refine Call_wp (lv := [some (vr 235), some (vi v0), some (vi v1), some (vi v2), some (vi v3), some (vi v4), none]) (by decide) ckX12_move [127] rfl rfl ?_
  refine s_X12_isSheet (fun (w1 : ((0 : Int) ≤ v0 ∧ (v0 : Int) ≤ 3)) => ?_) (fun (w1 : ¬ ((0 : Int) ≤ v0 ∧ (v0 : Int) ≤ 3)) => ?_)
  ·
    refine ⟨fun c => absurd c (show (¬ ((1 : Int) = 0)) from by decide), fun _ => ?_⟩
    refine s_X12_isSheet (fun (w2 : ((0 : Int) ≤ v2 ∧ (v2 : Int) ≤ 3)) => ?_) (fun (w2 : ¬ ((0 : Int) ≤ v2 ∧ (v2 : Int) ≤ 3)) => ?_)
    ·
      refine ⟨fun _ => ?_, fun c => absurd c (show (¬ (1 : Int) = 0) from by decide)⟩
      refine ⟨_, rfl, (by decide), ?_⟩
      refine fun w0 hw0 => ?_; obtain rfl : w0 = some 250 := hw0.symm.trans (FS.g hF rfl)
      refine ⟨_, rfl, (by decide), (show (0 : Int) ≤ v0 from by first | with_reducible assumption | omega | (simp only [wr, wl] at *; omega)), (show v0 < (4 : Int) from by first | with_reducible assumption | omega | (simp only [wr, wl] at *; omega)), ?_⟩
      have a3 : -2147483648 ≤ (I 250 (Int.toNat v0)) ∧ (I 250 (Int.toNat v0)) < 2147483648 := hA.1 _ _
      refine ⟨fun (c4 : (((I 250 (Int.toNat v0)) : Int) = 0)) => ?_, fun (c4 : (¬ (((I 250 (Int.toNat v0)) : Int) = 0))) => ?_⟩
      ·
        refine ⟨⟨_, rfl, (by decide)⟩, ?_⟩
        refine s_X12_finding hF (v := (-1000002)) (by decide) ?_
        exact ⟨rfl, fun hv hA' => hQ _ _ (Rg.u hR (Pr_f rfl)) hA' (hv _ rfl) (fun ka ja hk => (uI_o (show ¬ (ka = 238 ∧ ja = 2) from by first | (intro e; obtain ⟨rfl, rfl⟩ := e; exact hk (by decide)) | omega))) (⟨(by unfold fx_move; (repeat' split) <;> first | rfl | omega), fun s j hs hj => (uI_o (by omega)).trans (if_neg (fun h => absurd h.1 (by unfold fx_move; (repeat' split) <;> omega))).symm⟩)⟩
      ·
        refine ⟨_, rfl, (by decide), ?_⟩
        refine fun w0 hw0 => ?_; obtain rfl : w0 = some 250 := hw0.symm.trans (FS.g hF rfl)
        refine ⟨_, rfl, (by decide), (show (0 : Int) ≤ v2 from by first | with_reducible assumption | omega | (simp only [wr, wl] at *; omega)), (show v2 < (4 : Int) from by first | with_reducible assumption | omega | (simp only [wr, wl] at *; omega)), ?_⟩
        have a5 : -2147483648 ≤ (I 250 (Int.toNat v2)) ∧ (I 250 (Int.toNat v2)) < 2147483648 := hA.1 _ _
        refine ⟨fun (c6 : (¬ ((I 250 (Int.toNat v2)) : Int) = 0)) => ?_, fun (c6 : (((I 250 (Int.toNat v2)) : Int) = 0)) => ?_⟩
        ·
          refine ⟨_, rfl, (by decide), ?_⟩
          refine fun w0 hw0 => ?_; obtain rfl : w0 = some 250 := hw0.symm.trans (FS.g hF rfl)
          refine ⟨_, rfl, (by decide), (show (0 : Int) ≤ v0 from by first | with_reducible assumption | omega | (simp only [wr, wl] at *; omega)), (show v0 < (4 : Int) from by first | with_reducible assumption | omega | (simp only [wr, wl] at *; omega)), ?_⟩
          refine ⟨_, rfl, (by decide), ?_⟩
          refine fun w0 hw0 => ?_; obtain rfl : w0 = some 250 := hw0.symm.trans (FS.g hF rfl)
          refine ⟨_, rfl, (by decide), (show (0 : Int) ≤ v2 from by first | with_reducible assumption | omega | (simp only [wr, wl] at *; omega)), (show v2 < (4 : Int) from by first | with_reducible assumption | omega | (simp only [wr, wl] at *; omega)), ?_⟩
          refine ⟨fun (c7 : (((I 250 (Int.toNat v0)) : Int) = (I 250 (Int.toNat v2)))) => ?_, fun (c7 : (¬ (((I 250 (Int.toNat v0)) : Int) = (I 250 (Int.toNat v2))))) => ?_⟩
          ·
            refine ⟨fun (c8 : ((v4 : Int) < 0)) => ?_, fun (c8 : (¬ ((v4 : Int) < 0))) => ?_⟩
            ·
              refine ⟨⟨_, rfl, (by decide)⟩, ?_⟩
              refine s_X12_finding hF (v := (-1000001)) (by decide) ?_
              exact ⟨rfl, fun hv hA' => hQ _ _ (Rg.u hR (Pr_f rfl)) hA' (hv _ rfl) (fun ka ja hk => (uI_o (show ¬ (ka = 238 ∧ ja = 1) from by first | (intro e; obtain ⟨rfl, rfl⟩ := e; exact hk (by decide)) | omega))) (⟨(by unfold fx_move; (repeat' split) <;> first | rfl | omega), fun s j hs hj => (uI_o (by omega)).trans (if_neg (fun h => absurd h.1 (by unfold fx_move; (repeat' split) <;> omega))).symm⟩)⟩
            ·
              refine ⟨fun (c9 : ((v1 : Int) < 0)) => ?_, fun (c9 : (¬ ((v1 : Int) < 0))) => ?_⟩
              ·
                refine ⟨⟨_, rfl, (by decide)⟩, ?_⟩
                refine s_X12_finding hF (v := (-1000001)) (by decide) ?_
                exact ⟨rfl, fun hv hA' => hQ _ _ (Rg.u hR (Pr_f rfl)) hA' (hv _ rfl) (fun ka ja hk => (uI_o (show ¬ (ka = 238 ∧ ja = 1) from by first | (intro e; obtain ⟨rfl, rfl⟩ := e; exact hk (by decide)) | omega))) (⟨(by unfold fx_move; (repeat' split) <;> first | rfl | omega), fun s j hs hj => (uI_o (by omega)).trans (if_neg (fun h => absurd h.1 (by unfold fx_move; (repeat' split) <;> omega))).symm⟩)⟩
              ·
                refine ⟨fun (c10 : ((v3 : Int) < 0)) => ?_, fun (c10 : (¬ ((v3 : Int) < 0))) => ?_⟩
                ·
                  refine ⟨⟨_, rfl, (by decide)⟩, ?_⟩
                  refine s_X12_finding hF (v := (-1000001)) (by decide) ?_
                  exact ⟨rfl, fun hv hA' => hQ _ _ (Rg.u hR (Pr_f rfl)) hA' (hv _ rfl) (fun ka ja hk => (uI_o (show ¬ (ka = 238 ∧ ja = 1) from by first | (intro e; obtain ⟨rfl, rfl⟩ := e; exact hk (by decide)) | omega))) (⟨(by unfold fx_move; (repeat' split) <;> first | rfl | omega), fun s j hs hj => (uI_o (by omega)).trans (if_neg (fun h => absurd h.1 (by unfold fx_move; (repeat' split) <;> omega))).symm⟩)⟩
                ·
                  refine ⟨_, rfl, (by decide), ?_⟩
                  refine fun w0 hw0 => ?_; obtain rfl : w0 = some 251 := hw0.symm.trans (FS.g hF rfl)
                  refine ⟨_, rfl, (by decide), (show (0 : Int) ≤ v0 from by first | with_reducible assumption | omega | (simp only [wr, wl] at *; omega)), (show v0 < (4 : Int) from by first | with_reducible assumption | omega | (simp only [wr, wl] at *; omega)), ?_⟩
                  have r11 : 0 ≤ (I 251 (Int.toNat v0)) ∧ (I 251 (Int.toNat v0)) ≤ 24 := hR.s _ (by omega)
                  have n12 : (wl (v1 + v4)) = v1 + v4 := wl_id (show -9223372036854775808 ≤ (v1 + v4 : Int) ∧ (v1 + v4 : Int) < 9223372036854775808 from by omega)
                  refine ⟨fun c14 => ?_, fun c14 => ?_⟩
                  ·
                    have c14 : (((I 251 (Int.toNat v0)) : Int) < (wl (v1 + v4))) := lcm_gt.1 c14
                    refine ⟨⟨_, rfl, (by decide)⟩, ?_⟩
                    refine s_X12_finding hF (v := (-1000001)) (by decide) ?_
                    exact ⟨rfl, fun hv hA' => hQ _ _ (Rg.u hR (Pr_f rfl)) hA' (hv _ rfl) (fun ka ja hk => (uI_o (show ¬ (ka = 238 ∧ ja = 1) from by first | (intro e; obtain ⟨rfl, rfl⟩ := e; exact hk (by decide)) | omega))) (⟨(by unfold fx_move; (repeat' split) <;> first | rfl | omega), fun s j hs hj => (uI_o (by omega)).trans (if_neg (fun h => absurd h.1 (by unfold fx_move; (repeat' split) <;> omega))).symm⟩)⟩
                  ·
                    have c14 : (¬ (((I 251 (Int.toNat v0)) : Int) < (wl (v1 + v4)))) := fun e => c14 (lcm_gt.2 e)
                    refine ⟨_, rfl, (by decide), ?_⟩
                    refine fun w0 hw0 => ?_; obtain rfl : w0 = some 251 := hw0.symm.trans (FS.g hF rfl)
                    refine ⟨_, rfl, (by decide), (show (0 : Int) ≤ v2 from by first | with_reducible assumption | omega | (simp only [wr, wl] at *; omega)), (show v2 < (4 : Int) from by first | with_reducible assumption | omega | (simp only [wr, wl] at *; omega)), ?_⟩
                    have r15 : 0 ≤ (I 251 (Int.toNat v2)) ∧ (I 251 (Int.toNat v2)) ≤ 24 := hR.s _ (by omega)
                    have n16 : (wl (v3 + v4)) = v3 + v4 := wl_id (show -9223372036854775808 ≤ (v3 + v4 : Int) ∧ (v3 + v4 : Int) < 9223372036854775808 from by omega)
                    refine ⟨fun c18 => ?_, fun c18 => ?_⟩
                    ·
                      have c18 : (((wl (v3 + v4)) : Int) ≤ (I 251 (Int.toNat v2))) := lcm_le.1 c18
                      refine r_move4_l1 hF hR (by omega) (by omega) (by omega) (by omega) (by omega) (fun r I' g1 g2 g3 g4 hv hA' => hQ _ _ g1 hA' (hv _ rfl) (fun ka ja hk => g2 ka ja (by omega)) ⟨g3.trans (show v4 = fx_move v0 v1 v2 v3 v4 (I 250 (Int.toNat v0)) (I 251 (Int.toNat v0)) (I 250 (Int.toNat v2)) (I 251 (Int.toNat v2)) from (by unfold fx_move; (repeat' split) <;> first | rfl | omega)), fun s j hs hj => (g4 (24 * s + j)).trans (if e : (s : Int) = v2 ∧ v3 ≤ (j : Int) ∧ (j : Int) < v3 + v4 then (by rw [if_pos (by omega), if_pos ⟨show 0 ≤ fx_move v0 v1 v2 v3 v4 (I 250 (Int.toNat v0)) (I 251 (Int.toNat v0)) (I 250 (Int.toNat v2)) (I 251 (Int.toNat v2)) from (by unfold fx_move; (repeat' split) <;> omega), e.1, e.2.1, e.2.2⟩]; exact congrArg (I 252) (by omega)) else (by rw [if_neg (by omega), if_neg (fun h => e ⟨h.2.1, h.2.2.1, h.2.2.2⟩)]))⟩) _ 0 I hR (fun _ _ _ => rfl) (show (0 : Int) ≤ (0 : Int) from Int.le_refl _) (show ((0 : Int) : Int) ≤ 24 from by first | with_reducible assumption | omega | (simp only [wr, wl] at *; omega)) (show (0 : Int) ≤ v4 from by first | with_reducible assumption | omega | (simp only [wr, wl] at *; omega)) (fun j hj => absurd hj (by omega)) (fun _ => rfl) (Nat.lt_succ_self _)
                    ·
                      have c18 : (¬ (((wl (v3 + v4)) : Int) ≤ (I 251 (Int.toNat v2)))) := fun e => c18 (lcm_le.2 e)
                      refine ⟨⟨_, rfl, (by decide)⟩, ?_⟩
                      refine s_X12_finding hF (v := (-1000001)) (by decide) ?_
                      exact ⟨rfl, fun hv hA' => hQ _ _ (Rg.u hR (Pr_f rfl)) hA' (hv _ rfl) (fun ka ja hk => (uI_o (show ¬ (ka = 238 ∧ ja = 1) from by first | (intro e; obtain ⟨rfl, rfl⟩ := e; exact hk (by decide)) | omega))) (⟨(by unfold fx_move; (repeat' split) <;> first | rfl | omega), fun s j hs hj => (uI_o (by omega)).trans (if_neg (fun h => absurd h.1 (by unfold fx_move; (repeat' split) <;> omega))).symm⟩)⟩
          ·
            refine ⟨⟨_, rfl, (by decide)⟩, ?_⟩
            refine s_X12_finding hF (v := (-1000005)) (by decide) ?_
            exact ⟨rfl, fun hv hA' => hQ _ _ (Rg.u hR (Pr_f rfl)) hA' (hv _ rfl) (fun ka ja hk => (uI_o (show ¬ (ka = 238 ∧ ja = 5) from by first | (intro e; obtain ⟨rfl, rfl⟩ := e; exact hk (by decide)) | omega))) (⟨(by unfold fx_move; (repeat' split) <;> first | rfl | omega), fun s j hs hj => (uI_o (by omega)).trans (if_neg (fun h => absurd h.1 (by unfold fx_move; (repeat' split) <;> omega))).symm⟩)⟩
        ·
          refine ⟨⟨_, rfl, (by decide)⟩, ?_⟩
          refine s_X12_finding hF (v := (-1000002)) (by decide) ?_
          exact ⟨rfl, fun hv hA' => hQ _ _ (Rg.u hR (Pr_f rfl)) hA' (hv _ rfl) (fun ka ja hk => (uI_o (show ¬ (ka = 238 ∧ ja = 2) from by first | (intro e; obtain ⟨rfl, rfl⟩ := e; exact hk (by decide)) | omega))) (⟨(by unfold fx_move; (repeat' split) <;> first | rfl | omega), fun s j hs hj => (uI_o (by omega)).trans (if_neg (fun h => absurd h.1 (by unfold fx_move; (repeat' split) <;> omega))).symm⟩)⟩
    ·
      refine ⟨fun c => absurd (show ((0 : Int) = 0) from by decide) c, fun _ => ?_⟩
      refine ⟨⟨_, rfl, (by decide)⟩, ?_⟩
      refine s_X12_finding hF (v := (-1000001)) (by decide) ?_
      exact ⟨rfl, fun hv hA' => hQ _ _ (Rg.u hR (Pr_f rfl)) hA' (hv _ rfl) (fun ka ja hk => (uI_o (show ¬ (ka = 238 ∧ ja = 1) from by first | (intro e; obtain ⟨rfl, rfl⟩ := e; exact hk (by decide)) | omega))) (⟨(by unfold fx_move; (repeat' split) <;> first | rfl | omega), fun s j hs hj => (uI_o (by omega)).trans (if_neg (fun h => absurd h.1 (by unfold fx_move; (repeat' split) <;> omega))).symm⟩)⟩
  ·
    refine ⟨fun _ => ?_, fun c => absurd (show ((0 : Int) = 0) from by decide) c⟩
    refine ⟨⟨_, rfl, (by decide)⟩, ?_⟩
    refine s_X12_finding hF (v := (-1000001)) (by decide) ?_
    exact ⟨rfl, fun hv hA' => hQ _ _ (Rg.u hR (Pr_f rfl)) hA' (hv _ rfl) (fun ka ja hk => (uI_o (show ¬ (ka = 238 ∧ ja = 1) from by first | (intro e; obtain ⟨rfl, rfl⟩ := e; exact hk (by decide)) | omega))) (⟨(by unfold fx_move; (repeat' split) <;> first | rfl | omega), fun s j hs hj => (uI_o (by omega)).trans (if_neg (fun h => absurd h.1 (by unfold fx_move; (repeat' split) <;> omega))).symm⟩)⟩
end CO
