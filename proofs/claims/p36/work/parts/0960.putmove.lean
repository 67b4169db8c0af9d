/-! put, move, sheet: the rows' widths and lengths. Own work (scripts laid by wip/pm/gen34.py). -/
section PM
variable {G : pG} {d : Nat} {F : pF} {I : pI} {Q : Option pV → pF → pI → Prop}
def fx_move (s i o j n b1 l1 b2 l2 : Int) : Int := if ¬ (0 ≤ s ∧ s ≤ 3) ∨ ¬ (0 ≤ o ∧ o ≤ 3) then -1000001 else if b1 = 0 ∨ b2 = 0 then -1000002 else if b1 ≠ b2 then -1000005 else if n < 0 ∨ i < 0 ∨ j < 0 ∨ l1 < i + n ∨ l2 < j + n then -1000001 else n
abbrev VS (s b n : Int) : Prop := (0 ≤ s ∧ s ≤ 3) ∧ (b = 0 ∨ ((b = 8 ∨ b = 16 ∨ b = 32) ∧ 0 ≤ n ∧ n ≤ 24))
/-- widths and lengths of the class's rows and of the reference's -/
def LH (I : pI) : Prop := ∀ s : Nat, s < 4 → I (227 + 2 * s) 0 = I 250 s ∧ I (227 + 2 * s) 1 = I 251 s
theorem LH_of {I : pI} (h : (List.range 4).all (fun s => I (227 + 2 * s) 0 == I 250 s && I (227 + 2 * s) 1 == I 251 s) = true) : LH I := fun s hs => by
  have a := List.all_eq_true.mp h s (List.mem_range.mpr hs)
  simpa using a
theorem LH_f {I J : pI} (h : LH I) (h1 : ∀ s, s < 4 → J (227 + 2 * s) 0 = I (227 + 2 * s) 0 ∧ J (227 + 2 * s) 1 = I (227 + 2 * s) 1) (h2 : ∀ s, s < 4 → J 250 s = I 250 s ∧ J 251 s = I 251 s) : LH J := fun s hs =>
  ⟨(h1 s hs).1.trans ((h s hs).1.trans (h2 s hs).1.symm), (h1 s hs).2.trans ((h s hs).2.trans (h2 s hs).2.symm)⟩
theorem LH_s {I J K : pI} {a b c : Int} (h : LH I) (h1 : ∀ s : Nat, s < 4 → J (227 + 2 * s) 0 = (if VS a b c ∧ (s : Int) = a then b else I (227 + 2 * s) 0) ∧ J (227 + 2 * s) 1 = (if VS a b c ∧ (s : Int) = a then (if b = 0 then 0 else c) else I (227 + 2 * s) 1))
    (h2 : ∀ s : Nat, s < 4 → K 250 s = (if VS a b c ∧ (s : Int) = a then b else J 250 s) ∧ K 251 s = (if VS a b c ∧ (s : Int) = a then (if b = 0 then 0 else c) else J 251 s))
    (h3 : ∀ s, s < 4 → K (227 + 2 * s) 0 = J (227 + 2 * s) 0 ∧ K (227 + 2 * s) 1 = J (227 + 2 * s) 1) (h4 : ∀ s, s < 4 → J 250 s = I 250 s ∧ J 251 s = I 251 s) : LH K := fun s hs => by
  rw [(h3 s hs).1, (h3 s hs).2, (h1 s hs).1, (h1 s hs).2, (h2 s hs).1, (h2 s hs).2, (h4 s hs).1, (h4 s hs).2, (h s hs).1, (h s hs).2]
  exact ⟨rfl, rfl⟩
theorem move_e {I J : pI} {a i b j n r1 r2 : Int} (hK : LH I) (h : ∀ k j, 235 ≤ k → J k j = I k j) (q1 : r1 = fx_move a i b j n (I (227 + 2 * Int.toNat a) 0) (I (227 + 2 * Int.toNat a) 1) (I (227 + 2 * Int.toNat b) 0) (I (227 + 2 * Int.toNat b) 1)) (q2 : r2 = fx_move a i b j n (J 250 (Int.toNat a)) (J 251 (Int.toNat a)) (J 250 (Int.toNat b)) (J 251 (Int.toNat b))) : r1 = r2 := by
  by_cases c : (0 ≤ a ∧ a ≤ 3) ∧ (0 ≤ b ∧ b ≤ 3)
  · have e := hK (Int.toNat a) (by omega)
    have f := hK (Int.toNat b) (by omega)
    rw [q1, q2, e.1, e.2, f.1, f.2, h 250 _ (by decide), h 251 _ (by decide), h 250 _ (by decide), h 251 _ (by decide)]
  · rw [q1, q2]; unfold fx_move; rw [if_pos (by omega), if_pos (by omega)]
theorem c_move2 (hF : FS F) (hR : Rg I) {v0 v1 v2 v3 v4 : Int}  (hQ : ∀ (r : Int) (I' : pI), Rg I' → AR I' → iR r → (∀ k j, ¬ (k = 203 ∨ k = 228 ∨ k = 230 ∨ k = 232 ∨ k = 234) → I' k j = I k j) → (r = fx_move v0 v1 v2 v3 v4 (I (227 + 2 * Int.toNat v0) 0) (I (227 + 2 * Int.toNat v0) 1) (I (227 + 2 * Int.toNat v2) 0) (I (227 + 2 * Int.toNat v2) 1)) → Q (some (vi r)) F I') : CallN G (d + 2) kX11_move [vr 0, vi v0, vi v1, vi v2, vi v3, vi v4] NP F I Q := by
  refine CallN_in (fun hok hA => CallN_out ?_)
  have iv0 : -2147483648 ≤ v0 ∧ v0 < 2147483648 := hok (vi v0) (by simp)
  have iv1 : -2147483648 ≤ v1 ∧ v1 < 2147483648 := hok (vi v1) (by simp)
  have iv2 : -2147483648 ≤ v2 ∧ v2 < 2147483648 := hok (vi v2) (by simp)
  have iv3 : -2147483648 ≤ v3 ∧ v3 < 2147483648 := hok (vi v3) (by simp)
  have iv4 : -2147483648 ≤ v4 ∧ v4 < 2147483648 := hok (vi v4) (by simp)
  refine Call_wp (lv := [some (vr 0), some (vi v0), some (vi v1), some (vi v2), some (vi v3), some (vi v4), none, none]) (by decide) ckX11_move [] rfl rfl ?_
  refine ⟨⟨_, rfl, (by decide)⟩, ?_⟩
  refine s_X11_sheetAt hF (fun (w1 : (0 ≤ v0 ∧ v0 ≤ 3)) => ?_) (fun (w1 : ¬ (0 ≤ v0 ∧ v0 ≤ 3)) => ?_)
  ·
    have hp2 : HP F (227 + 2 * Int.toNat v0) := HP_of hF w1
    refine ⟨⟨_, rfl, (by decide)⟩, ?_⟩
    refine s_X11_sheetAt hF (fun (w3 : (0 ≤ v2 ∧ v2 ≤ 3)) => ?_) (fun (w3 : ¬ (0 ≤ v2 ∧ v2 ≤ 3)) => ?_)
    ·
      have hp4 : HP F (227 + 2 * Int.toNat v2) := HP_of hF w3
      refine ⟨⟨_, hp2.1, (by have := hp2.2.2.1; show _ < 254; omega)⟩, ?_⟩
      refine Call_wp (lv := [some (vr (227 + 2 * Int.toNat v0))]) (by decide) ckX7_isMissing [] rfl rfl ?_
      refine ⟨_, hp2.1, (by have := hp2.2.2.1; show _ < 254; omega), ?_⟩
      have a5 : -2147483648 ≤ (I (227 + 2 * Int.toNat v0) 0) ∧ (I (227 + 2 * Int.toNat v0) 0) < 2147483648 := hA.1 _ _
      refine ⟨fun (c6 : (¬ ((I (227 + 2 * Int.toNat v0) 0) : Int) = 0)) => ?_, fun (c6 : (((I (227 + 2 * Int.toNat v0) 0) : Int) = 0)) => ?_⟩
      ·
        refine ⟨rfl, (by decide), ?_⟩
        refine ⟨fun c => absurd (show ((0 : Int) = 0) from by decide) c, fun _ => ?_⟩
        refine ⟨⟨_, hp4.1, (by have := hp4.2.2.1; show _ < 254; omega)⟩, ?_⟩
        refine Call_wp (lv := [some (vr (227 + 2 * Int.toNat v2))]) (by decide) ckX7_isMissing [] rfl rfl ?_
        refine ⟨_, hp4.1, (by have := hp4.2.2.1; show _ < 254; omega), ?_⟩
        have a7 : -2147483648 ≤ (I (227 + 2 * Int.toNat v2) 0) ∧ (I (227 + 2 * Int.toNat v2) 0) < 2147483648 := hA.1 _ _
        refine ⟨fun (c8 : (¬ ((I (227 + 2 * Int.toNat v2) 0) : Int) = 0)) => ?_, fun (c8 : (((I (227 + 2 * Int.toNat v2) 0) : Int) = 0)) => ?_⟩
        ·
          refine ⟨rfl, (by decide), ?_⟩
          refine ⟨fun _ => ?_, fun c => absurd (show ((0 : Int) = 0) from by decide) c⟩
          refine ⟨_, hp2.1, (by have := hp2.2.2.1; show _ < 254; omega), ?_⟩
          refine ⟨_, hp4.1, (by have := hp4.2.2.1; show _ < 254; omega), ?_⟩
          refine ⟨fun (c9 : (((I (227 + 2 * Int.toNat v0) 0) : Int) = (I (227 + 2 * Int.toNat v2) 0))) => ?_, fun (c9 : (¬ (((I (227 + 2 * Int.toNat v0) 0) : Int) = (I (227 + 2 * Int.toNat v2) 0)))) => ?_⟩
          ·
            refine ⟨⟨_, hp2.1, (by have := hp2.2.2.1; show _ < 254; omega)⟩, ?_⟩
            refine Call_wp (lv := [some (vr (227 + 2 * Int.toNat v0)), some (vi v1), some (vi v4)]) (by decide) ckX7_spans [] rfl rfl ?_
            refine ⟨fun (c10 : ((v1 : Int) < 0)) => ?_, fun (c10 : (¬ ((v1 : Int) < 0))) => ?_⟩
            ·
              refine ⟨rfl, (by decide), ?_⟩
              refine ⟨fun _ => ?_, fun c => absurd (show ((0 : Int) = 0) from by decide) c⟩
              refine ⟨⟨_, rfl, (by decide)⟩, ?_⟩
              refine s_X11_refuse hF (e := 1) (by decide) ?_
              exact ⟨rfl, fun hv hA' => hQ _ _ (Rg.u hR (Pr_f rfl)) hA' (hv _ rfl) (fun ka ja hk => (uI_o (show ¬ (ka = 203 ∧ ja = 1) from by omega))) ((by unfold fx_move; (repeat' split) <;> first | rfl | omega))⟩
            ·
              refine ⟨fun (c11 : ((v4 : Int) < 0)) => ?_, fun (c11 : (¬ ((v4 : Int) < 0))) => ?_⟩
              ·
                refine ⟨rfl, (by decide), ?_⟩
                refine ⟨fun _ => ?_, fun c => absurd (show ((0 : Int) = 0) from by decide) c⟩
                refine ⟨⟨_, rfl, (by decide)⟩, ?_⟩
                refine s_X11_refuse hF (e := 1) (by decide) ?_
                exact ⟨rfl, fun hv hA' => hQ _ _ (Rg.u hR (Pr_f rfl)) hA' (hv _ rfl) (fun ka ja hk => (uI_o (show ¬ (ka = 203 ∧ ja = 1) from by omega))) ((by unfold fx_move; (repeat' split) <;> first | rfl | omega))⟩
              ·
                refine ⟨_, hp2.1, (by have := hp2.2.2.1; show _ < 254; omega), ?_⟩
                have r12 : 0 ≤ (I (227 + 2 * Int.toNat v0) 1) ∧ (I (227 + 2 * Int.toNat v0) 1) ≤ 24 := hR.h hp2.1 (by have := hp2.2.2.1; omega)
                have a13 : -2147483648 ≤ (I (227 + 2 * Int.toNat v0) 1) ∧ (I (227 + 2 * Int.toNat v0) 1) < 2147483648 := hA.1 _ _
                refine ⟨fun (c14 : (((I (227 + 2 * Int.toNat v0) 1) : Int) < v4)) => ?_, fun (c14 : (¬ (((I (227 + 2 * Int.toNat v0) 1) : Int) < v4))) => ?_⟩
                ·
                  refine ⟨rfl, (by decide), ?_⟩
                  refine ⟨fun _ => ?_, fun c => absurd (show ((0 : Int) = 0) from by decide) c⟩
                  refine ⟨⟨_, rfl, (by decide)⟩, ?_⟩
                  refine s_X11_refuse hF (e := 1) (by decide) ?_
                  exact ⟨rfl, fun hv hA' => hQ _ _ (Rg.u hR (Pr_f rfl)) hA' (hv _ rfl) (fun ka ja hk => (uI_o (show ¬ (ka = 203 ∧ ja = 1) from by omega))) ((by unfold fx_move; (repeat' split) <;> first | rfl | omega))⟩
                ·
                  refine ⟨_, hp2.1, (by have := hp2.2.2.1; show _ < 254; omega), ?_⟩
                  have n15 : (wr ((I (227 + 2 * Int.toNat v0) 1) - v4)) = (I (227 + 2 * Int.toNat v0) 1) - v4 := wr_id (show -2147483648 ≤ ((I (227 + 2 * Int.toNat v0) 1) - v4 : Int) ∧ ((I (227 + 2 * Int.toNat v0) 1) - v4 : Int) < 2147483648 from by omega)
                  refine ⟨fun (c16 : (((wr ((I (227 + 2 * Int.toNat v0) 1) - v4)) : Int) < v1)) => ?_, fun (c16 : (¬ (((wr ((I (227 + 2 * Int.toNat v0) 1) - v4)) : Int) < v1))) => ?_⟩
                  ·
                    refine ⟨rfl, (by decide), ?_⟩
                    refine ⟨fun _ => ?_, fun c => absurd (show ((0 : Int) = 0) from by decide) c⟩
                    refine ⟨⟨_, rfl, (by decide)⟩, ?_⟩
                    refine s_X11_refuse hF (e := 1) (by decide) ?_
                    exact ⟨rfl, fun hv hA' => hQ _ _ (Rg.u hR (Pr_f rfl)) hA' (hv _ rfl) (fun ka ja hk => (uI_o (show ¬ (ka = 203 ∧ ja = 1) from by omega))) ((by unfold fx_move; (repeat' split) <;> first | rfl | omega))⟩
                  ·
                    refine ⟨rfl, (by decide), ?_⟩
                    refine ⟨fun c => absurd c (show (¬ ((1 : Int) = 0)) from by decide), fun _ => ?_⟩
                    refine ⟨⟨_, hp4.1, (by have := hp4.2.2.1; show _ < 254; omega)⟩, ?_⟩
                    refine Call_wp (lv := [some (vr (227 + 2 * Int.toNat v2)), some (vi v3), some (vi v4)]) (by decide) ckX7_spans [] rfl rfl ?_
                    refine ⟨fun (c17 : ((v3 : Int) < 0)) => ?_, fun (c17 : (¬ ((v3 : Int) < 0))) => ?_⟩
                    ·
                      refine ⟨rfl, (by decide), ?_⟩
                      refine ⟨fun c => absurd (show ((0 : Int) = 0) from by decide) c, fun _ => ?_⟩
                      refine ⟨⟨_, rfl, (by decide)⟩, ?_⟩
                      refine s_X11_refuse hF (e := 1) (by decide) ?_
                      exact ⟨rfl, fun hv hA' => hQ _ _ (Rg.u hR (Pr_f rfl)) hA' (hv _ rfl) (fun ka ja hk => (uI_o (show ¬ (ka = 203 ∧ ja = 1) from by omega))) ((by unfold fx_move; (repeat' split) <;> first | rfl | omega))⟩
                    ·
                      refine ⟨fun c => absurd c (show (¬ ((v4 : Int) < 0)) from by first | omega | (simp only [wr, wl] at *; omega)), fun _ => ?_⟩
                      refine ⟨_, hp4.1, (by have := hp4.2.2.1; show _ < 254; omega), ?_⟩
                      have r18 : 0 ≤ (I (227 + 2 * Int.toNat v2) 1) ∧ (I (227 + 2 * Int.toNat v2) 1) ≤ 24 := hR.h hp4.1 (by have := hp4.2.2.1; omega)
                      have a19 : -2147483648 ≤ (I (227 + 2 * Int.toNat v2) 1) ∧ (I (227 + 2 * Int.toNat v2) 1) < 2147483648 := hA.1 _ _
                      refine ⟨fun (c20 : (((I (227 + 2 * Int.toNat v2) 1) : Int) < v4)) => ?_, fun (c20 : (¬ (((I (227 + 2 * Int.toNat v2) 1) : Int) < v4))) => ?_⟩
                      ·
                        refine ⟨rfl, (by decide), ?_⟩
                        refine ⟨fun c => absurd (show ((0 : Int) = 0) from by decide) c, fun _ => ?_⟩
                        refine ⟨⟨_, rfl, (by decide)⟩, ?_⟩
                        refine s_X11_refuse hF (e := 1) (by decide) ?_
                        exact ⟨rfl, fun hv hA' => hQ _ _ (Rg.u hR (Pr_f rfl)) hA' (hv _ rfl) (fun ka ja hk => (uI_o (show ¬ (ka = 203 ∧ ja = 1) from by omega))) ((by unfold fx_move; (repeat' split) <;> first | rfl | omega))⟩
                      ·
                        refine ⟨_, hp4.1, (by have := hp4.2.2.1; show _ < 254; omega), ?_⟩
                        have n21 : (wr ((I (227 + 2 * Int.toNat v2) 1) - v4)) = (I (227 + 2 * Int.toNat v2) 1) - v4 := wr_id (show -2147483648 ≤ ((I (227 + 2 * Int.toNat v2) 1) - v4 : Int) ∧ ((I (227 + 2 * Int.toNat v2) 1) - v4 : Int) < 2147483648 from by omega)
                        refine ⟨fun (c22 : (((wr ((I (227 + 2 * Int.toNat v2) 1) - v4)) : Int) < v3)) => ?_, fun (c22 : (¬ (((wr ((I (227 + 2 * Int.toNat v2) 1) - v4)) : Int) < v3))) => ?_⟩
                        ·
                          refine ⟨rfl, (by decide), ?_⟩
                          refine ⟨fun c => absurd (show ((0 : Int) = 0) from by decide) c, fun _ => ?_⟩
                          refine ⟨⟨_, rfl, (by decide)⟩, ?_⟩
                          refine s_X11_refuse hF (e := 1) (by decide) ?_
                          exact ⟨rfl, fun hv hA' => hQ _ _ (Rg.u hR (Pr_f rfl)) hA' (hv _ rfl) (fun ka ja hk => (uI_o (show ¬ (ka = 203 ∧ ja = 1) from by omega))) ((by unfold fx_move; (repeat' split) <;> first | rfl | omega))⟩
                        ·
                          refine ⟨rfl, (by decide), ?_⟩
                          refine ⟨fun _ => ?_, fun c => absurd c (show (¬ (1 : Int) = 0) from by decide)⟩
                          refine ⟨_, hp2.1, (by have := hp2.2.2.1; show _ < 254; omega), ?_⟩
                          refine fun w0 hw0 => ?_; obtain rfl : w0 = some ((227 + 2 * Int.toNat v0) + 1) := hw0.symm.trans hp2.2.2.2
                          refine ⟨_, hp4.1, (by have := hp4.2.2.1; show _ < 254; omega), ?_⟩
                          refine fun w0 hw0 => ?_; obtain rfl : w0 = some ((227 + 2 * Int.toNat v2) + 1) := hw0.symm.trans hp4.2.2.2
                          refine ⟨_, _, _, (by decide), hp2.2.1, hp4.2.1, (by have := hp2.2.2.1; show _ < 254; omega), (by have := hp4.2.2.1; show _ < 254; omega), (by first | omega | (simp only [wr, wl] at *; omega)), (by first | omega | (simp only [wr, wl] at *; omega)), (by first | omega | (simp only [wr, wl] at *; omega)), (by first | omega | (simp only [wr, wl] at *; omega)), (by first | omega | (simp only [wr, wl] at *; omega)), (by decide), (by omega), ?_⟩
                          exact ⟨rfl, fun hv hA' => hQ _ _ (Rg.c hR (fun _ _ => Pr_l hp4.2.1 (by have := hp4.2.2.1; omega) _ _ ⟨Or.inl (by decide), Or.inl (by decide), Or.inl (by decide)⟩)) hA' (hv _ rfl) (fun ka ja hk => (cI_o (show ¬ ka = ((227 + 2 * Int.toNat v2) + 1) from by have := hp4.2.2.1; omega))) ((by unfold fx_move; (repeat' split) <;> first | rfl | omega))⟩
          ·
            refine ⟨⟨_, rfl, (by decide)⟩, ?_⟩
            refine s_X11_refuse hF (e := 5) (by decide) ?_
            exact ⟨rfl, fun hv hA' => hQ _ _ (Rg.u hR (Pr_f rfl)) hA' (hv _ rfl) (fun ka ja hk => (uI_o (show ¬ (ka = 203 ∧ ja = 5) from by omega))) ((by unfold fx_move; (repeat' split) <;> first | rfl | omega))⟩
        ·
          refine ⟨rfl, (by decide), ?_⟩
          refine ⟨fun c => absurd c (show (¬ ((1 : Int) = 0)) from by decide), fun _ => ?_⟩
          refine ⟨⟨_, rfl, (by decide)⟩, ?_⟩
          refine s_X11_refuse hF (e := 2) (by decide) ?_
          exact ⟨rfl, fun hv hA' => hQ _ _ (Rg.u hR (Pr_f rfl)) hA' (hv _ rfl) (fun ka ja hk => (uI_o (show ¬ (ka = 203 ∧ ja = 2) from by omega))) ((by unfold fx_move; (repeat' split) <;> first | rfl | omega))⟩
      ·
        refine ⟨rfl, (by decide), ?_⟩
        refine ⟨fun _ => ?_, fun c => absurd c (show (¬ (1 : Int) = 0) from by decide)⟩
        refine ⟨⟨_, rfl, (by decide)⟩, ?_⟩
        refine s_X11_refuse hF (e := 2) (by decide) ?_
        exact ⟨rfl, fun hv hA' => hQ _ _ (Rg.u hR (Pr_f rfl)) hA' (hv _ rfl) (fun ka ja hk => (uI_o (show ¬ (ka = 203 ∧ ja = 2) from by omega))) ((by unfold fx_move; (repeat' split) <;> first | rfl | omega))⟩
    ·
      refine ⟨⟨_, rfl, (by decide)⟩, ?_⟩
      refine s_X11_refuse hF (e := 1) (by decide) ?_
      exact ⟨rfl, fun hv hA' => hQ _ _ (Rg.u hR (Pr_f rfl)) hA' (hv _ rfl) (fun ka ja hk => (uI_o (show ¬ (ka = 203 ∧ ja = 1) from by omega))) ((by unfold fx_move; (repeat' split) <;> first | rfl | omega))⟩
  ·
    refine ⟨⟨_, rfl, (by decide)⟩, ?_⟩
    refine s_X11_sheetAt hF (fun (w23 : (0 ≤ v2 ∧ v2 ≤ 3)) => ?_) (fun (w23 : ¬ (0 ≤ v2 ∧ v2 ≤ 3)) => ?_)
    ·
      have hp24 : HP F (227 + 2 * Int.toNat v2) := HP_of hF w23
      refine ⟨⟨_, rfl, (by decide)⟩, ?_⟩
      refine s_X11_refuse hF (e := 1) (by decide) ?_
      exact ⟨rfl, fun hv hA' => hQ _ _ (Rg.u hR (Pr_f rfl)) hA' (hv _ rfl) (fun ka ja hk => (uI_o (show ¬ (ka = 203 ∧ ja = 1) from by omega))) ((by unfold fx_move; (repeat' split) <;> first | rfl | omega))⟩
    ·
      refine ⟨⟨_, rfl, (by decide)⟩, ?_⟩
      refine s_X11_refuse hF (e := 1) (by decide) ?_
      exact ⟨rfl, fun hv hA' => hQ _ _ (Rg.u hR (Pr_f rfl)) hA' (hv _ rfl) (fun ka ja hk => (uI_o (show ¬ (ka = 203 ∧ ja = 1) from by omega))) ((by unfold fx_move; (repeat' split) <;> first | rfl | omega))⟩
theorem r_move2_l2 (hF : FS F) (hR : Rg I) {v0 v1 v2 v3 v4 : Int} (h0 : 0 ≤ v0 ∧ v0 ≤ 3) (h2 : 0 ≤ v2 ∧ v2 ≤ 3) (h4 : 0 ≤ v4 ∧ v4 ≤ 24) (h1 : 0 ≤ v1 ∧ v1 + v4 ≤ 24) (h3 : 0 ≤ v3 ∧ v3 + v4 ≤ 24) (hQ : ∀ (r : Int) (I' : pI), Rg I' → (∀ k j, ¬ (k = 238 ∨ k = 252 ∨ k = 253) → I' k j = I k j) → (r = v4) → Q (some (vi r)) F I') : ∀ (mz : Nat) (k : Int) (J : pI), Rg J → (∀ k j, ¬ (k = 238 ∨ k = 252 ∨ k = 253) → J k j = I k j) → ((0 : Int) ≤ k) → ((k : Int) ≤ 24) → (24 - k).toNat < mz → GoN G d kX12_move NP NP 164 [some (vr 235), some (vi v0), some (vi v1), some (vi v2), some (vi v3), some (vi v4), some (vi k)] [] F J Q := by
  intro mz
  induction mz with
  | zero => intro k J hJ hV _ _ h; exact absurd h (Nat.not_lt_zero _)
  | succ mz ih =>
    intro k J hJ hV c100 c101 hm
    refine GoN_in (fun hok hA => ?_)
    have iiv0 : -2147483648 ≤ v0 ∧ v0 < 2147483648 := hok 1 _ rfl
    have iiv1 : -2147483648 ≤ v1 ∧ v1 < 2147483648 := hok 2 _ rfl
    have iiv2 : -2147483648 ≤ v2 ∧ v2 < 2147483648 := hok 3 _ rfl
    have iiv3 : -2147483648 ≤ v3 ∧ v3 < 2147483648 := hok 4 _ rfl
    have iiv4 : -2147483648 ≤ v4 ∧ v4 < 2147483648 := hok 5 _ rfl
    have iik : -2147483648 ≤ k ∧ k < 2147483648 := hok 6 _ rfl
    refine Go_wp (by decide) ckX12_move [164] ?_
    refine ⟨fun (c1 : ((v4 : Int) ≤ k)) => ?_, fun (c1 : (¬ ((v4 : Int) ≤ k))) => ?_⟩
    ·
      exact ⟨rfl, hQ _ _ hJ (fun ka ja hk => (hV ka ja (by omega))) (show v4 = v4 from by first | omega | (simp only [wr, wl] at *; omega))⟩
    ·
      refine ⟨_, rfl, (by decide), ?_⟩
      refine fun w0 hw0 => ?_; obtain rfl : w0 = some 252 := hw0.symm.trans (FS.g hF rfl)
      refine ⟨_, rfl, (by decide), ?_⟩
      refine fun w0 hw0 => ?_; obtain rfl : w0 = some 253 := hw0.symm.trans (FS.g hF rfl)
      refine ⟨_, rfl, (by decide), (show (0 : Int) ≤ k from by first | omega | (simp only [wr, wl] at *; omega)), (show k < (24 : Int) from by first | omega | (simp only [wr, wl] at *; omega)), ?_⟩
      have n2 : (wr (24 * v2)) = 24 * v2 := wr_id (show -2147483648 ≤ (24 * v2 : Int) ∧ (24 * v2 : Int) < 2147483648 from by omega)
      have n3 : (wr ((wr (24 * v2)) + v3)) = (wr (24 * v2)) + v3 := wr_id (show -2147483648 ≤ ((wr (24 * v2)) + v3 : Int) ∧ ((wr (24 * v2)) + v3 : Int) < 2147483648 from by omega)
      have n4 : (wr ((wr ((wr (24 * v2)) + v3)) + k)) = (wr ((wr (24 * v2)) + v3)) + k := wr_id (show -2147483648 ≤ ((wr ((wr (24 * v2)) + v3)) + k : Int) ∧ ((wr ((wr (24 * v2)) + v3)) + k : Int) < 2147483648 from by omega)
      refine ⟨_, rfl, (by decide), (show (0 : Int) ≤ (wr ((wr ((wr (24 * v2)) + v3)) + k)) from by first | omega | (simp only [wr, wl] at *; omega)), (show (wr ((wr ((wr (24 * v2)) + v3)) + k)) < (96 : Int) from by first | omega | (simp only [wr, wl] at *; omega)), ?_⟩
      have n5 : (wr (k + 1)) = k + 1 := wr_id (show -2147483648 ≤ (k + 1 : Int) ∧ (k + 1 : Int) < 2147483648 from by omega)
      exact ih (wr (k + 1)) (uI J 252 (Int.toNat (wr ((wr ((wr (24 * v2)) + v3)) + k))) (J 253 (Int.toNat k))) (Rg.u hJ (Pr_p (k := 252) rfl _ _)) (fun ka ja hk => ((uI_o (show ¬ (ka = 252 ∧ ja = (Int.toNat (wr ((wr ((wr (24 * v2)) + v3)) + k)))) from by omega))).trans ((hV ka ja (by omega)))) (show (0 : Int) ≤ (wr (k + 1)) from by first | omega | (simp only [wr, wl] at *; omega)) (show ((wr (k + 1)) : Int) ≤ 24 from by first | omega | (simp only [wr, wl] at *; omega)) (show (24 - (wr (k + 1))).toNat < mz from by omega)
theorem r_move2_l1 (hF : FS F) (hR : Rg I) {v0 v1 v2 v3 v4 : Int} (h0 : 0 ≤ v0 ∧ v0 ≤ 3) (h2 : 0 ≤ v2 ∧ v2 ≤ 3) (h4 : 0 ≤ v4 ∧ v4 ≤ 24) (h1 : 0 ≤ v1 ∧ v1 + v4 ≤ 24) (h3 : 0 ≤ v3 ∧ v3 + v4 ≤ 24) (hQ : ∀ (r : Int) (I' : pI), Rg I' → (∀ k j, ¬ (k = 238 ∨ k = 252 ∨ k = 253) → I' k j = I k j) → (r = v4) → Q (some (vi r)) F I') : ∀ (mz : Nat) (k : Int) (J : pI), Rg J → (∀ k j, ¬ (k = 238 ∨ k = 252 ∨ k = 253) → J k j = I k j) → ((0 : Int) ≤ k) → ((k : Int) ≤ 24) → (24 - k).toNat < mz → GoN G d kX12_move NP NP 127 [some (vr 235), some (vi v0), some (vi v1), some (vi v2), some (vi v3), some (vi v4), some (vi k)] [] F J Q := by
  intro mz
  induction mz with
  | zero => intro k J hJ hV _ _ h; exact absurd h (Nat.not_lt_zero _)
  | succ mz ih =>
    intro k J hJ hV c100 c101 hm
    refine GoN_in (fun hok hA => ?_)
    have iiv0 : -2147483648 ≤ v0 ∧ v0 < 2147483648 := hok 1 _ rfl
    have iiv1 : -2147483648 ≤ v1 ∧ v1 < 2147483648 := hok 2 _ rfl
    have iiv2 : -2147483648 ≤ v2 ∧ v2 < 2147483648 := hok 3 _ rfl
    have iiv3 : -2147483648 ≤ v3 ∧ v3 < 2147483648 := hok 4 _ rfl
    have iiv4 : -2147483648 ≤ v4 ∧ v4 < 2147483648 := hok 5 _ rfl
    have iik : -2147483648 ≤ k ∧ k < 2147483648 := hok 6 _ rfl
    refine Go_wp (by decide) ckX12_move [127, 164] ?_
    refine ⟨fun (c1 : ((v4 : Int) ≤ k)) => ?_, fun (c1 : (¬ ((v4 : Int) ≤ k))) => ?_⟩
    ·
      refine r_move2_l2 hF hR (by omega) (by omega) (by omega) (by omega) (by omega) hQ _ 0 J hJ (fun ka ja hk => (hV ka ja (by omega))) (show (0 : Int) ≤ (0 : Int) from by first | omega | (simp only [wr, wl] at *; omega)) (show ((0 : Int) : Int) ≤ 24 from by first | omega | (simp only [wr, wl] at *; omega)) (Nat.lt_succ_self _)
    ·
      refine ⟨_, rfl, (by decide), ?_⟩
      refine fun w0 hw0 => ?_; obtain rfl : w0 = some 253 := hw0.symm.trans (FS.g hF rfl)
      refine ⟨_, rfl, (by decide), ?_⟩
      refine fun w0 hw0 => ?_; obtain rfl : w0 = some 252 := hw0.symm.trans (FS.g hF rfl)
      have n2 : (wr (24 * v0)) = 24 * v0 := wr_id (show -2147483648 ≤ (24 * v0 : Int) ∧ (24 * v0 : Int) < 2147483648 from by omega)
      have n3 : (wr ((wr (24 * v0)) + v1)) = (wr (24 * v0)) + v1 := wr_id (show -2147483648 ≤ ((wr (24 * v0)) + v1 : Int) ∧ ((wr (24 * v0)) + v1 : Int) < 2147483648 from by omega)
      have n4 : (wr ((wr ((wr (24 * v0)) + v1)) + k)) = (wr ((wr (24 * v0)) + v1)) + k := wr_id (show -2147483648 ≤ ((wr ((wr (24 * v0)) + v1)) + k : Int) ∧ ((wr ((wr (24 * v0)) + v1)) + k : Int) < 2147483648 from by omega)
      refine ⟨_, rfl, (by decide), (show (0 : Int) ≤ (wr ((wr ((wr (24 * v0)) + v1)) + k)) from by first | omega | (simp only [wr, wl] at *; omega)), (show (wr ((wr ((wr (24 * v0)) + v1)) + k)) < (96 : Int) from by first | omega | (simp only [wr, wl] at *; omega)), ?_⟩
      refine ⟨_, rfl, (by decide), (show (0 : Int) ≤ k from by first | omega | (simp only [wr, wl] at *; omega)), (show k < (24 : Int) from by first | omega | (simp only [wr, wl] at *; omega)), ?_⟩
      have n5 : (wr (k + 1)) = k + 1 := wr_id (show -2147483648 ≤ (k + 1 : Int) ∧ (k + 1 : Int) < 2147483648 from by omega)
      exact ih (wr (k + 1)) (uI J 253 (Int.toNat k) (J 252 (Int.toNat (wr ((wr ((wr (24 * v0)) + v1)) + k))))) (Rg.u hJ (Pr_p (k := 253) rfl _ _)) (fun ka ja hk => ((uI_o (show ¬ (ka = 253 ∧ ja = (Int.toNat k)) from by omega))).trans ((hV ka ja (by omega)))) (show (0 : Int) ≤ (wr (k + 1)) from by first | omega | (simp only [wr, wl] at *; omega)) (show ((wr (k + 1)) : Int) ≤ 24 from by first | omega | (simp only [wr, wl] at *; omega)) (show (24 - (wr (k + 1))).toNat < mz from by omega)
theorem r_move2 (hF : FS F) (hR : Rg I) {v0 v1 v2 v3 v4 : Int}  (hQ : ∀ (r : Int) (I' : pI), Rg I' → AR I' → iR r → (∀ k j, ¬ (k = 238 ∨ k = 252 ∨ k = 253) → I' k j = I k j) → (r = fx_move v0 v1 v2 v3 v4 (I 250 (Int.toNat v0)) (I 251 (Int.toNat v0)) (I 250 (Int.toNat v2)) (I 251 (Int.toNat v2))) → Q (some (vi r)) F I') : CallN G (d + 2) kX12_move [vr 235, vi v0, vi v1, vi v2, vi v3, vi v4] NP F I Q := by
  refine CallN_in (fun hok hA => CallN_out ?_)
  have iv0 : -2147483648 ≤ v0 ∧ v0 < 2147483648 := hok (vi v0) (by simp)
  have iv1 : -2147483648 ≤ v1 ∧ v1 < 2147483648 := hok (vi v1) (by simp)
  have iv2 : -2147483648 ≤ v2 ∧ v2 < 2147483648 := hok (vi v2) (by simp)
  have iv3 : -2147483648 ≤ v3 ∧ v3 < 2147483648 := hok (vi v3) (by simp)
  have iv4 : -2147483648 ≤ v4 ∧ v4 < 2147483648 := hok (vi v4) (by simp)
  refine Call_wp (lv := [some (vr 235), some (vi v0), some (vi v1), some (vi v2), some (vi v3), some (vi v4), none]) (by decide) ckX12_move [127] rfl rfl ?_
  refine s_X12_isSheet (fun (w1 : ((0 : Int) ≤ v0 ∧ (v0 : Int) ≤ 3)) => ?_) (fun (w1 : ¬ ((0 : Int) ≤ v0 ∧ (v0 : Int) ≤ 3)) => ?_)
  ·
    refine ⟨fun c => absurd c (show (¬ ((1 : Int) = 0)) from by decide), fun _ => ?_⟩
    refine s_X12_isSheet (fun (w2 : ((0 : Int) ≤ v2 ∧ (v2 : Int) ≤ 3)) => ?_) (fun (w2 : ¬ ((0 : Int) ≤ v2 ∧ (v2 : Int) ≤ 3)) => ?_)
    ·
      refine ⟨fun _ => ?_, fun c => absurd c (show (¬ (1 : Int) = 0) from by decide)⟩
      refine ⟨_, rfl, (by decide), ?_⟩
      refine fun w0 hw0 => ?_; obtain rfl : w0 = some 250 := hw0.symm.trans (FS.g hF rfl)
      refine ⟨_, rfl, (by decide), (show (0 : Int) ≤ v0 from by first | omega | (simp only [wr, wl] at *; omega)), (show v0 < (4 : Int) from by first | omega | (simp only [wr, wl] at *; omega)), ?_⟩
      have a3 : -2147483648 ≤ (I 250 (Int.toNat v0)) ∧ (I 250 (Int.toNat v0)) < 2147483648 := hA.1 _ _
      refine ⟨fun (c4 : (((I 250 (Int.toNat v0)) : Int) = 0)) => ?_, fun (c4 : (¬ (((I 250 (Int.toNat v0)) : Int) = 0))) => ?_⟩
      ·
        refine ⟨⟨_, rfl, (by decide)⟩, ?_⟩
        refine s_X12_finding hF (v := (-1000002)) (by decide) ?_
        exact ⟨rfl, fun hv hA' => hQ _ _ (Rg.u hR (Pr_f rfl)) hA' (hv _ rfl) (fun ka ja hk => (uI_o (show ¬ (ka = 238 ∧ ja = 2) from by omega))) ((by unfold fx_move; (repeat' split) <;> first | rfl | omega))⟩
      ·
        refine ⟨_, rfl, (by decide), ?_⟩
        refine fun w0 hw0 => ?_; obtain rfl : w0 = some 250 := hw0.symm.trans (FS.g hF rfl)
        refine ⟨_, rfl, (by decide), (show (0 : Int) ≤ v2 from by first | omega | (simp only [wr, wl] at *; omega)), (show v2 < (4 : Int) from by first | omega | (simp only [wr, wl] at *; omega)), ?_⟩
        have a5 : -2147483648 ≤ (I 250 (Int.toNat v2)) ∧ (I 250 (Int.toNat v2)) < 2147483648 := hA.1 _ _
        refine ⟨fun (c6 : (¬ ((I 250 (Int.toNat v2)) : Int) = 0)) => ?_, fun (c6 : (((I 250 (Int.toNat v2)) : Int) = 0)) => ?_⟩
        ·
          refine ⟨_, rfl, (by decide), ?_⟩
          refine fun w0 hw0 => ?_; obtain rfl : w0 = some 250 := hw0.symm.trans (FS.g hF rfl)
          refine ⟨_, rfl, (by decide), (show (0 : Int) ≤ v0 from by first | omega | (simp only [wr, wl] at *; omega)), (show v0 < (4 : Int) from by first | omega | (simp only [wr, wl] at *; omega)), ?_⟩
          refine ⟨_, rfl, (by decide), ?_⟩
          refine fun w0 hw0 => ?_; obtain rfl : w0 = some 250 := hw0.symm.trans (FS.g hF rfl)
          refine ⟨_, rfl, (by decide), (show (0 : Int) ≤ v2 from by first | omega | (simp only [wr, wl] at *; omega)), (show v2 < (4 : Int) from by first | omega | (simp only [wr, wl] at *; omega)), ?_⟩
          refine ⟨fun (c7 : (((I 250 (Int.toNat v0)) : Int) = (I 250 (Int.toNat v2)))) => ?_, fun (c7 : (¬ (((I 250 (Int.toNat v0)) : Int) = (I 250 (Int.toNat v2))))) => ?_⟩
          ·
            refine ⟨fun (c8 : ((v4 : Int) < 0)) => ?_, fun (c8 : (¬ ((v4 : Int) < 0))) => ?_⟩
            ·
              refine ⟨⟨_, rfl, (by decide)⟩, ?_⟩
              refine s_X12_finding hF (v := (-1000001)) (by decide) ?_
              exact ⟨rfl, fun hv hA' => hQ _ _ (Rg.u hR (Pr_f rfl)) hA' (hv _ rfl) (fun ka ja hk => (uI_o (show ¬ (ka = 238 ∧ ja = 1) from by omega))) ((by unfold fx_move; (repeat' split) <;> first | rfl | omega))⟩
            ·
              refine ⟨fun (c9 : ((v1 : Int) < 0)) => ?_, fun (c9 : (¬ ((v1 : Int) < 0))) => ?_⟩
              ·
                refine ⟨⟨_, rfl, (by decide)⟩, ?_⟩
                refine s_X12_finding hF (v := (-1000001)) (by decide) ?_
                exact ⟨rfl, fun hv hA' => hQ _ _ (Rg.u hR (Pr_f rfl)) hA' (hv _ rfl) (fun ka ja hk => (uI_o (show ¬ (ka = 238 ∧ ja = 1) from by omega))) ((by unfold fx_move; (repeat' split) <;> first | rfl | omega))⟩
              ·
                refine ⟨fun (c10 : ((v3 : Int) < 0)) => ?_, fun (c10 : (¬ ((v3 : Int) < 0))) => ?_⟩
                ·
                  refine ⟨⟨_, rfl, (by decide)⟩, ?_⟩
                  refine s_X12_finding hF (v := (-1000001)) (by decide) ?_
                  exact ⟨rfl, fun hv hA' => hQ _ _ (Rg.u hR (Pr_f rfl)) hA' (hv _ rfl) (fun ka ja hk => (uI_o (show ¬ (ka = 238 ∧ ja = 1) from by omega))) ((by unfold fx_move; (repeat' split) <;> first | rfl | omega))⟩
                ·
                  refine ⟨_, rfl, (by decide), ?_⟩
                  refine fun w0 hw0 => ?_; obtain rfl : w0 = some 251 := hw0.symm.trans (FS.g hF rfl)
                  refine ⟨_, rfl, (by decide), (show (0 : Int) ≤ v0 from by first | omega | (simp only [wr, wl] at *; omega)), (show v0 < (4 : Int) from by first | omega | (simp only [wr, wl] at *; omega)), ?_⟩
                  have r11 : 0 ≤ (I 251 (Int.toNat v0)) ∧ (I 251 (Int.toNat v0)) ≤ 24 := hR.s _ (by omega)
                  have n12 : (wl (v1 + v4)) = v1 + v4 := wl_id (show -9223372036854775808 ≤ (v1 + v4 : Int) ∧ (v1 + v4 : Int) < 9223372036854775808 from by omega)
                  have a13 : -2147483648 ≤ (I 251 (Int.toNat v0)) ∧ (I 251 (Int.toNat v0)) < 2147483648 := hA.1 _ _
                  refine ⟨fun c14 => ?_, fun c14 => ?_⟩
                  ·
                    have c14 : (((I 251 (Int.toNat v0)) : Int) < (wl (v1 + v4))) := lcm_gt.1 c14
                    refine ⟨⟨_, rfl, (by decide)⟩, ?_⟩
                    refine s_X12_finding hF (v := (-1000001)) (by decide) ?_
                    exact ⟨rfl, fun hv hA' => hQ _ _ (Rg.u hR (Pr_f rfl)) hA' (hv _ rfl) (fun ka ja hk => (uI_o (show ¬ (ka = 238 ∧ ja = 1) from by omega))) ((by unfold fx_move; (repeat' split) <;> first | rfl | omega))⟩
                  ·
                    have c14 : (¬ (((I 251 (Int.toNat v0)) : Int) < (wl (v1 + v4)))) := fun e => c14 (lcm_gt.2 e)
                    refine ⟨_, rfl, (by decide), ?_⟩
                    refine fun w0 hw0 => ?_; obtain rfl : w0 = some 251 := hw0.symm.trans (FS.g hF rfl)
                    refine ⟨_, rfl, (by decide), (show (0 : Int) ≤ v2 from by first | omega | (simp only [wr, wl] at *; omega)), (show v2 < (4 : Int) from by first | omega | (simp only [wr, wl] at *; omega)), ?_⟩
                    have r15 : 0 ≤ (I 251 (Int.toNat v2)) ∧ (I 251 (Int.toNat v2)) ≤ 24 := hR.s _ (by omega)
                    have n16 : (wl (v3 + v4)) = v3 + v4 := wl_id (show -9223372036854775808 ≤ (v3 + v4 : Int) ∧ (v3 + v4 : Int) < 9223372036854775808 from by omega)
                    have a17 : -2147483648 ≤ (I 251 (Int.toNat v2)) ∧ (I 251 (Int.toNat v2)) < 2147483648 := hA.1 _ _
                    refine ⟨fun c18 => ?_, fun c18 => ?_⟩
                    ·
                      have c18 : (((wl (v3 + v4)) : Int) ≤ (I 251 (Int.toNat v2))) := lcm_le.1 c18
                      refine r_move2_l1 hF hR (by omega) (by omega) (by omega) (by omega) (by omega) (fun r I' g1 g2 g3 hv hA' => hQ _ _ g1 hA' (hv _ rfl) g2 (g3.trans (show v4 = fx_move v0 v1 v2 v3 v4 (I 250 (Int.toNat v0)) (I 251 (Int.toNat v0)) (I 250 (Int.toNat v2)) (I 251 (Int.toNat v2)) from by unfold fx_move; (repeat' split) <;> first | rfl | omega))) _ 0 I hR (fun _ _ _ => rfl) (show (0 : Int) ≤ (0 : Int) from by first | omega | (simp only [wr, wl] at *; omega)) (show ((0 : Int) : Int) ≤ 24 from by first | omega | (simp only [wr, wl] at *; omega)) (Nat.lt_succ_self _)
                    ·
                      have c18 : (¬ (((wl (v3 + v4)) : Int) ≤ (I 251 (Int.toNat v2)))) := fun e => c18 (lcm_le.2 e)
                      refine ⟨⟨_, rfl, (by decide)⟩, ?_⟩
                      refine s_X12_finding hF (v := (-1000001)) (by decide) ?_
                      exact ⟨rfl, fun hv hA' => hQ _ _ (Rg.u hR (Pr_f rfl)) hA' (hv _ rfl) (fun ka ja hk => (uI_o (show ¬ (ka = 238 ∧ ja = 1) from by omega))) ((by unfold fx_move; (repeat' split) <;> first | rfl | omega))⟩
          ·
            refine ⟨⟨_, rfl, (by decide)⟩, ?_⟩
            refine s_X12_finding hF (v := (-1000005)) (by decide) ?_
            exact ⟨rfl, fun hv hA' => hQ _ _ (Rg.u hR (Pr_f rfl)) hA' (hv _ rfl) (fun ka ja hk => (uI_o (show ¬ (ka = 238 ∧ ja = 5) from by omega))) ((by unfold fx_move; (repeat' split) <;> first | rfl | omega))⟩
        ·
          refine ⟨⟨_, rfl, (by decide)⟩, ?_⟩
          refine s_X12_finding hF (v := (-1000002)) (by decide) ?_
          exact ⟨rfl, fun hv hA' => hQ _ _ (Rg.u hR (Pr_f rfl)) hA' (hv _ rfl) (fun ka ja hk => (uI_o (show ¬ (ka = 238 ∧ ja = 2) from by omega))) ((by unfold fx_move; (repeat' split) <;> first | rfl | omega))⟩
    ·
      refine ⟨fun c => absurd (show ((0 : Int) = 0) from by decide) c, fun _ => ?_⟩
      refine ⟨⟨_, rfl, (by decide)⟩, ?_⟩
      refine s_X12_finding hF (v := (-1000001)) (by decide) ?_
      exact ⟨rfl, fun hv hA' => hQ _ _ (Rg.u hR (Pr_f rfl)) hA' (hv _ rfl) (fun ka ja hk => (uI_o (show ¬ (ka = 238 ∧ ja = 1) from by omega))) ((by unfold fx_move; (repeat' split) <;> first | rfl | omega))⟩
  ·
    refine ⟨fun _ => ?_, fun c => absurd (show ((0 : Int) = 0) from by decide) c⟩
    refine ⟨⟨_, rfl, (by decide)⟩, ?_⟩
    refine s_X12_finding hF (v := (-1000001)) (by decide) ?_
    exact ⟨rfl, fun hv hA' => hQ _ _ (Rg.u hR (Pr_f rfl)) hA' (hv _ rfl) (fun ka ja hk => (uI_o (show ¬ (ka = 238 ∧ ja = 1) from by omega))) ((by unfold fx_move; (repeat' split) <;> first | rfl | omega))⟩
theorem c_become2_l (hF : FS F) (hR : Rg I) {v0 v1 : Int} {h : Nat} (hh : HP F h) (hQ : ∀ (I' : pI), Rg I' → (∀ k j, ¬ (k = h ∨ k = h + 1) → I' k j = I k j) → ((I' h 0) = v0) → (v0 = 0 → (I' h 1) = 0) → (¬ v0 = 0 → 0 ≤ v1 → v1 ≤ 24 → (I' h 1) = v1) → Q none F I') : ∀ (mz : Nat) (i : Int) (J : pI), Rg J → (∀ k j, ¬ (k = h ∨ k = h + 1) → J k j = I k j) → ((0 : Int) ≤ i) → ((i : Int) ≤ 24) → ((J h 0) = v0) → (v0 = 0 → (J h 1) = 0) → (¬ v0 = 0 → 0 ≤ v1 → v1 ≤ 24 → (J h 1) = v1) → (24 - i).toNat < mz → GoN G d kX7_become NP NP 29 [some (vr h), some (vi v0), some (vi v1), some (vi i)] [] F J Q := by
  intro mz
  induction mz with
  | zero => intro i J hJ hV _ _ _ _ _ h; exact absurd h (Nat.not_lt_zero _)
  | succ mz ih =>
    intro i J hJ hV c100 c101 c102 c103 c104 hm
    refine GoN_in (fun hok hA => ?_)
    have iiv0 : -2147483648 ≤ v0 ∧ v0 < 2147483648 := hok 1 _ rfl
    have iiv1 : -2147483648 ≤ v1 ∧ v1 < 2147483648 := hok 2 _ rfl
    have iii : -2147483648 ≤ i ∧ i < 2147483648 := hok 3 _ rfl
    have a1 : -2147483648 ≤ (J h 0) ∧ (J h 0) < 2147483648 := hA.1 _ _
    have r2 : 0 ≤ (J h 1) ∧ (J h 1) ≤ 24 := hJ.h hh.1 (by have := hh.2.2.1; omega)
    have a3 : -2147483648 ≤ (J h 1) ∧ (J h 1) < 2147483648 := hA.1 _ _
    refine Go_wp (by decide) ckX7_become [29] ?_
    refine ⟨fun (c4 : ((24 : Int) ≤ i)) => ?_, fun (c4 : (¬ ((24 : Int) ≤ i))) => ?_⟩
    ·
      exact ⟨rfl, hQ _ hJ (fun ka ja hk => (hV ka ja (by omega))) (show (J h 0) = v0 from by first | omega | (simp only [wr, wl] at *; omega)) (show v0 = 0 → (J h 1) = 0 from by first | omega | (simp only [wr, wl] at *; omega)) (show ¬ v0 = 0 → 0 ≤ v1 → v1 ≤ 24 → (J h 1) = v1 from by first | omega | (simp only [wr, wl] at *; omega))⟩
    ·
      refine ⟨_, hh.1, (by have := hh.2.2.1; show _ < 254; omega), ?_⟩
      refine fun w0 hw0 => ?_; obtain rfl : w0 = some (h + 1) := hw0.symm.trans hh.2.2.2
      refine ⟨_, hh.2.1, (by have := hh.2.2.1; show _ < 254; omega), (show (0 : Int) ≤ i from by first | omega | (simp only [wr, wl] at *; omega)), (show i < (24 : Int) from by first | omega | (simp only [wr, wl] at *; omega)), ?_⟩
      have n5 : (wr (i + 1)) = i + 1 := wr_id (show -2147483648 ≤ (i + 1 : Int) ∧ (i + 1 : Int) < 2147483648 from by omega)
      have u6 : ((uI J (h + 1) (Int.toNat i) 0) h 0) = (J h 0) := uI_o (fun e => absurd e.1 (lay_ne hh.1 hh.2.1 (by decide)))
      have u7 : ((uI J (h + 1) (Int.toNat i) 0) h 1) = (J h 1) := uI_o (fun e => absurd e.1 (lay_ne hh.1 hh.2.1 (by decide)))
      exact ih (wr (i + 1)) (uI J (h + 1) (Int.toNat i) 0) (Rg.u hJ (Pr_l hh.2.1 (by have := hh.2.2.1; omega) _ _ ⟨Or.inl (by decide), Or.inl (by decide), Or.inl (by decide)⟩)) (fun ka ja hk => ((uI_o (show ¬ (ka = (h + 1) ∧ ja = (Int.toNat i)) from by have := hh.2.2.1; omega))).trans ((hV ka ja (by omega)))) (show (0 : Int) ≤ (wr (i + 1)) from by first | omega | (simp only [wr, wl] at *; omega)) (show ((wr (i + 1)) : Int) ≤ 24 from by first | omega | (simp only [wr, wl] at *; omega)) (show ((uI J (h + 1) (Int.toNat i) 0) h 0) = v0 from by first | omega | (simp only [wr, wl] at *; omega)) (show v0 = 0 → ((uI J (h + 1) (Int.toNat i) 0) h 1) = 0 from by first | omega | (simp only [wr, wl] at *; omega)) (show ¬ v0 = 0 → 0 ≤ v1 → v1 ≤ 24 → ((uI J (h + 1) (Int.toNat i) 0) h 1) = v1 from by first | omega | (simp only [wr, wl] at *; omega)) (show (24 - (wr (i + 1))).toNat < mz from by omega)
theorem c_become2 (hF : FS F) (hR : Rg I) {v0 v1 : Int} {h : Nat} (hh : HP F h) (hQ : ∀ (I' : pI), Rg I' → AR I' → (∀ k j, ¬ (k = h ∨ k = h + 1) → I' k j = I k j) → ((I' h 0) = v0) → (v0 = 0 → (I' h 1) = 0) → (¬ v0 = 0 → 0 ≤ v1 → v1 ≤ 24 → (I' h 1) = v1) → Q none F I') : CallN G (d + 1) kX7_become [vr h, vi v0, vi v1] NP F I Q := by
  refine CallN_in (fun hok hA => CallN_out ?_)
  have iv0 : -2147483648 ≤ v0 ∧ v0 < 2147483648 := hok (vi v0) (by simp)
  have iv1 : -2147483648 ≤ v1 ∧ v1 < 2147483648 := hok (vi v1) (by simp)
  refine Call_wp (lv := [some (vr h), some (vi v0), some (vi v1), none]) (by decide) ckX7_become [29] rfl rfl ?_
  refine ⟨_, hh.1, (by have := hh.2.2.1; show _ < 254; omega), ?_⟩
  refine ⟨fun (c1 : (¬ (v0 : Int) = 0)) => ?_, fun (c1 : ((v0 : Int) = 0)) => ?_⟩
  ·
    refine j_min (fun w2 h3 h4 h5 => ?_)
    refine j_max (fun w6 h7 h8 h9 => ?_)
    refine ⟨_, hh.1, (by have := hh.2.2.1; show _ < 254; omega), ?_⟩
    have p10 : (0 : Int) ≤ w6 ∧ (w6 : Int) ≤ 24 := by omega
    have u11 : ((uI (uI I h 0 v0) h 1 w6) h 0) = v0 := (uJ_ne (by decide)).trans (uJ_eq)
    have u12 : ((uI (uI I h 0 v0) h 1 w6) h 1) = w6 := uJ_eq
    refine c_become2_l hF hR hh (fun I' g1 g2 g3 g4 g5 hv hA' => hQ _ g1 hA' g2 g3 g4 g5) _ 0 (uI (uI I h 0 v0) h 1 w6) (Rg.u (Rg.u hR (Pr_l hh.1 (by have := hh.2.2.1; omega) _ _ (by decide))) (Pr_h hh.1 (by have := hh.2.2.1; omega) p10)) (fun ka ja hk => ((uI_o (show ¬ (ka = h ∧ ja = 1) from by have := hh.2.2.1; omega))).trans ((uI_o (show ¬ (ka = h ∧ ja = 0) from by have := hh.2.2.1; omega)))) (show (0 : Int) ≤ (0 : Int) from by first | omega | (simp only [wr, wl] at *; omega)) (show ((0 : Int) : Int) ≤ 24 from by first | omega | (simp only [wr, wl] at *; omega)) (show ((uI (uI I h 0 v0) h 1 w6) h 0) = v0 from by first | omega | (simp only [wr, wl] at *; omega)) (show v0 = 0 → ((uI (uI I h 0 v0) h 1 w6) h 1) = 0 from by first | omega | (simp only [wr, wl] at *; omega)) (show ¬ v0 = 0 → 0 ≤ v1 → v1 ≤ 24 → ((uI (uI I h 0 v0) h 1 w6) h 1) = v1 from by first | omega | (simp only [wr, wl] at *; omega)) (Nat.lt_succ_self _)
  ·
    refine ⟨_, hh.1, (by have := hh.2.2.1; show _ < 254; omega), ?_⟩
    have p13 : (0 : Int) ≤ 0 ∧ (0 : Int) ≤ 24 := by decide
    have u14 : ((uI (uI I h 0 v0) h 1 0) h 0) = v0 := (uJ_ne (by decide)).trans (uJ_eq)
    have u15 : ((uI (uI I h 0 v0) h 1 0) h 1) = 0 := uJ_eq
    refine c_become2_l hF hR hh (fun I' g1 g2 g3 g4 g5 hv hA' => hQ _ g1 hA' g2 g3 g4 g5) _ 0 (uI (uI I h 0 v0) h 1 0) (Rg.u (Rg.u hR (Pr_l hh.1 (by have := hh.2.2.1; omega) _ _ (by decide))) (Pr_h hh.1 (by have := hh.2.2.1; omega) p13)) (fun ka ja hk => ((uI_o (show ¬ (ka = h ∧ ja = 1) from by have := hh.2.2.1; omega))).trans ((uI_o (show ¬ (ka = h ∧ ja = 0) from by have := hh.2.2.1; omega)))) (show (0 : Int) ≤ (0 : Int) from by first | omega | (simp only [wr, wl] at *; omega)) (show ((0 : Int) : Int) ≤ 24 from by first | omega | (simp only [wr, wl] at *; omega)) (show ((uI (uI I h 0 v0) h 1 0) h 0) = v0 from by first | omega | (simp only [wr, wl] at *; omega)) (show v0 = 0 → ((uI (uI I h 0 v0) h 1 0) h 1) = 0 from by first | omega | (simp only [wr, wl] at *; omega)) (show ¬ v0 = 0 → 0 ≤ v1 → v1 ≤ 24 → ((uI (uI I h 0 v0) h 1 0) h 1) = v1 from by first | omega | (simp only [wr, wl] at *; omega)) (Nat.lt_succ_self _)
def fx_sheet (s b n : Int) : Int := if ¬ (0 ≤ s ∧ s ≤ 3) ∨ (b ≠ 0 ∧ b ≠ 8 ∧ b ≠ 16 ∧ b ≠ 32) then -1000001 else if b ≠ 0 ∧ n < 0 then -1000003 else if b ≠ 0 ∧ 24 < n then -1000001 else 1
theorem c_sheet3 (hF : FS F) (hR : Rg I) {v0 v1 v2 : Int}  (hQ : ∀ (r : Int) (I' : pI), Rg I' → AR I' → iR r → (∀ k j, ¬ (k = 203 ∨ (227 ≤ k ∧ k < 235)) → I' k j = I k j) → (r = fx_sheet v0 v1 v2 ∧ ∀ s : Nat, s < 4 → I' (227 + 2 * s) 0 = (if VS v0 v1 v2 ∧ (s : Int) = v0 then v1 else I (227 + 2 * s) 0) ∧ I' (227 + 2 * s) 1 = (if VS v0 v1 v2 ∧ (s : Int) = v0 then (if v1 = 0 then 0 else v2) else I (227 + 2 * s) 1)) → Q (some (vi r)) F I') : CallN G (d + 2) kX11_sheet [vr 0, vi v0, vi v1, vi v2] NP F I Q := by
  refine CallN_in (fun hok hA => CallN_out ?_)
  have iv0 : -2147483648 ≤ v0 ∧ v0 < 2147483648 := hok (vi v0) (by simp)
  have iv1 : -2147483648 ≤ v1 ∧ v1 < 2147483648 := hok (vi v1) (by simp)
  have iv2 : -2147483648 ≤ v2 ∧ v2 < 2147483648 := hok (vi v2) (by simp)
  refine Call_wp (lv := [some (vr 0), some (vi v0), some (vi v1), some (vi v2), none]) (by decide) ckX11_sheet [] rfl rfl ?_
  refine ⟨⟨_, rfl, (by decide)⟩, ?_⟩
  refine s_X11_sheetAt hF (fun (w1 : (0 ≤ v0 ∧ v0 ≤ 3)) => ?_) (fun (w1 : ¬ (0 ≤ v0 ∧ v0 ≤ 3)) => ?_)
  ·
    have hp2 : HP F (227 + 2 * Int.toNat v0) := HP_of hF w1
    refine ⟨fun (c3 : ((v1 : Int) = 0)) => ?_, fun (c3 : (¬ ((v1 : Int) = 0))) => ?_⟩
    ·
      refine ⟨fun _ => ?_, fun c => absurd (show ((v1 : Int) = 0) from by first | omega | (simp only [wr, wl] at *; omega)) c⟩
      refine ⟨fun _ => ?_, fun c => absurd (show ((v1 : Int) = 0) from by first | omega | (simp only [wr, wl] at *; omega)) c⟩
      refine ⟨⟨_, hp2.1, (by have := hp2.2.2.1; show _ < 254; omega)⟩, ?_⟩
      refine c_become2 (v0 := v1) (v1 := v2) hF hR hp2 (fun I4 hR5 hA6 hW7 q8 q9 q10 => ?_)
      have q8 : (I4 (227 + 2 * Int.toNat v0) 0) = (v1 : Int) := q8
      have q9 : (v1 : Int) = 0 → (I4 (227 + 2 * Int.toNat v0) 1) = 0 := q9
      have q10 : ¬ (v1 : Int) = 0 → 0 ≤ (v2 : Int) → (v2 : Int) ≤ 24 → (I4 (227 + 2 * Int.toNat v0) 1) = (v2 : Int) := q10
      exact ⟨rfl, fun hv hA' => hQ _ _ hR5 hA' (hv _ rfl) (fun ka ja hk => (hW7 ka ja (by omega))) (⟨by unfold fx_sheet; (repeat' split) <;> first | rfl | omega, fun s hs => (by
                                  by_cases e : (s : Int) = v0
                                  · rw [show 227 + 2 * s = 227 + 2 * Int.toNat v0 from by omega, if_pos ⟨show VS v0 v1 v2 from by unfold VS; omega, e⟩, if_pos ⟨show VS v0 v1 v2 from by unfold VS; omega, e⟩]
                                    exact ⟨q8, by split <;> omega⟩
                                  · rw [if_neg (fun h => e h.2), if_neg (fun h => e h.2)]
                                    exact ⟨hW7 _ _ (by omega), hW7 _ _ (by omega)⟩)⟩)⟩
    ·
      refine ⟨fun (c11 : ((v1 : Int) = 8)) => ?_, fun (c11 : (¬ ((v1 : Int) = 8))) => ?_⟩
      ·
        refine ⟨fun c => absurd c (show (¬ ((v1 : Int) = 0)) from by first | omega | (simp only [wr, wl] at *; omega)), fun _ => ?_⟩
        refine ⟨fun (c12 : ((0 : Int) ≤ v2)) => ?_, fun (c12 : (¬ ((0 : Int) ≤ v2))) => ?_⟩
        ·
          refine ⟨fun c => absurd c (show (¬ ((v1 : Int) = 0)) from by first | omega | (simp only [wr, wl] at *; omega)), fun _ => ?_⟩
          refine ⟨fun (c13 : ((v2 : Int) ≤ 24)) => ?_, fun (c13 : (¬ ((v2 : Int) ≤ 24))) => ?_⟩
          ·
            refine ⟨⟨_, hp2.1, (by have := hp2.2.2.1; show _ < 254; omega)⟩, ?_⟩
            refine c_become2 (v0 := v1) (v1 := v2) hF hR hp2 (fun I14 hR15 hA16 hW17 q18 q19 q20 => ?_)
            have q18 : (I14 (227 + 2 * Int.toNat v0) 0) = (v1 : Int) := q18
            have q19 : (v1 : Int) = 0 → (I14 (227 + 2 * Int.toNat v0) 1) = 0 := q19
            have q20 : ¬ (v1 : Int) = 0 → 0 ≤ (v2 : Int) → (v2 : Int) ≤ 24 → (I14 (227 + 2 * Int.toNat v0) 1) = (v2 : Int) := q20
            exact ⟨rfl, fun hv hA' => hQ _ _ hR15 hA' (hv _ rfl) (fun ka ja hk => (hW17 ka ja (by omega))) (⟨by unfold fx_sheet; (repeat' split) <;> first | rfl | omega, fun s hs => (by
                                  by_cases e : (s : Int) = v0
                                  · rw [show 227 + 2 * s = 227 + 2 * Int.toNat v0 from by omega, if_pos ⟨show VS v0 v1 v2 from by unfold VS; omega, e⟩, if_pos ⟨show VS v0 v1 v2 from by unfold VS; omega, e⟩]
                                    exact ⟨q18, by split <;> omega⟩
                                  · rw [if_neg (fun h => e h.2), if_neg (fun h => e h.2)]
                                    exact ⟨hW17 _ _ (by omega), hW17 _ _ (by omega)⟩)⟩)⟩
          ·
            refine ⟨⟨_, rfl, (by decide)⟩, ?_⟩
            refine s_X11_refuse hF (e := 1) (by decide) ?_
            exact ⟨rfl, fun hv hA' => hQ _ _ (Rg.u hR (Pr_f rfl)) hA' (hv _ rfl) (fun ka ja hk => (uI_o (show ¬ (ka = 203 ∧ ja = 1) from by omega))) (⟨by unfold fx_sheet; (repeat' split) <;> first | rfl | omega, fun s hs => ⟨((uI_o (by omega))).trans (if_neg (fun h => absurd h.1 (by unfold VS; omega))).symm, ((uI_o (by omega))).trans (if_neg (fun h => absurd h.1 (by unfold VS; omega))).symm⟩⟩)⟩
        ·
          refine ⟨⟨_, rfl, (by decide)⟩, ?_⟩
          refine s_X11_refuse hF (e := 3) (by decide) ?_
          exact ⟨rfl, fun hv hA' => hQ _ _ (Rg.u hR (Pr_f rfl)) hA' (hv _ rfl) (fun ka ja hk => (uI_o (show ¬ (ka = 203 ∧ ja = 3) from by omega))) (⟨by unfold fx_sheet; (repeat' split) <;> first | rfl | omega, fun s hs => ⟨((uI_o (by omega))).trans (if_neg (fun h => absurd h.1 (by unfold VS; omega))).symm, ((uI_o (by omega))).trans (if_neg (fun h => absurd h.1 (by unfold VS; omega))).symm⟩⟩)⟩
      ·
        refine ⟨fun (c21 : ((v1 : Int) = 16)) => ?_, fun (c21 : (¬ ((v1 : Int) = 16))) => ?_⟩
        ·
          refine ⟨fun c => absurd c (show (¬ ((v1 : Int) = 0)) from by first | omega | (simp only [wr, wl] at *; omega)), fun _ => ?_⟩
          refine ⟨fun (c22 : ((0 : Int) ≤ v2)) => ?_, fun (c22 : (¬ ((0 : Int) ≤ v2))) => ?_⟩
          ·
            refine ⟨fun c => absurd c (show (¬ ((v1 : Int) = 0)) from by first | omega | (simp only [wr, wl] at *; omega)), fun _ => ?_⟩
            refine ⟨fun (c23 : ((v2 : Int) ≤ 24)) => ?_, fun (c23 : (¬ ((v2 : Int) ≤ 24))) => ?_⟩
            ·
              refine ⟨⟨_, hp2.1, (by have := hp2.2.2.1; show _ < 254; omega)⟩, ?_⟩
              refine c_become2 (v0 := v1) (v1 := v2) hF hR hp2 (fun I24 hR25 hA26 hW27 q28 q29 q30 => ?_)
              have q28 : (I24 (227 + 2 * Int.toNat v0) 0) = (v1 : Int) := q28
              have q29 : (v1 : Int) = 0 → (I24 (227 + 2 * Int.toNat v0) 1) = 0 := q29
              have q30 : ¬ (v1 : Int) = 0 → 0 ≤ (v2 : Int) → (v2 : Int) ≤ 24 → (I24 (227 + 2 * Int.toNat v0) 1) = (v2 : Int) := q30
              exact ⟨rfl, fun hv hA' => hQ _ _ hR25 hA' (hv _ rfl) (fun ka ja hk => (hW27 ka ja (by omega))) (⟨by unfold fx_sheet; (repeat' split) <;> first | rfl | omega, fun s hs => (by
                                  by_cases e : (s : Int) = v0
                                  · rw [show 227 + 2 * s = 227 + 2 * Int.toNat v0 from by omega, if_pos ⟨show VS v0 v1 v2 from by unfold VS; omega, e⟩, if_pos ⟨show VS v0 v1 v2 from by unfold VS; omega, e⟩]
                                    exact ⟨q28, by split <;> omega⟩
                                  · rw [if_neg (fun h => e h.2), if_neg (fun h => e h.2)]
                                    exact ⟨hW27 _ _ (by omega), hW27 _ _ (by omega)⟩)⟩)⟩
            ·
              refine ⟨⟨_, rfl, (by decide)⟩, ?_⟩
              refine s_X11_refuse hF (e := 1) (by decide) ?_
              exact ⟨rfl, fun hv hA' => hQ _ _ (Rg.u hR (Pr_f rfl)) hA' (hv _ rfl) (fun ka ja hk => (uI_o (show ¬ (ka = 203 ∧ ja = 1) from by omega))) (⟨by unfold fx_sheet; (repeat' split) <;> first | rfl | omega, fun s hs => ⟨((uI_o (by omega))).trans (if_neg (fun h => absurd h.1 (by unfold VS; omega))).symm, ((uI_o (by omega))).trans (if_neg (fun h => absurd h.1 (by unfold VS; omega))).symm⟩⟩)⟩
          ·
            refine ⟨⟨_, rfl, (by decide)⟩, ?_⟩
            refine s_X11_refuse hF (e := 3) (by decide) ?_
            exact ⟨rfl, fun hv hA' => hQ _ _ (Rg.u hR (Pr_f rfl)) hA' (hv _ rfl) (fun ka ja hk => (uI_o (show ¬ (ka = 203 ∧ ja = 3) from by omega))) (⟨by unfold fx_sheet; (repeat' split) <;> first | rfl | omega, fun s hs => ⟨((uI_o (by omega))).trans (if_neg (fun h => absurd h.1 (by unfold VS; omega))).symm, ((uI_o (by omega))).trans (if_neg (fun h => absurd h.1 (by unfold VS; omega))).symm⟩⟩)⟩
        ·
          refine ⟨fun (c31 : ((v1 : Int) = 32)) => ?_, fun (c31 : (¬ ((v1 : Int) = 32))) => ?_⟩
          ·
            refine ⟨fun c => absurd c (show (¬ ((v1 : Int) = 0)) from by first | omega | (simp only [wr, wl] at *; omega)), fun _ => ?_⟩
            refine ⟨fun (c32 : ((0 : Int) ≤ v2)) => ?_, fun (c32 : (¬ ((0 : Int) ≤ v2))) => ?_⟩
            ·
              refine ⟨fun c => absurd c (show (¬ ((v1 : Int) = 0)) from by first | omega | (simp only [wr, wl] at *; omega)), fun _ => ?_⟩
              refine ⟨fun (c33 : ((v2 : Int) ≤ 24)) => ?_, fun (c33 : (¬ ((v2 : Int) ≤ 24))) => ?_⟩
              ·
                refine ⟨⟨_, hp2.1, (by have := hp2.2.2.1; show _ < 254; omega)⟩, ?_⟩
                refine c_become2 (v0 := v1) (v1 := v2) hF hR hp2 (fun I34 hR35 hA36 hW37 q38 q39 q40 => ?_)
                have q38 : (I34 (227 + 2 * Int.toNat v0) 0) = (v1 : Int) := q38
                have q39 : (v1 : Int) = 0 → (I34 (227 + 2 * Int.toNat v0) 1) = 0 := q39
                have q40 : ¬ (v1 : Int) = 0 → 0 ≤ (v2 : Int) → (v2 : Int) ≤ 24 → (I34 (227 + 2 * Int.toNat v0) 1) = (v2 : Int) := q40
                exact ⟨rfl, fun hv hA' => hQ _ _ hR35 hA' (hv _ rfl) (fun ka ja hk => (hW37 ka ja (by omega))) (⟨by unfold fx_sheet; (repeat' split) <;> first | rfl | omega, fun s hs => (by
                                  by_cases e : (s : Int) = v0
                                  · rw [show 227 + 2 * s = 227 + 2 * Int.toNat v0 from by omega, if_pos ⟨show VS v0 v1 v2 from by unfold VS; omega, e⟩, if_pos ⟨show VS v0 v1 v2 from by unfold VS; omega, e⟩]
                                    exact ⟨q38, by split <;> omega⟩
                                  · rw [if_neg (fun h => e h.2), if_neg (fun h => e h.2)]
                                    exact ⟨hW37 _ _ (by omega), hW37 _ _ (by omega)⟩)⟩)⟩
              ·
                refine ⟨⟨_, rfl, (by decide)⟩, ?_⟩
                refine s_X11_refuse hF (e := 1) (by decide) ?_
                exact ⟨rfl, fun hv hA' => hQ _ _ (Rg.u hR (Pr_f rfl)) hA' (hv _ rfl) (fun ka ja hk => (uI_o (show ¬ (ka = 203 ∧ ja = 1) from by omega))) (⟨by unfold fx_sheet; (repeat' split) <;> first | rfl | omega, fun s hs => ⟨((uI_o (by omega))).trans (if_neg (fun h => absurd h.1 (by unfold VS; omega))).symm, ((uI_o (by omega))).trans (if_neg (fun h => absurd h.1 (by unfold VS; omega))).symm⟩⟩)⟩
            ·
              refine ⟨⟨_, rfl, (by decide)⟩, ?_⟩
              refine s_X11_refuse hF (e := 3) (by decide) ?_
              exact ⟨rfl, fun hv hA' => hQ _ _ (Rg.u hR (Pr_f rfl)) hA' (hv _ rfl) (fun ka ja hk => (uI_o (show ¬ (ka = 203 ∧ ja = 3) from by omega))) (⟨by unfold fx_sheet; (repeat' split) <;> first | rfl | omega, fun s hs => ⟨((uI_o (by omega))).trans (if_neg (fun h => absurd h.1 (by unfold VS; omega))).symm, ((uI_o (by omega))).trans (if_neg (fun h => absurd h.1 (by unfold VS; omega))).symm⟩⟩)⟩
          ·
            refine ⟨⟨_, rfl, (by decide)⟩, ?_⟩
            refine s_X11_refuse hF (e := 1) (by decide) ?_
            exact ⟨rfl, fun hv hA' => hQ _ _ (Rg.u hR (Pr_f rfl)) hA' (hv _ rfl) (fun ka ja hk => (uI_o (show ¬ (ka = 203 ∧ ja = 1) from by omega))) (⟨by unfold fx_sheet; (repeat' split) <;> first | rfl | omega, fun s hs => ⟨((uI_o (by omega))).trans (if_neg (fun h => absurd h.1 (by unfold VS; omega))).symm, ((uI_o (by omega))).trans (if_neg (fun h => absurd h.1 (by unfold VS; omega))).symm⟩⟩)⟩
  ·
    refine ⟨⟨_, rfl, (by decide)⟩, ?_⟩
    refine s_X11_refuse hF (e := 1) (by decide) ?_
    exact ⟨rfl, fun hv hA' => hQ _ _ (Rg.u hR (Pr_f rfl)) hA' (hv _ rfl) (fun ka ja hk => (uI_o (show ¬ (ka = 203 ∧ ja = 1) from by omega))) (⟨by unfold fx_sheet; (repeat' split) <;> first | rfl | omega, fun s hs => ⟨((uI_o (by omega))).trans (if_neg (fun h => absurd h.1 (by unfold VS; omega))).symm, ((uI_o (by omega))).trans (if_neg (fun h => absurd h.1 (by unfold VS; omega))).symm⟩⟩)⟩
theorem r_sheet3_l (hF : FS F) (hR : Rg I) {v0 v1 v2 : Int} (hs : 0 ≤ v0 ∧ v0 ≤ 3) (hQ : ∀ (r : Int) (I' : pI), Rg I' → (∀ k j, ¬ (k = 252) → I' k j = I k j) → (r = 1) → Q (some (vi r)) F I') : ∀ (mz : Nat) (k : Int) (J : pI), Rg J → (∀ k j, ¬ (k = 252) → J k j = I k j) → ((0 : Int) ≤ k) → ((k : Int) ≤ 24) → (24 - k).toNat < mz → GoN G d kX12_sheet NP NP 93 [some (vr 235), some (vi v0), some (vi v1), some (vi v2), some (vi k)] [] F J Q := by
  intro mz
  induction mz with
  | zero => intro k J hJ hV _ _ h; exact absurd h (Nat.not_lt_zero _)
  | succ mz ih =>
    intro k J hJ hV c100 c101 hm
    refine GoN_in (fun hok hA => ?_)
    have iiv0 : -2147483648 ≤ v0 ∧ v0 < 2147483648 := hok 1 _ rfl
    have iiv1 : -2147483648 ≤ v1 ∧ v1 < 2147483648 := hok 2 _ rfl
    have iiv2 : -2147483648 ≤ v2 ∧ v2 < 2147483648 := hok 3 _ rfl
    have iik : -2147483648 ≤ k ∧ k < 2147483648 := hok 4 _ rfl
    refine Go_wp (by decide) ckX12_sheet [93] ?_
    refine ⟨fun (c1 : ((24 : Int) ≤ k)) => ?_, fun (c1 : (¬ ((24 : Int) ≤ k))) => ?_⟩
    ·
      exact ⟨rfl, hQ _ _ hJ (fun ka ja hk => (hV ka ja (by omega))) (show 1 = 1 from by first | omega | (simp only [wr, wl] at *; omega))⟩
    ·
      refine ⟨_, rfl, (by decide), ?_⟩
      refine fun w0 hw0 => ?_; obtain rfl : w0 = some 252 := hw0.symm.trans (FS.g hF rfl)
      have n2 : (wr (24 * v0)) = 24 * v0 := wr_id (show -2147483648 ≤ (24 * v0 : Int) ∧ (24 * v0 : Int) < 2147483648 from by omega)
      have n3 : (wr ((wr (24 * v0)) + k)) = (wr (24 * v0)) + k := wr_id (show -2147483648 ≤ ((wr (24 * v0)) + k : Int) ∧ ((wr (24 * v0)) + k : Int) < 2147483648 from by omega)
      refine ⟨_, rfl, (by decide), (show (0 : Int) ≤ (wr ((wr (24 * v0)) + k)) from by first | omega | (simp only [wr, wl] at *; omega)), (show (wr ((wr (24 * v0)) + k)) < (96 : Int) from by first | omega | (simp only [wr, wl] at *; omega)), ?_⟩
      have n4 : (wr (k + 1)) = k + 1 := wr_id (show -2147483648 ≤ (k + 1 : Int) ∧ (k + 1 : Int) < 2147483648 from by omega)
      exact ih (wr (k + 1)) (uI J 252 (Int.toNat (wr ((wr (24 * v0)) + k))) 0) (Rg.u hJ (Pr_p (k := 252) rfl _ _)) (fun ka ja hk => ((uI_o (show ¬ (ka = 252 ∧ ja = (Int.toNat (wr ((wr (24 * v0)) + k)))) from by omega))).trans ((hV ka ja (by omega)))) (show (0 : Int) ≤ (wr (k + 1)) from by first | omega | (simp only [wr, wl] at *; omega)) (show ((wr (k + 1)) : Int) ≤ 24 from by first | omega | (simp only [wr, wl] at *; omega)) (show (24 - (wr (k + 1))).toNat < mz from by omega)
theorem r_sheet3 (hF : FS F) (hR : Rg I) {v0 v1 v2 : Int}  (hQ : ∀ (r : Int) (I' : pI), Rg I' → AR I' → iR r → (∀ k j, ¬ (k = 238 ∨ k = 250 ∨ k = 251 ∨ k = 252) → I' k j = I k j) → (r = fx_sheet v0 v1 v2 ∧ ∀ s : Nat, s < 4 → I' 250 s = (if VS v0 v1 v2 ∧ (s : Int) = v0 then v1 else I 250 s) ∧ I' 251 s = (if VS v0 v1 v2 ∧ (s : Int) = v0 then (if v1 = 0 then 0 else v2) else I 251 s)) → Q (some (vi r)) F I') : CallN G (d + 2) kX12_sheet [vr 235, vi v0, vi v1, vi v2] NP F I Q := by
  refine CallN_in (fun hok hA => CallN_out ?_)
  have iv0 : -2147483648 ≤ v0 ∧ v0 < 2147483648 := hok (vi v0) (by simp)
  have iv1 : -2147483648 ≤ v1 ∧ v1 < 2147483648 := hok (vi v1) (by simp)
  have iv2 : -2147483648 ≤ v2 ∧ v2 < 2147483648 := hok (vi v2) (by simp)
  refine Call_wp (lv := [some (vr 235), some (vi v0), some (vi v1), some (vi v2), none]) (by decide) ckX12_sheet [93] rfl rfl ?_
  refine s_X12_isSheet (fun (w1 : ((0 : Int) ≤ v0 ∧ (v0 : Int) ≤ 3)) => ?_) (fun (w1 : ¬ ((0 : Int) ≤ v0 ∧ (v0 : Int) ≤ 3)) => ?_)
  ·
    refine ⟨fun c => absurd c (show (¬ ((1 : Int) = 0)) from by decide), fun _ => ?_⟩
    refine ⟨fun (c2 : ((v1 : Int) = 0)) => ?_, fun (c2 : (¬ ((v1 : Int) = 0))) => ?_⟩
    ·
      refine ⟨fun _ => ?_, fun c => absurd (show ((v1 : Int) = 0) from by first | omega | (simp only [wr, wl] at *; omega)) c⟩
      refine ⟨fun _ => ?_, fun c => absurd (show ((v1 : Int) = 0) from by first | omega | (simp only [wr, wl] at *; omega)) c⟩
      refine ⟨_, rfl, (by decide), ?_⟩
      refine fun w0 hw0 => ?_; obtain rfl : w0 = some 250 := hw0.symm.trans (FS.g hF rfl)
      refine ⟨_, rfl, (by decide), (show (0 : Int) ≤ v0 from by first | omega | (simp only [wr, wl] at *; omega)), (show v0 < (4 : Int) from by first | omega | (simp only [wr, wl] at *; omega)), ?_⟩
      refine ⟨_, rfl, (by decide), ?_⟩
      refine fun w0 hw0 => ?_; obtain rfl : w0 = some 251 := hw0.symm.trans (FS.g hF rfl)
      refine ⟨fun c => absurd (show ((v1 : Int) = 0) from by first | omega | (simp only [wr, wl] at *; omega)) c, fun _ => ?_⟩
      refine ⟨_, rfl, (by decide), (show (0 : Int) ≤ v0 from by first | omega | (simp only [wr, wl] at *; omega)), (show v0 < (4 : Int) from by first | omega | (simp only [wr, wl] at *; omega)), ?_⟩
      have p3 : (0 : Int) ≤ 0 ∧ (0 : Int) ≤ 24 := by omega
      refine r_sheet3_l hF (Rg.u (Rg.u hR (Pr_p (k := 250) rfl _ _)) (Pr_s p3)) (by omega) (fun r I' g1 g2 g3 hv hA' => hQ _ _ g1 hA' (hv _ rfl) (fun ka ja hk => (g2 ka ja (by omega)).trans (((uI_o (show ¬ (ka = 251 ∧ ja = (Int.toNat v0)) from by omega))).trans ((uI_o (show ¬ (ka = 250 ∧ ja = (Int.toNat v0)) from by omega))))) ⟨g3.trans (show (1 : Int) = fx_sheet v0 v1 v2 from by unfold fx_sheet; (repeat' split) <;> first | rfl | omega), fun s hs => (by
                  by_cases e : (s : Int) = v0
                  · have e2 : s = Int.toNat v0 := by omega
                    rw [if_pos ⟨show VS v0 v1 v2 from by unfold VS; omega, e⟩, if_pos ⟨show VS v0 v1 v2 from by unfold VS; omega, e⟩, g2 250 s (by omega), g2 251 s (by omega), e2]
                    exact ⟨(uI_o (fun e => absurd e.1 (by decide))).trans uJ_eq, uJ_eq.trans (by split <;> omega)⟩
                  · rw [if_neg (fun h => e h.2), if_neg (fun h => e h.2), g2 250 s (by omega), g2 251 s (by omega)]
                    exact ⟨(uI_o (fun e => absurd e.1 (by decide))).trans (uJ_ne (by omega)), (uJ_ne (by omega)).trans (uI_o (fun e => absurd e.1 (by decide)))⟩)⟩) _ 0 (uI (uI I 250 (Int.toNat v0) v1) 251 (Int.toNat v0) 0) (Rg.u (Rg.u hR (Pr_p (k := 250) rfl _ _)) (Pr_s p3)) (fun _ _ _ => rfl) (show (0 : Int) ≤ (0 : Int) from by first | omega | (simp only [wr, wl] at *; omega)) (show ((0 : Int) : Int) ≤ 24 from by first | omega | (simp only [wr, wl] at *; omega)) (Nat.lt_succ_self _)
    ·
      refine ⟨fun (c4 : ((v1 : Int) = 8)) => ?_, fun (c4 : (¬ ((v1 : Int) = 8))) => ?_⟩
      ·
        refine ⟨fun c => absurd c (show (¬ ((v1 : Int) = 0)) from by first | omega | (simp only [wr, wl] at *; omega)), fun _ => ?_⟩
        refine ⟨fun (c5 : ((0 : Int) ≤ v2)) => ?_, fun (c5 : (¬ ((0 : Int) ≤ v2))) => ?_⟩
        ·
          refine ⟨fun c => absurd c (show (¬ ((v1 : Int) = 0)) from by first | omega | (simp only [wr, wl] at *; omega)), fun _ => ?_⟩
          refine ⟨fun (c6 : ((v2 : Int) ≤ 24)) => ?_, fun (c6 : (¬ ((v2 : Int) ≤ 24))) => ?_⟩
          ·
            refine ⟨_, rfl, (by decide), ?_⟩
            refine fun w0 hw0 => ?_; obtain rfl : w0 = some 250 := hw0.symm.trans (FS.g hF rfl)
            refine ⟨_, rfl, (by decide), (show (0 : Int) ≤ v0 from by first | omega | (simp only [wr, wl] at *; omega)), (show v0 < (4 : Int) from by first | omega | (simp only [wr, wl] at *; omega)), ?_⟩
            refine ⟨_, rfl, (by decide), ?_⟩
            refine fun w0 hw0 => ?_; obtain rfl : w0 = some 251 := hw0.symm.trans (FS.g hF rfl)
            refine ⟨fun _ => ?_, fun c => absurd c (show (¬ (v1 : Int) = 0) from by first | omega | (simp only [wr, wl] at *; omega))⟩
            refine ⟨_, rfl, (by decide), (show (0 : Int) ≤ v0 from by first | omega | (simp only [wr, wl] at *; omega)), (show v0 < (4 : Int) from by first | omega | (simp only [wr, wl] at *; omega)), ?_⟩
            have p7 : (0 : Int) ≤ v2 ∧ (v2 : Int) ≤ 24 := by omega
            refine r_sheet3_l hF (Rg.u (Rg.u hR (Pr_p (k := 250) rfl _ _)) (Pr_s p7)) (by omega) (fun r I' g1 g2 g3 hv hA' => hQ _ _ g1 hA' (hv _ rfl) (fun ka ja hk => (g2 ka ja (by omega)).trans (((uI_o (show ¬ (ka = 251 ∧ ja = (Int.toNat v0)) from by omega))).trans ((uI_o (show ¬ (ka = 250 ∧ ja = (Int.toNat v0)) from by omega))))) ⟨g3.trans (show (1 : Int) = fx_sheet v0 v1 v2 from by unfold fx_sheet; (repeat' split) <;> first | rfl | omega), fun s hs => (by
                  by_cases e : (s : Int) = v0
                  · have e2 : s = Int.toNat v0 := by omega
                    rw [if_pos ⟨show VS v0 v1 v2 from by unfold VS; omega, e⟩, if_pos ⟨show VS v0 v1 v2 from by unfold VS; omega, e⟩, g2 250 s (by omega), g2 251 s (by omega), e2]
                    exact ⟨(uI_o (fun e => absurd e.1 (by decide))).trans uJ_eq, uJ_eq.trans (by split <;> omega)⟩
                  · rw [if_neg (fun h => e h.2), if_neg (fun h => e h.2), g2 250 s (by omega), g2 251 s (by omega)]
                    exact ⟨(uI_o (fun e => absurd e.1 (by decide))).trans (uJ_ne (by omega)), (uJ_ne (by omega)).trans (uI_o (fun e => absurd e.1 (by decide)))⟩)⟩) _ 0 (uI (uI I 250 (Int.toNat v0) v1) 251 (Int.toNat v0) v2) (Rg.u (Rg.u hR (Pr_p (k := 250) rfl _ _)) (Pr_s p7)) (fun _ _ _ => rfl) (show (0 : Int) ≤ (0 : Int) from by first | omega | (simp only [wr, wl] at *; omega)) (show ((0 : Int) : Int) ≤ 24 from by first | omega | (simp only [wr, wl] at *; omega)) (Nat.lt_succ_self _)
          ·
            refine ⟨⟨_, rfl, (by decide)⟩, ?_⟩
            refine s_X12_finding hF (v := (-1000001)) (by decide) ?_
            exact ⟨rfl, fun hv hA' => hQ _ _ (Rg.u hR (Pr_f rfl)) hA' (hv _ rfl) (fun ka ja hk => (uI_o (show ¬ (ka = 238 ∧ ja = 1) from by omega))) (⟨by unfold fx_sheet; (repeat' split) <;> first | rfl | omega, fun s hs => ⟨((uI_o (by omega))).trans (if_neg (fun h => absurd h.1 (by unfold VS; omega))).symm, ((uI_o (by omega))).trans (if_neg (fun h => absurd h.1 (by unfold VS; omega))).symm⟩⟩)⟩
        ·
          refine ⟨⟨_, rfl, (by decide)⟩, ?_⟩
          refine s_X12_finding hF (v := (-1000003)) (by decide) ?_
          exact ⟨rfl, fun hv hA' => hQ _ _ (Rg.u hR (Pr_f rfl)) hA' (hv _ rfl) (fun ka ja hk => (uI_o (show ¬ (ka = 238 ∧ ja = 3) from by omega))) (⟨by unfold fx_sheet; (repeat' split) <;> first | rfl | omega, fun s hs => ⟨((uI_o (by omega))).trans (if_neg (fun h => absurd h.1 (by unfold VS; omega))).symm, ((uI_o (by omega))).trans (if_neg (fun h => absurd h.1 (by unfold VS; omega))).symm⟩⟩)⟩
      ·
        refine ⟨fun (c8 : ((v1 : Int) = 16)) => ?_, fun (c8 : (¬ ((v1 : Int) = 16))) => ?_⟩
        ·
          refine ⟨fun c => absurd c (show (¬ ((v1 : Int) = 0)) from by first | omega | (simp only [wr, wl] at *; omega)), fun _ => ?_⟩
          refine ⟨fun (c9 : ((0 : Int) ≤ v2)) => ?_, fun (c9 : (¬ ((0 : Int) ≤ v2))) => ?_⟩
          ·
            refine ⟨fun c => absurd c (show (¬ ((v1 : Int) = 0)) from by first | omega | (simp only [wr, wl] at *; omega)), fun _ => ?_⟩
            refine ⟨fun (c10 : ((v2 : Int) ≤ 24)) => ?_, fun (c10 : (¬ ((v2 : Int) ≤ 24))) => ?_⟩
            ·
              refine ⟨_, rfl, (by decide), ?_⟩
              refine fun w0 hw0 => ?_; obtain rfl : w0 = some 250 := hw0.symm.trans (FS.g hF rfl)
              refine ⟨_, rfl, (by decide), (show (0 : Int) ≤ v0 from by first | omega | (simp only [wr, wl] at *; omega)), (show v0 < (4 : Int) from by first | omega | (simp only [wr, wl] at *; omega)), ?_⟩
              refine ⟨_, rfl, (by decide), ?_⟩
              refine fun w0 hw0 => ?_; obtain rfl : w0 = some 251 := hw0.symm.trans (FS.g hF rfl)
              refine ⟨fun _ => ?_, fun c => absurd c (show (¬ (v1 : Int) = 0) from by first | omega | (simp only [wr, wl] at *; omega))⟩
              refine ⟨_, rfl, (by decide), (show (0 : Int) ≤ v0 from by first | omega | (simp only [wr, wl] at *; omega)), (show v0 < (4 : Int) from by first | omega | (simp only [wr, wl] at *; omega)), ?_⟩
              have p11 : (0 : Int) ≤ v2 ∧ (v2 : Int) ≤ 24 := by omega
              refine r_sheet3_l hF (Rg.u (Rg.u hR (Pr_p (k := 250) rfl _ _)) (Pr_s p11)) (by omega) (fun r I' g1 g2 g3 hv hA' => hQ _ _ g1 hA' (hv _ rfl) (fun ka ja hk => (g2 ka ja (by omega)).trans (((uI_o (show ¬ (ka = 251 ∧ ja = (Int.toNat v0)) from by omega))).trans ((uI_o (show ¬ (ka = 250 ∧ ja = (Int.toNat v0)) from by omega))))) ⟨g3.trans (show (1 : Int) = fx_sheet v0 v1 v2 from by unfold fx_sheet; (repeat' split) <;> first | rfl | omega), fun s hs => (by
                  by_cases e : (s : Int) = v0
                  · have e2 : s = Int.toNat v0 := by omega
                    rw [if_pos ⟨show VS v0 v1 v2 from by unfold VS; omega, e⟩, if_pos ⟨show VS v0 v1 v2 from by unfold VS; omega, e⟩, g2 250 s (by omega), g2 251 s (by omega), e2]
                    exact ⟨(uI_o (fun e => absurd e.1 (by decide))).trans uJ_eq, uJ_eq.trans (by split <;> omega)⟩
                  · rw [if_neg (fun h => e h.2), if_neg (fun h => e h.2), g2 250 s (by omega), g2 251 s (by omega)]
                    exact ⟨(uI_o (fun e => absurd e.1 (by decide))).trans (uJ_ne (by omega)), (uJ_ne (by omega)).trans (uI_o (fun e => absurd e.1 (by decide)))⟩)⟩) _ 0 (uI (uI I 250 (Int.toNat v0) v1) 251 (Int.toNat v0) v2) (Rg.u (Rg.u hR (Pr_p (k := 250) rfl _ _)) (Pr_s p11)) (fun _ _ _ => rfl) (show (0 : Int) ≤ (0 : Int) from by first | omega | (simp only [wr, wl] at *; omega)) (show ((0 : Int) : Int) ≤ 24 from by first | omega | (simp only [wr, wl] at *; omega)) (Nat.lt_succ_self _)
            ·
              refine ⟨⟨_, rfl, (by decide)⟩, ?_⟩
              refine s_X12_finding hF (v := (-1000001)) (by decide) ?_
              exact ⟨rfl, fun hv hA' => hQ _ _ (Rg.u hR (Pr_f rfl)) hA' (hv _ rfl) (fun ka ja hk => (uI_o (show ¬ (ka = 238 ∧ ja = 1) from by omega))) (⟨by unfold fx_sheet; (repeat' split) <;> first | rfl | omega, fun s hs => ⟨((uI_o (by omega))).trans (if_neg (fun h => absurd h.1 (by unfold VS; omega))).symm, ((uI_o (by omega))).trans (if_neg (fun h => absurd h.1 (by unfold VS; omega))).symm⟩⟩)⟩
          ·
            refine ⟨⟨_, rfl, (by decide)⟩, ?_⟩
            refine s_X12_finding hF (v := (-1000003)) (by decide) ?_
            exact ⟨rfl, fun hv hA' => hQ _ _ (Rg.u hR (Pr_f rfl)) hA' (hv _ rfl) (fun ka ja hk => (uI_o (show ¬ (ka = 238 ∧ ja = 3) from by omega))) (⟨by unfold fx_sheet; (repeat' split) <;> first | rfl | omega, fun s hs => ⟨((uI_o (by omega))).trans (if_neg (fun h => absurd h.1 (by unfold VS; omega))).symm, ((uI_o (by omega))).trans (if_neg (fun h => absurd h.1 (by unfold VS; omega))).symm⟩⟩)⟩
        ·
          refine ⟨fun (c12 : ((v1 : Int) = 32)) => ?_, fun (c12 : (¬ ((v1 : Int) = 32))) => ?_⟩
          ·
            refine ⟨fun c => absurd c (show (¬ ((v1 : Int) = 0)) from by first | omega | (simp only [wr, wl] at *; omega)), fun _ => ?_⟩
            refine ⟨fun (c13 : ((0 : Int) ≤ v2)) => ?_, fun (c13 : (¬ ((0 : Int) ≤ v2))) => ?_⟩
            ·
              refine ⟨fun c => absurd c (show (¬ ((v1 : Int) = 0)) from by first | omega | (simp only [wr, wl] at *; omega)), fun _ => ?_⟩
              refine ⟨fun (c14 : ((v2 : Int) ≤ 24)) => ?_, fun (c14 : (¬ ((v2 : Int) ≤ 24))) => ?_⟩
              ·
                refine ⟨_, rfl, (by decide), ?_⟩
                refine fun w0 hw0 => ?_; obtain rfl : w0 = some 250 := hw0.symm.trans (FS.g hF rfl)
                refine ⟨_, rfl, (by decide), (show (0 : Int) ≤ v0 from by first | omega | (simp only [wr, wl] at *; omega)), (show v0 < (4 : Int) from by first | omega | (simp only [wr, wl] at *; omega)), ?_⟩
                refine ⟨_, rfl, (by decide), ?_⟩
                refine fun w0 hw0 => ?_; obtain rfl : w0 = some 251 := hw0.symm.trans (FS.g hF rfl)
                refine ⟨fun _ => ?_, fun c => absurd c (show (¬ (v1 : Int) = 0) from by first | omega | (simp only [wr, wl] at *; omega))⟩
                refine ⟨_, rfl, (by decide), (show (0 : Int) ≤ v0 from by first | omega | (simp only [wr, wl] at *; omega)), (show v0 < (4 : Int) from by first | omega | (simp only [wr, wl] at *; omega)), ?_⟩
                have p15 : (0 : Int) ≤ v2 ∧ (v2 : Int) ≤ 24 := by omega
                refine r_sheet3_l hF (Rg.u (Rg.u hR (Pr_p (k := 250) rfl _ _)) (Pr_s p15)) (by omega) (fun r I' g1 g2 g3 hv hA' => hQ _ _ g1 hA' (hv _ rfl) (fun ka ja hk => (g2 ka ja (by omega)).trans (((uI_o (show ¬ (ka = 251 ∧ ja = (Int.toNat v0)) from by omega))).trans ((uI_o (show ¬ (ka = 250 ∧ ja = (Int.toNat v0)) from by omega))))) ⟨g3.trans (show (1 : Int) = fx_sheet v0 v1 v2 from by unfold fx_sheet; (repeat' split) <;> first | rfl | omega), fun s hs => (by
                  by_cases e : (s : Int) = v0
                  · have e2 : s = Int.toNat v0 := by omega
                    rw [if_pos ⟨show VS v0 v1 v2 from by unfold VS; omega, e⟩, if_pos ⟨show VS v0 v1 v2 from by unfold VS; omega, e⟩, g2 250 s (by omega), g2 251 s (by omega), e2]
                    exact ⟨(uI_o (fun e => absurd e.1 (by decide))).trans uJ_eq, uJ_eq.trans (by split <;> omega)⟩
                  · rw [if_neg (fun h => e h.2), if_neg (fun h => e h.2), g2 250 s (by omega), g2 251 s (by omega)]
                    exact ⟨(uI_o (fun e => absurd e.1 (by decide))).trans (uJ_ne (by omega)), (uJ_ne (by omega)).trans (uI_o (fun e => absurd e.1 (by decide)))⟩)⟩) _ 0 (uI (uI I 250 (Int.toNat v0) v1) 251 (Int.toNat v0) v2) (Rg.u (Rg.u hR (Pr_p (k := 250) rfl _ _)) (Pr_s p15)) (fun _ _ _ => rfl) (show (0 : Int) ≤ (0 : Int) from by first | omega | (simp only [wr, wl] at *; omega)) (show ((0 : Int) : Int) ≤ 24 from by first | omega | (simp only [wr, wl] at *; omega)) (Nat.lt_succ_self _)
              ·
                refine ⟨⟨_, rfl, (by decide)⟩, ?_⟩
                refine s_X12_finding hF (v := (-1000001)) (by decide) ?_
                exact ⟨rfl, fun hv hA' => hQ _ _ (Rg.u hR (Pr_f rfl)) hA' (hv _ rfl) (fun ka ja hk => (uI_o (show ¬ (ka = 238 ∧ ja = 1) from by omega))) (⟨by unfold fx_sheet; (repeat' split) <;> first | rfl | omega, fun s hs => ⟨((uI_o (by omega))).trans (if_neg (fun h => absurd h.1 (by unfold VS; omega))).symm, ((uI_o (by omega))).trans (if_neg (fun h => absurd h.1 (by unfold VS; omega))).symm⟩⟩)⟩
            ·
              refine ⟨⟨_, rfl, (by decide)⟩, ?_⟩
              refine s_X12_finding hF (v := (-1000003)) (by decide) ?_
              exact ⟨rfl, fun hv hA' => hQ _ _ (Rg.u hR (Pr_f rfl)) hA' (hv _ rfl) (fun ka ja hk => (uI_o (show ¬ (ka = 238 ∧ ja = 3) from by omega))) (⟨by unfold fx_sheet; (repeat' split) <;> first | rfl | omega, fun s hs => ⟨((uI_o (by omega))).trans (if_neg (fun h => absurd h.1 (by unfold VS; omega))).symm, ((uI_o (by omega))).trans (if_neg (fun h => absurd h.1 (by unfold VS; omega))).symm⟩⟩)⟩
          ·
            refine ⟨⟨_, rfl, (by decide)⟩, ?_⟩
            refine s_X12_finding hF (v := (-1000001)) (by decide) ?_
            exact ⟨rfl, fun hv hA' => hQ _ _ (Rg.u hR (Pr_f rfl)) hA' (hv _ rfl) (fun ka ja hk => (uI_o (show ¬ (ka = 238 ∧ ja = 1) from by omega))) (⟨by unfold fx_sheet; (repeat' split) <;> first | rfl | omega, fun s hs => ⟨((uI_o (by omega))).trans (if_neg (fun h => absurd h.1 (by unfold VS; omega))).symm, ((uI_o (by omega))).trans (if_neg (fun h => absurd h.1 (by unfold VS; omega))).symm⟩⟩)⟩
  ·
    refine ⟨fun _ => ?_, fun c => absurd (show ((0 : Int) = 0) from by decide) c⟩
    refine ⟨⟨_, rfl, (by decide)⟩, ?_⟩
    refine s_X12_finding hF (v := (-1000001)) (by decide) ?_
    exact ⟨rfl, fun hv hA' => hQ _ _ (Rg.u hR (Pr_f rfl)) hA' (hv _ rfl) (fun ka ja hk => (uI_o (show ¬ (ka = 238 ∧ ja = 1) from by omega))) (⟨by unfold fx_sheet; (repeat' split) <;> first | rfl | omega, fun s hs => ⟨((uI_o (by omega))).trans (if_neg (fun h => absurd h.1 (by unfold VS; omega))).symm, ((uI_o (by omega))).trans (if_neg (fun h => absurd h.1 (by unfold VS; omega))).symm⟩⟩)⟩
end PM
