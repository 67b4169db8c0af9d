/-! one call of the class on the fresh object. Own work (scripts laid by wip/pm/gen16.py). -/
section XC
variable {G : pG} {d : Nat} {F : pF} {I : pI} {Q : Option pV → pF → pI → Prop}
theorem lcm_lt {x y : Int} : lcm x y < 0 ↔ x < y := by unfold lcm; (repeat' split) <;> omega
theorem lcm_le {x y : Int} : lcm x y ≤ 0 ↔ x ≤ y := by unfold lcm; (repeat' split) <;> omega
theorem lcm_ge {x y : Int} : 0 ≤ lcm x y ↔ y ≤ x := by unfold lcm; (repeat' split) <;> omega
theorem lcm_gt {x y : Int} : 0 < lcm x y ↔ y < x := by unfold lcm; (repeat' split) <;> omega
theorem lcm_eq {x y : Int} : lcm x y = 0 ↔ x = y := by unfold lcm; (repeat' split) <;> omega
theorem x_piece (hF : FS F) (hX : FX I) {v0 v1 v2 v3 v4 : Int} (rv0 : iR v0) (rv1 : iR v1) (rv2 : iR v2) (rv3 : iR v3) (rv4 : iR v4) (hQ : ∀ F' I', FS F' → MS I I' → Q (some (vi (fx_piece v0 v1 v2 v3 v4))) F' I') : CallN G (d + 12) kX11_piece [vr 0, vi v0, vi v1, vi v2, vi v3, vi v4] NP F I Q := by
  unfold iR at *
  refine Call_wp (lv := [some (vr 0), some (vi v0), some (vi v1), some (vi v2), some (vi v3), some (vi v4), none, none, none]) (by decide) ckX11_piece [] rfl rfl ?_
  refine ⟨⟨_, rfl, (by decide)⟩, ?_⟩
  refine s_X11_sheetAt hF (fun (w1 : (0 ≤ v3 ∧ v3 ≤ 3)) => ?_) (fun (w1 : ¬ (0 ≤ v3 ∧ v3 ≤ 3)) => ?_)
  ·
    refine s_X11_within (fun (w2 : ((0 : Int) ≤ v0 ∧ (v0 : Int) ≤ 5)) => ?_) (fun (w2 : ¬ ((0 : Int) ≤ v0 ∧ (v0 : Int) ≤ 5)) => ?_)
    ·
      refine ⟨fun c => absurd c (show (¬ ((1 : Int) = 0)) from by decide), fun _ => ?_⟩
      refine s_X11_isLot (fun (w3 : ((0 : Int) ≤ v1 ∧ (v1 : Int) ≤ 3)) => ?_) (fun (w3 : ¬ ((0 : Int) ≤ v1 ∧ (v1 : Int) ≤ 3)) => ?_)
      ·
        refine ⟨fun c => absurd c (show (¬ ((1 : Int) = 0)) from by decide), fun _ => ?_⟩
        refine s_X11_within (fun (w4 : ((1 : Int) ≤ v2 ∧ (v2 : Int) ≤ 99)) => ?_) (fun (w4 : ¬ ((1 : Int) ≤ v2 ∧ (v2 : Int) ≤ 99)) => ?_)
        ·
          refine ⟨fun c => absurd c (show (¬ ((1 : Int) = 0)) from by decide), fun _ => ?_⟩
          refine s_X11_within (fun (w5 : ((2 : Int) ≤ v4 ∧ (v4 : Int) ≤ 12)) => ?_) (fun (w5 : ¬ ((2 : Int) ≤ v4 ∧ (v4 : Int) ≤ 12)) => ?_)
          ·
            refine ⟨fun _ => ?_, fun c => absurd c (show (¬ (1 : Int) = 0) from by decide)⟩
            refine ⟨⟨_, (lay_sh (by omega)), (by show _ < 254; omega)⟩, ?_⟩
            refine Call_wp (lv := [some (vr (227 + 2 * Int.toNat v3))]) (by decide) ckX7_isMissing [] rfl rfl ?_
            refine ⟨_, (lay_sh (by omega)), (by show _ < 254; omega), ?_⟩
            have r6 : (I (227 + 2 * Int.toNat v3) 0) = 0 := (FX_sh hX (by omega))
            refine ⟨fun c => absurd (show (((I (227 + 2 * Int.toNat v3) 0) : Int) = 0) from by first | omega | (simp only [wr, wl] at *; omega)) c, fun _ => ?_⟩
            refine ⟨rfl, (by decide), ?_⟩
            refine ⟨fun c => absurd c (show (¬ ((1 : Int) = 0)) from by decide), fun _ => ?_⟩
            refine ⟨⟨_, rfl, (by decide)⟩, ?_⟩
            refine s_X11_refuse hF (e := 2) (by decide) ?_
            have r7 : (I 203 2) = 0 := (hX.i rfl)
            have e : fx_piece v0 v1 v2 v3 v4 = (-1000002) := by (unfold fx_piece; (repeat' split) <;> first | rfl | omega | (simp only [wr, wl] at *; omega))
            rw [e] at hQ
            exact ⟨rfl, hQ _ _ hF (MS.u MS.r (by decide))⟩
          ·
            refine ⟨fun c => absurd (show ((0 : Int) = 0) from by decide) c, fun _ => ?_⟩
            refine ⟨⟨_, rfl, (by decide)⟩, ?_⟩
            refine s_X11_refuse hF (e := 1) (by decide) ?_
            have r8 : (I 203 1) = 0 := (hX.i rfl)
            have e : fx_piece v0 v1 v2 v3 v4 = (-1000001) := by (unfold fx_piece; (repeat' split) <;> first | rfl | omega | (simp only [wr, wl] at *; omega))
            rw [e] at hQ
            exact ⟨rfl, hQ _ _ hF (MS.u MS.r (by decide))⟩
        ·
          refine ⟨fun _ => ?_, fun c => absurd (show ((0 : Int) = 0) from by decide) c⟩
          refine ⟨⟨_, rfl, (by decide)⟩, ?_⟩
          refine s_X11_refuse hF (e := 1) (by decide) ?_
          have r9 : (I 203 1) = 0 := (hX.i rfl)
          have e : fx_piece v0 v1 v2 v3 v4 = (-1000001) := by (unfold fx_piece; (repeat' split) <;> first | rfl | omega | (simp only [wr, wl] at *; omega))
          rw [e] at hQ
          exact ⟨rfl, hQ _ _ hF (MS.u MS.r (by decide))⟩
      ·
        refine ⟨fun _ => ?_, fun c => absurd (show ((0 : Int) = 0) from by decide) c⟩
        refine ⟨⟨_, rfl, (by decide)⟩, ?_⟩
        refine s_X11_refuse hF (e := 1) (by decide) ?_
        have r10 : (I 203 1) = 0 := (hX.i rfl)
        have e : fx_piece v0 v1 v2 v3 v4 = (-1000001) := by (unfold fx_piece; (repeat' split) <;> first | rfl | omega | (simp only [wr, wl] at *; omega))
        rw [e] at hQ
        exact ⟨rfl, hQ _ _ hF (MS.u MS.r (by decide))⟩
    ·
      refine ⟨fun _ => ?_, fun c => absurd (show ((0 : Int) = 0) from by decide) c⟩
      refine ⟨⟨_, rfl, (by decide)⟩, ?_⟩
      refine s_X11_refuse hF (e := 1) (by decide) ?_
      have r11 : (I 203 1) = 0 := (hX.i rfl)
      have e : fx_piece v0 v1 v2 v3 v4 = (-1000001) := by (unfold fx_piece; (repeat' split) <;> first | rfl | omega | (simp only [wr, wl] at *; omega))
      rw [e] at hQ
      exact ⟨rfl, hQ _ _ hF (MS.u MS.r (by decide))⟩
  ·
    refine s_X11_within (fun (w12 : ((0 : Int) ≤ v0 ∧ (v0 : Int) ≤ 5)) => ?_) (fun (w12 : ¬ ((0 : Int) ≤ v0 ∧ (v0 : Int) ≤ 5)) => ?_)
    ·
      refine ⟨fun c => absurd c (show (¬ ((1 : Int) = 0)) from by decide), fun _ => ?_⟩
      refine s_X11_isLot (fun (w13 : ((0 : Int) ≤ v1 ∧ (v1 : Int) ≤ 3)) => ?_) (fun (w13 : ¬ ((0 : Int) ≤ v1 ∧ (v1 : Int) ≤ 3)) => ?_)
      ·
        refine ⟨fun c => absurd c (show (¬ ((1 : Int) = 0)) from by decide), fun _ => ?_⟩
        refine s_X11_within (fun (w14 : ((1 : Int) ≤ v2 ∧ (v2 : Int) ≤ 99)) => ?_) (fun (w14 : ¬ ((1 : Int) ≤ v2 ∧ (v2 : Int) ≤ 99)) => ?_)
        ·
          refine ⟨fun c => absurd c (show (¬ ((1 : Int) = 0)) from by decide), fun _ => ?_⟩
          refine ⟨⟨_, rfl, (by decide)⟩, ?_⟩
          refine s_X11_refuse hF (e := 1) (by decide) ?_
          have r15 : (I 203 1) = 0 := (hX.i rfl)
          have e : fx_piece v0 v1 v2 v3 v4 = (-1000001) := by (unfold fx_piece; (repeat' split) <;> first | rfl | omega | (simp only [wr, wl] at *; omega))
          rw [e] at hQ
          exact ⟨rfl, hQ _ _ hF (MS.u MS.r (by decide))⟩
        ·
          refine ⟨fun _ => ?_, fun c => absurd (show ((0 : Int) = 0) from by decide) c⟩
          refine ⟨⟨_, rfl, (by decide)⟩, ?_⟩
          refine s_X11_refuse hF (e := 1) (by decide) ?_
          have r16 : (I 203 1) = 0 := (hX.i rfl)
          have e : fx_piece v0 v1 v2 v3 v4 = (-1000001) := by (unfold fx_piece; (repeat' split) <;> first | rfl | omega | (simp only [wr, wl] at *; omega))
          rw [e] at hQ
          exact ⟨rfl, hQ _ _ hF (MS.u MS.r (by decide))⟩
      ·
        refine ⟨fun _ => ?_, fun c => absurd (show ((0 : Int) = 0) from by decide) c⟩
        refine ⟨⟨_, rfl, (by decide)⟩, ?_⟩
        refine s_X11_refuse hF (e := 1) (by decide) ?_
        have r17 : (I 203 1) = 0 := (hX.i rfl)
        have e : fx_piece v0 v1 v2 v3 v4 = (-1000001) := by (unfold fx_piece; (repeat' split) <;> first | rfl | omega | (simp only [wr, wl] at *; omega))
        rw [e] at hQ
        exact ⟨rfl, hQ _ _ hF (MS.u MS.r (by decide))⟩
    ·
      refine ⟨fun _ => ?_, fun c => absurd (show ((0 : Int) = 0) from by decide) c⟩
      refine ⟨⟨_, rfl, (by decide)⟩, ?_⟩
      refine s_X11_refuse hF (e := 1) (by decide) ?_
      have r18 : (I 203 1) = 0 := (hX.i rfl)
      have e : fx_piece v0 v1 v2 v3 v4 = (-1000001) := by (unfold fx_piece; (repeat' split) <;> first | rfl | omega | (simp only [wr, wl] at *; omega))
      rw [e] at hQ
      exact ⟨rfl, hQ _ _ hF (MS.u MS.r (by decide))⟩
theorem x_pieceIs (hF : FS F) (hX : FX I) {v0 v1 : Int} (rv0 : iR v0) (rv1 : iR v1) (hQ : ∀ F' I', FS F' → MS I I' → Q (some (vi ((-1000001)))) F' I') : CallN G (d + 12) kX11_pieceIs [vr 0, vi v0, vi v1] NP F I Q := by
  unfold iR at *
  refine Call_wp (lv := [some (vr 0), some (vi v0), some (vi v1), none]) (by decide) ckX11_pieceIs [] rfl rfl ?_
  refine ⟨_, rfl, (by decide), ?_⟩
  refine fun w0 hw0 => ?_; obtain rfl : w0 = some 1 := hw0.symm.trans (FS.g hF rfl)
  refine ⟨⟨_, rfl, (by decide)⟩, ?_⟩
  have r1 : (I 1 1) = 0 := (hX.i rfl)
  refine s_X8_pieceAt hF (S := 1) (Or.inl rfl) (fun hw => absurd hw (show ¬ (0 ≤ v0 ∧ v0 < (I 1 1) ∧ v0 < 14) from by omega)) (fun _ => ?_)
  refine ⟨⟨_, rfl, (by decide)⟩, ?_⟩
  refine s_X11_refuse hF (e := 1) (by decide) ?_
  have r2 : (I 203 1) = 0 := (hX.i rfl)
  have e : (-1000001) = (-1000001) := by (skip; (repeat' split) <;> first | rfl | omega | (simp only [wr, wl] at *; omega))
  rw [e] at hQ
  exact ⟨rfl, hQ _ _ hF (MS.u MS.r (by decide))⟩
theorem x_as (hF : FS F) (hX : FX I) {v0 v1 : Int} (rv0 : iR v0) (rv1 : iR v1) (hQ : ∀ F' I', FS F' → MS I I' → Q (some (vi ((-1000001)))) F' I') : CallN G (d + 12) kX11_as [vr 0, vi v0, vi v1] NP F I Q := by
  unfold iR at *
  refine Call_wp (lv := [some (vr 0), some (vi v0), some (vi v1), none]) (by decide) ckX11_as [] rfl rfl ?_
  refine ⟨_, rfl, (by decide), ?_⟩
  refine fun w0 hw0 => ?_; obtain rfl : w0 = some 1 := hw0.symm.trans (FS.g hF rfl)
  refine ⟨⟨_, rfl, (by decide)⟩, ?_⟩
  have r1 : (I 1 1) = 0 := (hX.i rfl)
  refine s_X8_pieceAt hF (S := 1) (Or.inl rfl) (fun hw => absurd hw (show ¬ (0 ≤ v0 ∧ v0 < (I 1 1) ∧ v0 < 14) from by omega)) (fun _ => ?_)
  refine ⟨⟨_, rfl, (by decide)⟩, ?_⟩
  refine s_X11_refuse hF (e := 1) (by decide) ?_
  have r2 : (I 203 1) = 0 := (hX.i rfl)
  have e : (-1000001) = (-1000001) := by (skip; (repeat' split) <;> first | rfl | omega | (simp only [wr, wl] at *; omega))
  rw [e] at hQ
  exact ⟨rfl, hQ _ _ hF (MS.u MS.r (by decide))⟩
theorem x_answer (hF : FS F) (hX : FX I) {v0 v1 : Int} (rv0 : iR v0) (rv1 : iR v1) (hQ : ∀ F' I', FS F' → MS I I' → Q (some (vi ((-1000001)))) F' I') : CallN G (d + 12) kX11_answer [vr 0, vi v0, vi v1] NP F I Q := by
  unfold iR at *
  refine Call_wp (lv := [some (vr 0), some (vi v0), some (vi v1), none]) (by decide) ckX11_answer [] rfl rfl ?_
  refine ⟨_, rfl, (by decide), ?_⟩
  refine fun w0 hw0 => ?_; obtain rfl : w0 = some 1 := hw0.symm.trans (FS.g hF rfl)
  refine ⟨⟨_, rfl, (by decide)⟩, ?_⟩
  have r1 : (I 1 1) = 0 := (hX.i rfl)
  refine s_X8_pieceAt hF (S := 1) (Or.inl rfl) (fun hw => absurd hw (show ¬ (0 ≤ v0 ∧ v0 < (I 1 1) ∧ v0 < 14) from by omega)) (fun _ => ?_)
  refine ⟨⟨_, rfl, (by decide)⟩, ?_⟩
  refine s_X11_refuse hF (e := 1) (by decide) ?_
  have r2 : (I 203 1) = 0 := (hX.i rfl)
  have e : (-1000001) = (-1000001) := by (skip; (repeat' split) <;> first | rfl | omega | (simp only [wr, wl] at *; omega))
  rw [e] at hQ
  exact ⟨rfl, hQ _ _ hF (MS.u MS.r (by decide))⟩
theorem x_trace (hF : FS F) (hX : FX I) {v0 v1 v2 : Int} (rv0 : iR v0) (rv1 : iR v1) (rv2 : iR v2) (hQ : ∀ F' I', FS F' → MS I I' → Q (some (vi ((-1000001)))) F' I') : CallN G (d + 12) kX11_trace [vr 0, vi v0, vi v1, vi v2] NP F I Q := by
  unfold iR at *
  refine Call_wp (lv := [some (vr 0), some (vi v0), some (vi v1), some (vi v2), none, none, none]) (by decide) ckX11_trace [] rfl rfl ?_
  refine ⟨_, rfl, (by decide), ?_⟩
  refine fun w0 hw0 => ?_; obtain rfl : w0 = some 1 := hw0.symm.trans (FS.g hF rfl)
  refine ⟨⟨_, rfl, (by decide)⟩, ?_⟩
  have r1 : (I 1 1) = 0 := (hX.i rfl)
  refine s_X8_pieceAt hF (S := 1) (Or.inl rfl) (fun hw => absurd hw (show ¬ (0 ≤ v0 ∧ v0 < (I 1 1) ∧ v0 < 14) from by omega)) (fun _ => ?_)
  refine ⟨⟨_, rfl, (by decide)⟩, ?_⟩
  refine s_X11_sheetAt hF (fun (w2 : (0 ≤ v1 ∧ v1 ≤ 3)) => ?_) (fun (w2 : ¬ (0 ≤ v1 ∧ v1 ≤ 3)) => ?_)
  ·
    refine ⟨⟨_, rfl, (by decide)⟩, ?_⟩
    refine s_X11_refuse hF (e := 1) (by decide) ?_
    have r3 : (I 203 1) = 0 := (hX.i rfl)
    have e : (-1000001) = (-1000001) := by (skip; (repeat' split) <;> first | rfl | omega | (simp only [wr, wl] at *; omega))
    rw [e] at hQ
    exact ⟨rfl, hQ _ _ hF (MS.u MS.r (by decide))⟩
  ·
    refine ⟨⟨_, rfl, (by decide)⟩, ?_⟩
    refine s_X11_refuse hF (e := 1) (by decide) ?_
    have r4 : (I 203 1) = 0 := (hX.i rfl)
    have e : (-1000001) = (-1000001) := by (skip; (repeat' split) <;> first | rfl | omega | (simp only [wr, wl] at *; omega))
    rw [e] at hQ
    exact ⟨rfl, hQ _ _ hF (MS.u MS.r (by decide))⟩
theorem x_reading (hF : FS F) (hX : FX I) {v0 v1 v2 : Int} (rv0 : iR v0) (rv1 : iR v1) (rv2 : iR v2) (hQ : ∀ F' I', FS F' → MS I I' → Q (some (vi ((-1000001)))) F' I') : CallN G (d + 12) kX11_reading [vr 0, vi v0, vi v1, vi v2] NP F I Q := by
  unfold iR at *
  refine Call_wp (lv := [some (vr 0), some (vi v0), some (vi v1), some (vi v2), none]) (by decide) ckX11_reading [] rfl rfl ?_
  refine ⟨_, rfl, (by decide), ?_⟩
  refine fun w0 hw0 => ?_; obtain rfl : w0 = some 1 := hw0.symm.trans (FS.g hF rfl)
  refine ⟨⟨_, rfl, (by decide)⟩, ?_⟩
  have r1 : (I 1 1) = 0 := (hX.i rfl)
  refine s_X8_pieceAt hF (S := 1) (Or.inl rfl) (fun hw => absurd hw (show ¬ (0 ≤ v0 ∧ v0 < (I 1 1) ∧ v0 < 14) from by omega)) (fun _ => ?_)
  refine ⟨⟨_, rfl, (by decide)⟩, ?_⟩
  refine s_X11_refuse hF (e := 1) (by decide) ?_
  have r2 : (I 203 1) = 0 := (hX.i rfl)
  have e : (-1000001) = (-1000001) := by (skip; (repeat' split) <;> first | rfl | omega | (simp only [wr, wl] at *; omega))
  rw [e] at hQ
  exact ⟨rfl, hQ _ _ hF (MS.u MS.r (by decide))⟩
theorem x_limit (hF : FS F) (hX : FX I) {v0 v1 : Int} (rv0 : iR v0) (rv1 : iR v1) (hQ : ∀ F' I', FS F' → MS I I' → Q (some (vi (fx_limit v0 v1))) F' I') : CallN G (d + 12) kX11_limit [vr 0, vi v0, vi v1] NP F I Q := by
  unfold iR at *
  refine Call_wp (lv := [some (vr 0), some (vi v0), some (vi v1), none]) (by decide) ckX11_limit [] rfl rfl ?_
  refine Call_wp (lv := [some (vi v0), some (vi v1)]) (by decide) ckX8_isLimit [] rfl rfl ?_
  refine ⟨fun (c1 : ((v0 : Int) = 0)) => ?_, fun (c1 : (¬ ((v0 : Int) = 0))) => ?_⟩
  ·
    refine s_X11_within (fun (w2 : ((0 : Int) ≤ v1 ∧ (v1 : Int) ≤ 99999)) => ?_) (fun (w2 : ¬ ((0 : Int) ≤ v1 ∧ (v1 : Int) ≤ 99999)) => ?_)
    ·
      refine ⟨rfl, (by decide), ?_⟩
      refine ⟨fun _ => ?_, fun c => absurd c (show (¬ (1 : Int) = 0) from by decide)⟩
      refine ⟨_, rfl, (by decide), ?_⟩
      refine fun w0 hw0 => ?_; obtain rfl : w0 = some 1 := hw0.symm.trans (FS.g hF rfl)
      refine ⟨⟨_, rfl, (by decide)⟩, ?_⟩
      refine Call_wp (lv := [some (vr 1), some (vi v0)]) (by decide) ckX8_limitAt [] rfl rfl ?_
      refine ⟨fun c => absurd c (show (¬ ((v0 : Int) < 0)) from by first | omega | (simp only [wr, wl] at *; omega)), fun _ => ?_⟩
      refine ⟨fun c => absurd c (show (¬ ((5 : Int) ≤ v0)) from by first | omega | (simp only [wr, wl] at *; omega)), fun _ => ?_⟩
      refine ⟨_, rfl, (by decide), ?_⟩
      refine fun w0 hw0 => ?_; obtain rfl : w0 = some 4 := hw0.symm.trans (FS.g hF rfl)
      refine ⟨_, rfl, (by decide), (by first | omega | (simp only [wr, wl] at *; omega)), (by first | omega | (simp only [wr, wl] at *; omega)), ?_⟩
      have r3 : (I 4 (Int.toNat v0)) = 99999 := (FX_r hX 4 99999 0 0 rfl v0 (by omega) (by omega))
      refine ⟨rfl, ?_⟩
      refine ⟨_, rfl, (by decide), ?_⟩
      refine fun w0 hw0 => ?_; obtain rfl : w0 = some 1 := hw0.symm.trans (FS.g hF rfl)
      refine ⟨⟨_, rfl, (by decide)⟩, ?_⟩
      refine Call_wp (lv := [some (vr 1), some (vi v0), some (vi v1)]) (by decide) ckX8_setLimit [] rfl rfl ?_
      refine ⟨fun c => absurd c (show (¬ ((v0 : Int) < 0)) from by first | omega | (simp only [wr, wl] at *; omega)), fun _ => ?_⟩
      refine ⟨fun c => absurd c (show (¬ ((5 : Int) ≤ v0)) from by first | omega | (simp only [wr, wl] at *; omega)), fun _ => ?_⟩
      refine ⟨_, rfl, (by decide), ?_⟩
      refine fun w0 hw0 => ?_; obtain rfl : w0 = some 4 := hw0.symm.trans (FS.g hF rfl)
      refine ⟨_, rfl, (by decide), (by first | omega | (simp only [wr, wl] at *; omega)), (by first | omega | (simp only [wr, wl] at *; omega)), ?_⟩
      refine ⟨rfl, ?_⟩
      have e : fx_limit v0 v1 = (I 4 (Int.toNat v0)) := by (unfold fx_limit most0 lim0; (repeat' split) <;> first | rfl | omega | (simp only [wr, wl] at *; omega))
      rw [e] at hQ
      exact ⟨rfl, hQ _ _ hF (MS.u MS.r (by decide))⟩
    ·
      refine ⟨rfl, (by decide), ?_⟩
      refine ⟨fun c => absurd (show ((0 : Int) = 0) from by decide) c, fun _ => ?_⟩
      refine ⟨⟨_, rfl, (by decide)⟩, ?_⟩
      refine s_X11_refuse hF (e := 1) (by decide) ?_
      have r4 : (I 203 1) = 0 := (hX.i rfl)
      have e : fx_limit v0 v1 = (-1000001) := by (unfold fx_limit most0 lim0; (repeat' split) <;> first | rfl | omega | (simp only [wr, wl] at *; omega))
      rw [e] at hQ
      exact ⟨rfl, hQ _ _ hF (MS.u MS.r (by decide))⟩
  ·
    refine ⟨fun (c5 : ((v0 : Int) = 1)) => ?_, fun (c5 : (¬ ((v0 : Int) = 1))) => ?_⟩
    ·
      refine s_X11_within (fun (w6 : ((0 : Int) ≤ v1 ∧ (v1 : Int) ≤ 999)) => ?_) (fun (w6 : ¬ ((0 : Int) ≤ v1 ∧ (v1 : Int) ≤ 999)) => ?_)
      ·
        refine ⟨rfl, (by decide), ?_⟩
        refine ⟨fun _ => ?_, fun c => absurd c (show (¬ (1 : Int) = 0) from by decide)⟩
        refine ⟨_, rfl, (by decide), ?_⟩
        refine fun w0 hw0 => ?_; obtain rfl : w0 = some 1 := hw0.symm.trans (FS.g hF rfl)
        refine ⟨⟨_, rfl, (by decide)⟩, ?_⟩
        refine Call_wp (lv := [some (vr 1), some (vi v0)]) (by decide) ckX8_limitAt [] rfl rfl ?_
        refine ⟨fun c => absurd c (show (¬ ((v0 : Int) < 0)) from by first | omega | (simp only [wr, wl] at *; omega)), fun _ => ?_⟩
        refine ⟨fun c => absurd c (show (¬ ((5 : Int) ≤ v0)) from by first | omega | (simp only [wr, wl] at *; omega)), fun _ => ?_⟩
        refine ⟨_, rfl, (by decide), ?_⟩
        refine fun w0 hw0 => ?_; obtain rfl : w0 = some 4 := hw0.symm.trans (FS.g hF rfl)
        refine ⟨_, rfl, (by decide), (by first | omega | (simp only [wr, wl] at *; omega)), (by first | omega | (simp only [wr, wl] at *; omega)), ?_⟩
        have r7 : (I 4 (Int.toNat v0)) = 999 := (FX_r hX 4 999 1 1 rfl v0 (by omega) (by omega))
        refine ⟨rfl, ?_⟩
        refine ⟨_, rfl, (by decide), ?_⟩
        refine fun w0 hw0 => ?_; obtain rfl : w0 = some 1 := hw0.symm.trans (FS.g hF rfl)
        refine ⟨⟨_, rfl, (by decide)⟩, ?_⟩
        refine Call_wp (lv := [some (vr 1), some (vi v0), some (vi v1)]) (by decide) ckX8_setLimit [] rfl rfl ?_
        refine ⟨fun c => absurd c (show (¬ ((v0 : Int) < 0)) from by first | omega | (simp only [wr, wl] at *; omega)), fun _ => ?_⟩
        refine ⟨fun c => absurd c (show (¬ ((5 : Int) ≤ v0)) from by first | omega | (simp only [wr, wl] at *; omega)), fun _ => ?_⟩
        refine ⟨_, rfl, (by decide), ?_⟩
        refine fun w0 hw0 => ?_; obtain rfl : w0 = some 4 := hw0.symm.trans (FS.g hF rfl)
        refine ⟨_, rfl, (by decide), (by first | omega | (simp only [wr, wl] at *; omega)), (by first | omega | (simp only [wr, wl] at *; omega)), ?_⟩
        refine ⟨rfl, ?_⟩
        have e : fx_limit v0 v1 = (I 4 (Int.toNat v0)) := by (unfold fx_limit most0 lim0; (repeat' split) <;> first | rfl | omega | (simp only [wr, wl] at *; omega))
        rw [e] at hQ
        exact ⟨rfl, hQ _ _ hF (MS.u MS.r (by decide))⟩
      ·
        refine ⟨rfl, (by decide), ?_⟩
        refine ⟨fun c => absurd (show ((0 : Int) = 0) from by decide) c, fun _ => ?_⟩
        refine ⟨⟨_, rfl, (by decide)⟩, ?_⟩
        refine s_X11_refuse hF (e := 1) (by decide) ?_
        have r8 : (I 203 1) = 0 := (hX.i rfl)
        have e : fx_limit v0 v1 = (-1000001) := by (unfold fx_limit most0 lim0; (repeat' split) <;> first | rfl | omega | (simp only [wr, wl] at *; omega))
        rw [e] at hQ
        exact ⟨rfl, hQ _ _ hF (MS.u MS.r (by decide))⟩
    ·
      refine ⟨fun (c9 : ((v0 : Int) = 2)) => ?_, fun (c9 : (¬ ((v0 : Int) = 2))) => ?_⟩
      ·
        refine s_X11_within (fun (w10 : ((0 : Int) ≤ v1 ∧ (v1 : Int) ≤ 99999)) => ?_) (fun (w10 : ¬ ((0 : Int) ≤ v1 ∧ (v1 : Int) ≤ 99999)) => ?_)
        ·
          refine ⟨rfl, (by decide), ?_⟩
          refine ⟨fun _ => ?_, fun c => absurd c (show (¬ (1 : Int) = 0) from by decide)⟩
          refine ⟨_, rfl, (by decide), ?_⟩
          refine fun w0 hw0 => ?_; obtain rfl : w0 = some 1 := hw0.symm.trans (FS.g hF rfl)
          refine ⟨⟨_, rfl, (by decide)⟩, ?_⟩
          refine Call_wp (lv := [some (vr 1), some (vi v0)]) (by decide) ckX8_limitAt [] rfl rfl ?_
          refine ⟨fun c => absurd c (show (¬ ((v0 : Int) < 0)) from by first | omega | (simp only [wr, wl] at *; omega)), fun _ => ?_⟩
          refine ⟨fun c => absurd c (show (¬ ((5 : Int) ≤ v0)) from by first | omega | (simp only [wr, wl] at *; omega)), fun _ => ?_⟩
          refine ⟨_, rfl, (by decide), ?_⟩
          refine fun w0 hw0 => ?_; obtain rfl : w0 = some 4 := hw0.symm.trans (FS.g hF rfl)
          refine ⟨_, rfl, (by decide), (by first | omega | (simp only [wr, wl] at *; omega)), (by first | omega | (simp only [wr, wl] at *; omega)), ?_⟩
          have r11 : (I 4 (Int.toNat v0)) = 99999 := (FX_r hX 4 99999 2 2 rfl v0 (by omega) (by omega))
          refine ⟨rfl, ?_⟩
          refine ⟨_, rfl, (by decide), ?_⟩
          refine fun w0 hw0 => ?_; obtain rfl : w0 = some 1 := hw0.symm.trans (FS.g hF rfl)
          refine ⟨⟨_, rfl, (by decide)⟩, ?_⟩
          refine Call_wp (lv := [some (vr 1), some (vi v0), some (vi v1)]) (by decide) ckX8_setLimit [] rfl rfl ?_
          refine ⟨fun c => absurd c (show (¬ ((v0 : Int) < 0)) from by first | omega | (simp only [wr, wl] at *; omega)), fun _ => ?_⟩
          refine ⟨fun c => absurd c (show (¬ ((5 : Int) ≤ v0)) from by first | omega | (simp only [wr, wl] at *; omega)), fun _ => ?_⟩
          refine ⟨_, rfl, (by decide), ?_⟩
          refine fun w0 hw0 => ?_; obtain rfl : w0 = some 4 := hw0.symm.trans (FS.g hF rfl)
          refine ⟨_, rfl, (by decide), (by first | omega | (simp only [wr, wl] at *; omega)), (by first | omega | (simp only [wr, wl] at *; omega)), ?_⟩
          refine ⟨rfl, ?_⟩
          have e : fx_limit v0 v1 = (I 4 (Int.toNat v0)) := by (unfold fx_limit most0 lim0; (repeat' split) <;> first | rfl | omega | (simp only [wr, wl] at *; omega))
          rw [e] at hQ
          exact ⟨rfl, hQ _ _ hF (MS.u MS.r (by decide))⟩
        ·
          refine ⟨rfl, (by decide), ?_⟩
          refine ⟨fun c => absurd (show ((0 : Int) = 0) from by decide) c, fun _ => ?_⟩
          refine ⟨⟨_, rfl, (by decide)⟩, ?_⟩
          refine s_X11_refuse hF (e := 1) (by decide) ?_
          have r12 : (I 203 1) = 0 := (hX.i rfl)
          have e : fx_limit v0 v1 = (-1000001) := by (unfold fx_limit most0 lim0; (repeat' split) <;> first | rfl | omega | (simp only [wr, wl] at *; omega))
          rw [e] at hQ
          exact ⟨rfl, hQ _ _ hF (MS.u MS.r (by decide))⟩
      ·
        refine ⟨fun (c13 : ((v0 : Int) = 3)) => ?_, fun (c13 : (¬ ((v0 : Int) = 3))) => ?_⟩
        ·
          refine s_X11_within (fun (w14 : ((0 : Int) ≤ v1 ∧ (v1 : Int) ≤ 24)) => ?_) (fun (w14 : ¬ ((0 : Int) ≤ v1 ∧ (v1 : Int) ≤ 24)) => ?_)
          ·
            refine ⟨rfl, (by decide), ?_⟩
            refine ⟨fun _ => ?_, fun c => absurd c (show (¬ (1 : Int) = 0) from by decide)⟩
            refine ⟨_, rfl, (by decide), ?_⟩
            refine fun w0 hw0 => ?_; obtain rfl : w0 = some 1 := hw0.symm.trans (FS.g hF rfl)
            refine ⟨⟨_, rfl, (by decide)⟩, ?_⟩
            refine Call_wp (lv := [some (vr 1), some (vi v0)]) (by decide) ckX8_limitAt [] rfl rfl ?_
            refine ⟨fun c => absurd c (show (¬ ((v0 : Int) < 0)) from by first | omega | (simp only [wr, wl] at *; omega)), fun _ => ?_⟩
            refine ⟨fun c => absurd c (show (¬ ((5 : Int) ≤ v0)) from by first | omega | (simp only [wr, wl] at *; omega)), fun _ => ?_⟩
            refine ⟨_, rfl, (by decide), ?_⟩
            refine fun w0 hw0 => ?_; obtain rfl : w0 = some 4 := hw0.symm.trans (FS.g hF rfl)
            refine ⟨_, rfl, (by decide), (by first | omega | (simp only [wr, wl] at *; omega)), (by first | omega | (simp only [wr, wl] at *; omega)), ?_⟩
            have r15 : (I 4 (Int.toNat v0)) = 0 := (FX_r hX 4 0 3 3 rfl v0 (by omega) (by omega))
            refine ⟨rfl, ?_⟩
            refine ⟨_, rfl, (by decide), ?_⟩
            refine fun w0 hw0 => ?_; obtain rfl : w0 = some 1 := hw0.symm.trans (FS.g hF rfl)
            refine ⟨⟨_, rfl, (by decide)⟩, ?_⟩
            refine Call_wp (lv := [some (vr 1), some (vi v0), some (vi v1)]) (by decide) ckX8_setLimit [] rfl rfl ?_
            refine ⟨fun c => absurd c (show (¬ ((v0 : Int) < 0)) from by first | omega | (simp only [wr, wl] at *; omega)), fun _ => ?_⟩
            refine ⟨fun c => absurd c (show (¬ ((5 : Int) ≤ v0)) from by first | omega | (simp only [wr, wl] at *; omega)), fun _ => ?_⟩
            refine ⟨_, rfl, (by decide), ?_⟩
            refine fun w0 hw0 => ?_; obtain rfl : w0 = some 4 := hw0.symm.trans (FS.g hF rfl)
            refine ⟨_, rfl, (by decide), (by first | omega | (simp only [wr, wl] at *; omega)), (by first | omega | (simp only [wr, wl] at *; omega)), ?_⟩
            refine ⟨rfl, ?_⟩
            have e : fx_limit v0 v1 = (I 4 (Int.toNat v0)) := by (unfold fx_limit most0 lim0; (repeat' split) <;> first | rfl | omega | (simp only [wr, wl] at *; omega))
            rw [e] at hQ
            exact ⟨rfl, hQ _ _ hF (MS.u MS.r (by decide))⟩
          ·
            refine ⟨rfl, (by decide), ?_⟩
            refine ⟨fun c => absurd (show ((0 : Int) = 0) from by decide) c, fun _ => ?_⟩
            refine ⟨⟨_, rfl, (by decide)⟩, ?_⟩
            refine s_X11_refuse hF (e := 1) (by decide) ?_
            have r16 : (I 203 1) = 0 := (hX.i rfl)
            have e : fx_limit v0 v1 = (-1000001) := by (unfold fx_limit most0 lim0; (repeat' split) <;> first | rfl | omega | (simp only [wr, wl] at *; omega))
            rw [e] at hQ
            exact ⟨rfl, hQ _ _ hF (MS.u MS.r (by decide))⟩
        ·
          refine ⟨fun (c17 : ((v0 : Int) = 4)) => ?_, fun (c17 : (¬ ((v0 : Int) = 4))) => ?_⟩
          ·
            refine s_X11_within (fun (w18 : ((0 : Int) ≤ v1 ∧ (v1 : Int) ≤ 5)) => ?_) (fun (w18 : ¬ ((0 : Int) ≤ v1 ∧ (v1 : Int) ≤ 5)) => ?_)
            ·
              refine ⟨rfl, (by decide), ?_⟩
              refine ⟨fun _ => ?_, fun c => absurd c (show (¬ (1 : Int) = 0) from by decide)⟩
              refine ⟨_, rfl, (by decide), ?_⟩
              refine fun w0 hw0 => ?_; obtain rfl : w0 = some 1 := hw0.symm.trans (FS.g hF rfl)
              refine ⟨⟨_, rfl, (by decide)⟩, ?_⟩
              refine Call_wp (lv := [some (vr 1), some (vi v0)]) (by decide) ckX8_limitAt [] rfl rfl ?_
              refine ⟨fun c => absurd c (show (¬ ((v0 : Int) < 0)) from by first | omega | (simp only [wr, wl] at *; omega)), fun _ => ?_⟩
              refine ⟨fun c => absurd c (show (¬ ((5 : Int) ≤ v0)) from by first | omega | (simp only [wr, wl] at *; omega)), fun _ => ?_⟩
              refine ⟨_, rfl, (by decide), ?_⟩
              refine fun w0 hw0 => ?_; obtain rfl : w0 = some 4 := hw0.symm.trans (FS.g hF rfl)
              refine ⟨_, rfl, (by decide), (by first | omega | (simp only [wr, wl] at *; omega)), (by first | omega | (simp only [wr, wl] at *; omega)), ?_⟩
              have r19 : (I 4 (Int.toNat v0)) = 0 := (FX_r hX 4 0 4 4 rfl v0 (by omega) (by omega))
              refine ⟨rfl, ?_⟩
              refine ⟨_, rfl, (by decide), ?_⟩
              refine fun w0 hw0 => ?_; obtain rfl : w0 = some 1 := hw0.symm.trans (FS.g hF rfl)
              refine ⟨⟨_, rfl, (by decide)⟩, ?_⟩
              refine Call_wp (lv := [some (vr 1), some (vi v0), some (vi v1)]) (by decide) ckX8_setLimit [] rfl rfl ?_
              refine ⟨fun c => absurd c (show (¬ ((v0 : Int) < 0)) from by first | omega | (simp only [wr, wl] at *; omega)), fun _ => ?_⟩
              refine ⟨fun c => absurd c (show (¬ ((5 : Int) ≤ v0)) from by first | omega | (simp only [wr, wl] at *; omega)), fun _ => ?_⟩
              refine ⟨_, rfl, (by decide), ?_⟩
              refine fun w0 hw0 => ?_; obtain rfl : w0 = some 4 := hw0.symm.trans (FS.g hF rfl)
              refine ⟨_, rfl, (by decide), (by first | omega | (simp only [wr, wl] at *; omega)), (by first | omega | (simp only [wr, wl] at *; omega)), ?_⟩
              refine ⟨rfl, ?_⟩
              have e : fx_limit v0 v1 = (I 4 (Int.toNat v0)) := by (unfold fx_limit most0 lim0; (repeat' split) <;> first | rfl | omega | (simp only [wr, wl] at *; omega))
              rw [e] at hQ
              exact ⟨rfl, hQ _ _ hF (MS.u MS.r (by decide))⟩
            ·
              refine ⟨rfl, (by decide), ?_⟩
              refine ⟨fun c => absurd (show ((0 : Int) = 0) from by decide) c, fun _ => ?_⟩
              refine ⟨⟨_, rfl, (by decide)⟩, ?_⟩
              refine s_X11_refuse hF (e := 1) (by decide) ?_
              have r20 : (I 203 1) = 0 := (hX.i rfl)
              have e : fx_limit v0 v1 = (-1000001) := by (unfold fx_limit most0 lim0; (repeat' split) <;> first | rfl | omega | (simp only [wr, wl] at *; omega))
              rw [e] at hQ
              exact ⟨rfl, hQ _ _ hF (MS.u MS.r (by decide))⟩
          ·
            refine ⟨rfl, (by decide), ?_⟩
            refine ⟨fun c => absurd (show ((0 : Int) = 0) from by decide) c, fun _ => ?_⟩
            refine ⟨⟨_, rfl, (by decide)⟩, ?_⟩
            refine s_X11_refuse hF (e := 1) (by decide) ?_
            have r21 : (I 203 1) = 0 := (hX.i rfl)
            have e : fx_limit v0 v1 = (-1000001) := by (unfold fx_limit most0 lim0; (repeat' split) <;> first | rfl | omega | (simp only [wr, wl] at *; omega))
            rw [e] at hQ
            exact ⟨rfl, hQ _ _ hF (MS.u MS.r (by decide))⟩
theorem s_X8_addByte (hF : FS F) {t b : Int} (ht : I 1 5 = t) (hb : 0 ≤ t ∧ t ≤ 63) (hQ : Q none F (uI (uI I 5 t.toNat (wb b)) 1 5 (t + 1))) : CallN G d kX8_addByte [vr 1, vi b] NP F I Q := by
  subst ht
  refine Call_wp (lv := [some (vr 1), some (vi b)]) (by decide) ckX8_addByte [] rfl rfl ?_
  refine ⟨_, rfl, (by decide), ?_⟩
  have r1 : 0 ≤ (I 1 5) ∧ (I 1 5) ≤ 63 := (by omega)
  refine ⟨fun c => absurd c (show (¬ (((I 1 5) : Int) < 0)) from by first | omega | (simp only [wr, wl] at *; omega)), fun _ => ?_⟩
  refine ⟨_, rfl, (by decide), ?_⟩
  refine ⟨fun c => absurd c (show (¬ ((64 : Int) ≤ (I 1 5))) from by first | omega | (simp only [wr, wl] at *; omega)), fun _ => ?_⟩
  refine ⟨_, rfl, (by decide), ?_⟩
  refine fun w0 hw0 => ?_; obtain rfl : w0 = some 5 := hw0.symm.trans (FS.g hF rfl)
  refine ⟨_, rfl, (by decide), ?_⟩
  refine ⟨_, rfl, (by decide), (by first | omega | (simp only [wr, wl] at *; omega)), (by first | omega | (simp only [wr, wl] at *; omega)), ?_⟩
  refine ⟨_, rfl, (by decide), ?_⟩
  refine ⟨_, rfl, (by decide), ?_⟩
  have e : wr (I 1 5 + 1) = I 1 5 + 1 := by unfold wr; omega
  rw [← e] at hQ
  exact ⟨rfl, hQ⟩
theorem x_feed (hF : FS F) (hX : FX I) {v0 v1 : Int} (rv0 : lR v0) (rv1 : iR v1) (hQ : ∀ F' I', FS F' → MS I I' → Q (some (vi (fx_feed v1))) F' I') : CallN G (d + 12) kX11_feed [vr 0, vl v0, vi v1] NP F I Q := by
  unfold iR at *
  unfold lR at *
  refine Call_wp (lv := [some (vr 0), some (vl v0), none, some (vi v1), none]) (by decide) ckX11_feed [] rfl rfl ?_
  refine s_X11_within (fun (w1 : ((1 : Int) ≤ v1 ∧ (v1 : Int) ≤ 8)) => ?_) (fun (w1 : ¬ ((1 : Int) ≤ v1 ∧ (v1 : Int) ≤ 8)) => ?_)
  ·
    refine ⟨fun _ => ?_, fun c => absurd c (show (¬ (1 : Int) = 0) from by decide)⟩
    refine ⟨_, rfl, (by decide), ?_⟩
    refine fun w0 hw0 => ?_; obtain rfl : w0 = some 1 := hw0.symm.trans (FS.g hF rfl)
    refine ⟨_, rfl, (by decide), ?_⟩
    have r2 : (I 1 5) = 0 := (hX.i rfl)
    have n3 : (wr (64 - v1)) = 64 - v1 := wr_id (show -2147483648 ≤ (64 - v1 : Int) ∧ (64 - v1 : Int) < 2147483648 from by omega)
    refine ⟨fun _ => ?_, fun c => absurd (show (((I 1 5) : Int) ≤ (wr (64 - v1))) from by first | omega | (simp only [wr, wl] at *; omega)) c⟩
    refine ⟨fun c => absurd c (show (¬ ((v1 : Int) ≤ 0)) from by first | omega | (simp only [wr, wl] at *; omega)), fun _ => ?_⟩
    refine ⟨_, rfl, (by decide), ?_⟩
    refine fun w0 hw0 => ?_; obtain rfl : w0 = some 1 := hw0.symm.trans (FS.g hF rfl)
    refine ⟨⟨_, rfl, (by decide)⟩, ?_⟩
    refine s_X8_addByte hF (t := 0) (by first | exact hX.i rfl | rfl) (by decide) ?_
    refine ⟨fun (c4 : ((v1 : Int) ≤ 1)) => ?_, fun (c4 : (¬ ((v1 : Int) ≤ 1))) => ?_⟩
    ·
      refine ⟨_, rfl, (by decide), ?_⟩
      refine fun w0 hw0 => ?_; obtain rfl : w0 = some 1 := hw0.symm.trans (FS.g hF rfl)
      refine ⟨_, rfl, (by decide), ?_⟩
      have e : fx_feed v1 = 1 := by (unfold fx_feed; (repeat' split) <;> first | rfl | omega | (simp only [wr, wl] at *; omega))
      rw [e] at hQ
      exact ⟨rfl, hQ _ _ hF (MS.u (MS.u MS.r (by decide)) (by decide))⟩
    ·
      refine ⟨_, rfl, (by decide), ?_⟩
      refine fun w0 hw0 => ?_; obtain rfl : w0 = some 1 := hw0.symm.trans (FS.g hF rfl)
      refine ⟨⟨_, rfl, (by decide)⟩, ?_⟩
      refine s_X8_addByte hF (t := 1) (by first | exact hX.i rfl | rfl) (by decide) ?_
      refine ⟨fun (c5 : ((v1 : Int) ≤ 2)) => ?_, fun (c5 : (¬ ((v1 : Int) ≤ 2))) => ?_⟩
      ·
        refine ⟨_, rfl, (by decide), ?_⟩
        refine fun w0 hw0 => ?_; obtain rfl : w0 = some 1 := hw0.symm.trans (FS.g hF rfl)
        refine ⟨_, rfl, (by decide), ?_⟩
        have e : fx_feed v1 = 2 := by (unfold fx_feed; (repeat' split) <;> first | rfl | omega | (simp only [wr, wl] at *; omega))
        rw [e] at hQ
        exact ⟨rfl, hQ _ _ hF (MS.u (MS.u (MS.u (MS.u MS.r (by decide)) (by decide)) (by decide)) (by decide))⟩
      ·
        refine ⟨_, rfl, (by decide), ?_⟩
        refine fun w0 hw0 => ?_; obtain rfl : w0 = some 1 := hw0.symm.trans (FS.g hF rfl)
        refine ⟨⟨_, rfl, (by decide)⟩, ?_⟩
        refine s_X8_addByte hF (t := 2) (by first | exact hX.i rfl | rfl) (by decide) ?_
        refine ⟨fun (c6 : ((v1 : Int) ≤ 3)) => ?_, fun (c6 : (¬ ((v1 : Int) ≤ 3))) => ?_⟩
        ·
          refine ⟨_, rfl, (by decide), ?_⟩
          refine fun w0 hw0 => ?_; obtain rfl : w0 = some 1 := hw0.symm.trans (FS.g hF rfl)
          refine ⟨_, rfl, (by decide), ?_⟩
          have e : fx_feed v1 = 3 := by (unfold fx_feed; (repeat' split) <;> first | rfl | omega | (simp only [wr, wl] at *; omega))
          rw [e] at hQ
          exact ⟨rfl, hQ _ _ hF (MS.u (MS.u (MS.u (MS.u (MS.u (MS.u MS.r (by decide)) (by decide)) (by decide)) (by decide)) (by decide)) (by decide))⟩
        ·
          refine ⟨_, rfl, (by decide), ?_⟩
          refine fun w0 hw0 => ?_; obtain rfl : w0 = some 1 := hw0.symm.trans (FS.g hF rfl)
          refine ⟨⟨_, rfl, (by decide)⟩, ?_⟩
          refine s_X8_addByte hF (t := 3) (by first | exact hX.i rfl | rfl) (by decide) ?_
          refine ⟨fun (c7 : ((v1 : Int) ≤ 4)) => ?_, fun (c7 : (¬ ((v1 : Int) ≤ 4))) => ?_⟩
          ·
            refine ⟨_, rfl, (by decide), ?_⟩
            refine fun w0 hw0 => ?_; obtain rfl : w0 = some 1 := hw0.symm.trans (FS.g hF rfl)
            refine ⟨_, rfl, (by decide), ?_⟩
            have e : fx_feed v1 = 4 := by (unfold fx_feed; (repeat' split) <;> first | rfl | omega | (simp only [wr, wl] at *; omega))
            rw [e] at hQ
            exact ⟨rfl, hQ _ _ hF (MS.u (MS.u (MS.u (MS.u (MS.u (MS.u (MS.u (MS.u MS.r (by decide)) (by decide)) (by decide)) (by decide)) (by decide)) (by decide)) (by decide)) (by decide))⟩
          ·
            refine ⟨_, rfl, (by decide), ?_⟩
            refine fun w0 hw0 => ?_; obtain rfl : w0 = some 1 := hw0.symm.trans (FS.g hF rfl)
            refine ⟨⟨_, rfl, (by decide)⟩, ?_⟩
            refine s_X8_addByte hF (t := 4) (by first | exact hX.i rfl | rfl) (by decide) ?_
            refine ⟨fun (c8 : ((v1 : Int) ≤ 5)) => ?_, fun (c8 : (¬ ((v1 : Int) ≤ 5))) => ?_⟩
            ·
              refine ⟨_, rfl, (by decide), ?_⟩
              refine fun w0 hw0 => ?_; obtain rfl : w0 = some 1 := hw0.symm.trans (FS.g hF rfl)
              refine ⟨_, rfl, (by decide), ?_⟩
              have e : fx_feed v1 = 5 := by (unfold fx_feed; (repeat' split) <;> first | rfl | omega | (simp only [wr, wl] at *; omega))
              rw [e] at hQ
              exact ⟨rfl, hQ _ _ hF (MS.u (MS.u (MS.u (MS.u (MS.u (MS.u (MS.u (MS.u (MS.u (MS.u MS.r (by decide)) (by decide)) (by decide)) (by decide)) (by decide)) (by decide)) (by decide)) (by decide)) (by decide)) (by decide))⟩
            ·
              refine ⟨_, rfl, (by decide), ?_⟩
              refine fun w0 hw0 => ?_; obtain rfl : w0 = some 1 := hw0.symm.trans (FS.g hF rfl)
              refine ⟨⟨_, rfl, (by decide)⟩, ?_⟩
              refine s_X8_addByte hF (t := 5) (by first | exact hX.i rfl | rfl) (by decide) ?_
              refine ⟨fun (c9 : ((v1 : Int) ≤ 6)) => ?_, fun (c9 : (¬ ((v1 : Int) ≤ 6))) => ?_⟩
              ·
                refine ⟨_, rfl, (by decide), ?_⟩
                refine fun w0 hw0 => ?_; obtain rfl : w0 = some 1 := hw0.symm.trans (FS.g hF rfl)
                refine ⟨_, rfl, (by decide), ?_⟩
                have e : fx_feed v1 = 6 := by (unfold fx_feed; (repeat' split) <;> first | rfl | omega | (simp only [wr, wl] at *; omega))
                rw [e] at hQ
                exact ⟨rfl, hQ _ _ hF (MS.u (MS.u (MS.u (MS.u (MS.u (MS.u (MS.u (MS.u (MS.u (MS.u (MS.u (MS.u MS.r (by decide)) (by decide)) (by decide)) (by decide)) (by decide)) (by decide)) (by decide)) (by decide)) (by decide)) (by decide)) (by decide)) (by decide))⟩
              ·
                refine ⟨_, rfl, (by decide), ?_⟩
                refine fun w0 hw0 => ?_; obtain rfl : w0 = some 1 := hw0.symm.trans (FS.g hF rfl)
                refine ⟨⟨_, rfl, (by decide)⟩, ?_⟩
                refine s_X8_addByte hF (t := 6) (by first | exact hX.i rfl | rfl) (by decide) ?_
                refine ⟨fun (c10 : ((v1 : Int) ≤ 7)) => ?_, fun (c10 : (¬ ((v1 : Int) ≤ 7))) => ?_⟩
                ·
                  refine ⟨_, rfl, (by decide), ?_⟩
                  refine fun w0 hw0 => ?_; obtain rfl : w0 = some 1 := hw0.symm.trans (FS.g hF rfl)
                  refine ⟨_, rfl, (by decide), ?_⟩
                  have e : fx_feed v1 = 7 := by (unfold fx_feed; (repeat' split) <;> first | rfl | omega | (simp only [wr, wl] at *; omega))
                  rw [e] at hQ
                  exact ⟨rfl, hQ _ _ hF (MS.u (MS.u (MS.u (MS.u (MS.u (MS.u (MS.u (MS.u (MS.u (MS.u (MS.u (MS.u (MS.u (MS.u MS.r (by decide)) (by decide)) (by decide)) (by decide)) (by decide)) (by decide)) (by decide)) (by decide)) (by decide)) (by decide)) (by decide)) (by decide)) (by decide)) (by decide))⟩
                ·
                  refine ⟨_, rfl, (by decide), ?_⟩
                  refine fun w0 hw0 => ?_; obtain rfl : w0 = some 1 := hw0.symm.trans (FS.g hF rfl)
                  refine ⟨⟨_, rfl, (by decide)⟩, ?_⟩
                  refine s_X8_addByte hF (t := 7) (by first | exact hX.i rfl | rfl) (by decide) ?_
                  refine ⟨fun _ => ?_, fun c => absurd (show ((v1 : Int) ≤ 8) from by first | omega | (simp only [wr, wl] at *; omega)) c⟩
                  refine ⟨_, rfl, (by decide), ?_⟩
                  refine fun w0 hw0 => ?_; obtain rfl : w0 = some 1 := hw0.symm.trans (FS.g hF rfl)
                  refine ⟨_, rfl, (by decide), ?_⟩
                  have e : fx_feed v1 = 8 := by (unfold fx_feed; (repeat' split) <;> first | rfl | omega | (simp only [wr, wl] at *; omega))
                  rw [e] at hQ
                  exact ⟨rfl, hQ _ _ hF (MS.u (MS.u (MS.u (MS.u (MS.u (MS.u (MS.u (MS.u (MS.u (MS.u (MS.u (MS.u (MS.u (MS.u (MS.u (MS.u MS.r (by decide)) (by decide)) (by decide)) (by decide)) (by decide)) (by decide)) (by decide)) (by decide)) (by decide)) (by decide)) (by decide)) (by decide)) (by decide)) (by decide)) (by decide)) (by decide))⟩
  ·
    refine ⟨fun c => absurd (show ((0 : Int) = 0) from by decide) c, fun _ => ?_⟩
    refine ⟨⟨_, rfl, (by decide)⟩, ?_⟩
    refine s_X11_refuse hF (e := 1) (by decide) ?_
    have r11 : (I 203 1) = 0 := (hX.i rfl)
    have e : fx_feed v1 = (-1000001) := by (unfold fx_feed; (repeat' split) <;> first | rfl | omega | (simp only [wr, wl] at *; omega))
    rw [e] at hQ
    exact ⟨rfl, hQ _ _ hF (MS.u MS.r (by decide))⟩
theorem x_program (hF : FS F) (hX : FX I) {v0 : Int} (rv0 : iR v0) (hQ : ∀ F' I', FS F' → MS I I' → Q (some (vi (fx_program v0))) F' I') : CallN G (d + 12) kX11_program [vr 0, vi v0] NP F I Q := by
  unfold iR at *
  refine Call_wp (lv := [some (vr 0), some (vi v0), none, none]) (by decide) ckX11_program [] rfl rfl ?_
  refine ⟨_, rfl, (by decide), ?_⟩
  refine fun w0 hw0 => ?_; obtain rfl : w0 = some 1 := hw0.symm.trans (FS.g hF rfl)
  refine ⟨⟨_, rfl, (by decide)⟩, ?_⟩
  refine s_X8_programAt hF (S := 1) (Or.inl rfl) (fun (w1 : (0 ≤ v0 ∧ v0 < 4)) => ?_) (fun (w1 : ¬ (0 ≤ v0 ∧ v0 < 4)) => ?_)
  ·
    refine ⟨_, rfl, (by decide), ?_⟩
    refine fun w0 hw0 => ?_; obtain rfl : w0 = some 218 := hw0.symm.trans (FS.g hF rfl)
    refine ⟨_, rfl, (by decide), ?_⟩
    refine fun w0 hw0 => ?_; obtain rfl : w0 = some 1 := hw0.symm.trans (FS.g hF rfl)
    refine ⟨_, rfl, (by decide), ?_⟩
    refine fun w0 hw0 => ?_; obtain rfl : w0 = some 5 := hw0.symm.trans (FS.g hF rfl)
    refine ⟨_, rfl, (by decide), ?_⟩
    refine fun w0 hw0 => ?_; obtain rfl : w0 = some 1 := hw0.symm.trans (FS.g hF rfl)
    refine ⟨_, rfl, (by decide), ?_⟩
    have r2 : (I 1 5) = 0 := (hX.i rfl)
    refine ⟨_, rfl, (by decide), ?_⟩
    refine fun w0 hw0 => ?_; obtain rfl : w0 = some 220 := hw0.symm.trans (FS.g hF rfl)
    refine ⟨⟨_, rfl, (by decide)⟩, ?_⟩
    refine Call_wp (lv := [some (vr 218), some (vr 5), some (vi (I 1 5)), some (vr 220), none, none]) (by decide) ckX9_faultOf [] rfl rfl ?_
    refine ⟨_, rfl, (by decide), ?_⟩
    refine ⟨_, _, (by decide), rfl, (by decide), ?_⟩
    refine Call_wp (lv := [some (vi (I 1 5)), some (vi 64)]) (by decide) ckJ9_min_7cf53 [] rfl rfl ?_
    refine ⟨fun c => absurd c (show (¬ ((64 : Int) < (I 1 5))) from by first | omega | (simp only [wr, wl] at *; omega)), fun _ => ?_⟩
    refine ⟨rfl, ?_⟩
    refine Call_wp (lv := [some (vi 0), some (vi (I 1 5))]) (by decide) ckJ9_max_7cf53 [] rfl rfl ?_
    refine ⟨fun c => absurd c (show (¬ ((0 : Int) < (I 1 5))) from by first | omega | (simp only [wr, wl] at *; omega)), fun _ => ?_⟩
    refine ⟨rfl, ?_⟩
    refine ⟨_, rfl, (by decide), ?_⟩
    refine ⟨_, rfl, (by decide), ?_⟩
    refine ⟨⟨_, rfl, (by decide)⟩, ?_⟩
    refine Call_wp (lv := [some (vr 220)]) (by decide) ckX5_clear [] rfl rfl ?_
    refine ⟨_, rfl, (by decide), ?_⟩
    refine ⟨_, rfl, (by decide), ?_⟩
    refine ⟨rfl, ?_⟩
    refine ⟨⟨_, rfl, (by decide)⟩, ?_⟩
    refine Call_wp (lv := [some (vr 218)]) (by decide) ckX9_next [] rfl rfl ?_
    refine ⟨_, rfl, (by decide), ?_⟩
    refine ⟨_, rfl, (by decide), ?_⟩
    refine ⟨_, rfl, (by decide), ?_⟩
    refine ⟨_, rfl, (by decide), ?_⟩
    refine ⟨fun _ => ?_, fun c => absurd (show ((0 : Int) ≤ 0) from by decide) c⟩
    refine ⟨_, rfl, (by decide), ?_⟩
    refine ⟨_, rfl, (by decide), ?_⟩
    refine Call_wp (lv := [some (vi 1), some (vi 0)]) (by decide) ckJ9_min_7cf53 [] rfl rfl ?_
    refine ⟨fun _ => ?_, fun c => absurd (show ((0 : Int) < 1) from by decide) c⟩
    refine ⟨rfl, ?_⟩
    refine ⟨_, rfl, (by decide), ?_⟩
    refine ⟨_, rfl, (by decide), ?_⟩
    refine ⟨⟨_, rfl, (by decide)⟩, ?_⟩
    refine Call_wp (lv := [some (vr 218), some (vi 0)]) (by decide) ckX9_isLetter [] rfl rfl ?_
    refine ⟨⟨_, rfl, (by decide)⟩, ?_⟩
    refine Call_wp (lv := [some (vr 218), some (vi 0)]) (by decide) ckX9_byteAt [] rfl rfl ?_
    refine ⟨fun c => absurd c (show (¬ ((0 : Int) < 0)) from by decide), fun _ => ?_⟩
    refine ⟨_, rfl, (by decide), ?_⟩
    refine ⟨fun _ => ?_, fun c => absurd (show ((0 : Int) ≤ 0) from by decide) c⟩
    refine ⟨rfl, ?_⟩
    refine s_X11_within (fun hw => absurd hw (show ¬ ((97 : Int) ≤ (-1) ∧ ((-1) : Int) ≤ 122) from by first | omega | (simp only [wr, wl] at *; omega))) (fun _ => ?_)
    refine ⟨rfl, (by decide), ?_⟩
    refine ⟨fun _ => ?_, fun c => absurd (show ((0 : Int) = 0) from by decide) c⟩
    refine ⟨_, rfl, (by decide), ?_⟩
    refine ⟨⟨_, rfl, (by decide)⟩, ?_⟩
    refine Call_wp (lv := [some (vr 218), some (vi 0)]) (by decide) ckX9_isDigit [] rfl rfl ?_
    refine ⟨⟨_, rfl, (by decide)⟩, ?_⟩
    refine Call_wp (lv := [some (vr 218), some (vi 0)]) (by decide) ckX9_byteAt [] rfl rfl ?_
    refine ⟨fun c => absurd c (show (¬ ((0 : Int) < 0)) from by decide), fun _ => ?_⟩
    refine ⟨_, rfl, (by decide), ?_⟩
    refine ⟨fun _ => ?_, fun c => absurd (show ((0 : Int) ≤ 0) from by decide) c⟩
    refine ⟨rfl, ?_⟩
    refine s_X11_within (fun hw => absurd hw (show ¬ ((48 : Int) ≤ (-1) ∧ ((-1) : Int) ≤ 57) from by first | omega | (simp only [wr, wl] at *; omega))) (fun _ => ?_)
    refine ⟨rfl, (by decide), ?_⟩
    refine ⟨fun _ => ?_, fun c => absurd (show ((0 : Int) = 0) from by decide) c⟩
    refine ⟨rfl, ?_⟩
    refine ⟨fun c => absurd c (show (¬ ((32 : Int) ≤ 0)) from by decide), fun _ => ?_⟩
    refine ⟨fun _ => ?_, fun c => absurd (show ((0 : Int) ≤ 0) from by decide) c⟩
    refine ⟨⟨_, rfl, (by decide)⟩, ?_⟩
    refine Call_wp (lv := [some (vr 218), some (vr 220), some (vi 0), none, none]) (by decide) ckX9_readPart [] rfl rfl ?_
    refine ⟨⟨_, rfl, (by decide)⟩, ?_⟩
    refine Call_wp (lv := [some (vr 218), none]) (by decide) ckX9_actHere [] rfl rfl ?_
    refine ⟨fun c => absurd c (show (¬ ((5 : Int) < 0)) from by decide), fun _ => ?_⟩
    refine Call_wp (lv := [some (vi 0)]) (by decide) ckX9_wordOf [] rfl rfl ?_
    refine ⟨fun _ => ?_, fun c => absurd (show ((0 : Int) = 0) from by decide) c⟩
    refine ⟨rfl, ?_⟩
    refine ⟨⟨_, rfl, (by decide)⟩, ?_⟩
    refine Call_wp (lv := [some (vr 218), some (vr 4107), none]) (by decide) ckX9_isMark [] rfl rfl ?_
    refine ⟨_, rfl, (by decide), ?_⟩
    refine ⟨_, rfl, (by decide), ?_⟩
    refine ⟨⟨1, (by decide), rfl⟩, ?_⟩
    refine Call_wp (lv := [some (vr 4107)]) (by decide) ckJ0_length_8abf5 [] rfl rfl ?_
    refine ⟨1, (by decide), rfl, ?_⟩
    refine Or.inr (Or.inr ⟨1, (by decide), rfl, ?_⟩)
    refine ⟨⟨1, (by decide), rfl⟩, ?_⟩
    refine Call_wp (lv := [some (vr 4107)]) (by decide) ckJ0_coder_7d493 [] rfl rfl ?_
    refine ⟨fun c => absurd c (show (¬ ((1 : Int) = 0)) from by decide), fun _ => ?_⟩
    refine ⟨1, (by decide), rfl, ?_⟩
    refine ⟨rfl, (by decide), ?_⟩
    refine ⟨rfl, ?_⟩
    refine ⟨fun c => absurd c (show (¬ ((0 : Int) = 2)) from by decide), fun _ => ?_⟩
    refine ⟨rfl, (by decide), ?_⟩
    refine ⟨fun _ => ?_, fun c => absurd (show ((0 : Int) = 0) from by decide) c⟩
    refine ⟨fun c => absurd c (show (¬ ((5 : Int) < 1)) from by decide), fun _ => ?_⟩
    refine Call_wp (lv := [some (vi 1)]) (by decide) ckX9_wordOf [] rfl rfl ?_
    refine ⟨fun c => absurd c (show (¬ ((1 : Int) = 0)) from by decide), fun _ => ?_⟩
    refine ⟨fun _ => ?_, fun c => absurd (show ((1 : Int) = 1) from by decide) c⟩
    refine ⟨rfl, ?_⟩
    refine ⟨⟨_, rfl, (by decide)⟩, ?_⟩
    refine Call_wp (lv := [some (vr 218), some (vr 4108), none]) (by decide) ckX9_isMark [] rfl rfl ?_
    refine ⟨_, rfl, (by decide), ?_⟩
    refine ⟨_, rfl, (by decide), ?_⟩
    refine ⟨⟨2, (by decide), rfl⟩, ?_⟩
    refine Call_wp (lv := [some (vr 4108)]) (by decide) ckJ0_length_8abf5 [] rfl rfl ?_
    refine ⟨2, (by decide), rfl, ?_⟩
    refine Or.inr (Or.inr ⟨2, (by decide), rfl, ?_⟩)
    refine ⟨⟨2, (by decide), rfl⟩, ?_⟩
    refine Call_wp (lv := [some (vr 4108)]) (by decide) ckJ0_coder_7d493 [] rfl rfl ?_
    refine ⟨fun c => absurd c (show (¬ ((1 : Int) = 0)) from by decide), fun _ => ?_⟩
    refine ⟨2, (by decide), rfl, ?_⟩
    refine ⟨rfl, (by decide), ?_⟩
    refine ⟨rfl, ?_⟩
    refine ⟨fun c => absurd c (show (¬ ((0 : Int) = 4)) from by decide), fun _ => ?_⟩
    refine ⟨rfl, (by decide), ?_⟩
    refine ⟨fun _ => ?_, fun c => absurd (show ((0 : Int) = 0) from by decide) c⟩
    refine ⟨fun c => absurd c (show (¬ ((5 : Int) < 2)) from by decide), fun _ => ?_⟩
    refine Call_wp (lv := [some (vi 2)]) (by decide) ckX9_wordOf [] rfl rfl ?_
    refine ⟨fun c => absurd c (show (¬ ((2 : Int) = 0)) from by decide), fun _ => ?_⟩
    refine ⟨fun c => absurd c (show (¬ ((2 : Int) = 1)) from by decide), fun _ => ?_⟩
    refine ⟨fun _ => ?_, fun c => absurd (show ((2 : Int) = 2) from by decide) c⟩
    refine ⟨rfl, ?_⟩
    refine ⟨⟨_, rfl, (by decide)⟩, ?_⟩
    refine Call_wp (lv := [some (vr 218), some (vr 4109), none]) (by decide) ckX9_isMark [] rfl rfl ?_
    refine ⟨_, rfl, (by decide), ?_⟩
    refine ⟨_, rfl, (by decide), ?_⟩
    refine ⟨⟨3, (by decide), rfl⟩, ?_⟩
    refine Call_wp (lv := [some (vr 4109)]) (by decide) ckJ0_length_8abf5 [] rfl rfl ?_
    refine ⟨3, (by decide), rfl, ?_⟩
    refine Or.inr (Or.inr ⟨3, (by decide), rfl, ?_⟩)
    refine ⟨⟨3, (by decide), rfl⟩, ?_⟩
    refine Call_wp (lv := [some (vr 4109)]) (by decide) ckJ0_coder_7d493 [] rfl rfl ?_
    refine ⟨fun c => absurd c (show (¬ ((1 : Int) = 0)) from by decide), fun _ => ?_⟩
    refine ⟨3, (by decide), rfl, ?_⟩
    refine ⟨rfl, (by decide), ?_⟩
    refine ⟨rfl, ?_⟩
    refine ⟨fun c => absurd c (show (¬ ((0 : Int) = 4)) from by decide), fun _ => ?_⟩
    refine ⟨rfl, (by decide), ?_⟩
    refine ⟨fun _ => ?_, fun c => absurd (show ((0 : Int) = 0) from by decide) c⟩
    refine ⟨fun c => absurd c (show (¬ ((5 : Int) < 3)) from by decide), fun _ => ?_⟩
    refine Call_wp (lv := [some (vi 3)]) (by decide) ckX9_wordOf [] rfl rfl ?_
    refine ⟨fun c => absurd c (show (¬ ((3 : Int) = 0)) from by decide), fun _ => ?_⟩
    refine ⟨fun c => absurd c (show (¬ ((3 : Int) = 1)) from by decide), fun _ => ?_⟩
    refine ⟨fun c => absurd c (show (¬ ((3 : Int) = 2)) from by decide), fun _ => ?_⟩
    refine ⟨fun _ => ?_, fun c => absurd (show ((3 : Int) = 3) from by decide) c⟩
    refine ⟨rfl, ?_⟩
    refine ⟨⟨_, rfl, (by decide)⟩, ?_⟩
    refine Call_wp (lv := [some (vr 218), some (vr 4110), none]) (by decide) ckX9_isMark [] rfl rfl ?_
    refine ⟨_, rfl, (by decide), ?_⟩
    refine ⟨_, rfl, (by decide), ?_⟩
    refine ⟨⟨4, (by decide), rfl⟩, ?_⟩
    refine Call_wp (lv := [some (vr 4110)]) (by decide) ckJ0_length_8abf5 [] rfl rfl ?_
    refine ⟨4, (by decide), rfl, ?_⟩
    refine Or.inr (Or.inr ⟨4, (by decide), rfl, ?_⟩)
    refine ⟨⟨4, (by decide), rfl⟩, ?_⟩
    refine Call_wp (lv := [some (vr 4110)]) (by decide) ckJ0_coder_7d493 [] rfl rfl ?_
    refine ⟨fun c => absurd c (show (¬ ((1 : Int) = 0)) from by decide), fun _ => ?_⟩
    refine ⟨4, (by decide), rfl, ?_⟩
    refine ⟨rfl, (by decide), ?_⟩
    refine ⟨rfl, ?_⟩
    refine ⟨fun c => absurd c (show (¬ ((0 : Int) = 4)) from by decide), fun _ => ?_⟩
    refine ⟨rfl, (by decide), ?_⟩
    refine ⟨fun _ => ?_, fun c => absurd (show ((0 : Int) = 0) from by decide) c⟩
    refine ⟨fun c => absurd c (show (¬ ((5 : Int) < 4)) from by decide), fun _ => ?_⟩
    refine Call_wp (lv := [some (vi 4)]) (by decide) ckX9_wordOf [] rfl rfl ?_
    refine ⟨fun c => absurd c (show (¬ ((4 : Int) = 0)) from by decide), fun _ => ?_⟩
    refine ⟨fun c => absurd c (show (¬ ((4 : Int) = 1)) from by decide), fun _ => ?_⟩
    refine ⟨fun c => absurd c (show (¬ ((4 : Int) = 2)) from by decide), fun _ => ?_⟩
    refine ⟨fun c => absurd c (show (¬ ((4 : Int) = 3)) from by decide), fun _ => ?_⟩
    refine ⟨fun _ => ?_, fun c => absurd (show ((4 : Int) = 4) from by decide) c⟩
    refine ⟨rfl, ?_⟩
    refine ⟨⟨_, rfl, (by decide)⟩, ?_⟩
    refine Call_wp (lv := [some (vr 218), some (vr 4111), none]) (by decide) ckX9_isMark [] rfl rfl ?_
    refine ⟨_, rfl, (by decide), ?_⟩
    refine ⟨_, rfl, (by decide), ?_⟩
    refine ⟨⟨5, (by decide), rfl⟩, ?_⟩
    refine Call_wp (lv := [some (vr 4111)]) (by decide) ckJ0_length_8abf5 [] rfl rfl ?_
    refine ⟨5, (by decide), rfl, ?_⟩
    refine Or.inr (Or.inr ⟨5, (by decide), rfl, ?_⟩)
    refine ⟨⟨5, (by decide), rfl⟩, ?_⟩
    refine Call_wp (lv := [some (vr 4111)]) (by decide) ckJ0_coder_7d493 [] rfl rfl ?_
    refine ⟨fun c => absurd c (show (¬ ((1 : Int) = 0)) from by decide), fun _ => ?_⟩
    refine ⟨5, (by decide), rfl, ?_⟩
    refine ⟨rfl, (by decide), ?_⟩
    refine ⟨rfl, ?_⟩
    refine ⟨fun c => absurd c (show (¬ ((0 : Int) = 4)) from by decide), fun _ => ?_⟩
    refine ⟨rfl, (by decide), ?_⟩
    refine ⟨fun _ => ?_, fun c => absurd (show ((0 : Int) = 0) from by decide) c⟩
    refine ⟨fun c => absurd c (show (¬ ((5 : Int) < 5)) from by decide), fun _ => ?_⟩
    refine Call_wp (lv := [some (vi 5)]) (by decide) ckX9_wordOf [] rfl rfl ?_
    refine ⟨fun c => absurd c (show (¬ ((5 : Int) = 0)) from by decide), fun _ => ?_⟩
    refine ⟨fun c => absurd c (show (¬ ((5 : Int) = 1)) from by decide), fun _ => ?_⟩
    refine ⟨fun c => absurd c (show (¬ ((5 : Int) = 2)) from by decide), fun _ => ?_⟩
    refine ⟨fun c => absurd c (show (¬ ((5 : Int) = 3)) from by decide), fun _ => ?_⟩
    refine ⟨fun c => absurd c (show (¬ ((5 : Int) = 4)) from by decide), fun _ => ?_⟩
    refine ⟨rfl, ?_⟩
    refine ⟨⟨_, rfl, (by decide)⟩, ?_⟩
    refine Call_wp (lv := [some (vr 218), some (vr 4112), none]) (by decide) ckX9_isMark [] rfl rfl ?_
    refine ⟨_, rfl, (by decide), ?_⟩
    refine ⟨_, rfl, (by decide), ?_⟩
    refine ⟨⟨6, (by decide), rfl⟩, ?_⟩
    refine Call_wp (lv := [some (vr 4112)]) (by decide) ckJ0_length_8abf5 [] rfl rfl ?_
    refine ⟨6, (by decide), rfl, ?_⟩
    refine Or.inr (Or.inr ⟨6, (by decide), rfl, ?_⟩)
    refine ⟨⟨6, (by decide), rfl⟩, ?_⟩
    refine Call_wp (lv := [some (vr 4112)]) (by decide) ckJ0_coder_7d493 [] rfl rfl ?_
    refine ⟨fun c => absurd c (show (¬ ((1 : Int) = 0)) from by decide), fun _ => ?_⟩
    refine ⟨6, (by decide), rfl, ?_⟩
    refine ⟨rfl, (by decide), ?_⟩
    refine ⟨rfl, ?_⟩
    refine ⟨fun c => absurd c (show (¬ ((0 : Int) = 4)) from by decide), fun _ => ?_⟩
    refine ⟨rfl, (by decide), ?_⟩
    refine ⟨fun _ => ?_, fun c => absurd (show ((0 : Int) = 0) from by decide) c⟩
    refine ⟨fun _ => ?_, fun c => absurd (show ((5 : Int) < 6) from by decide) c⟩
    refine ⟨rfl, ?_⟩
    refine ⟨fun c => absurd c (show (¬ ((0 : Int) ≤ (-1))) from by decide), fun _ => ?_⟩
    refine ⟨rfl, (by decide), ?_⟩
    refine ⟨fun c => absurd (show ((0 : Int) = 0) from by decide) c, fun _ => ?_⟩
    refine ⟨_, rfl, (by decide), ?_⟩
    refine ⟨rfl, ?_⟩
    refine ⟨_, rfl, (by decide), ?_⟩
    refine fun w0 hw0 => ?_; obtain rfl : w0 = some 1 := hw0.symm.trans (FS.g hF rfl)
    refine ⟨_, rfl, (by decide), ?_⟩
    refine ⟨fun c => absurd c (show (¬ ((0 : Int) < 0)) from by decide), fun _ => ?_⟩
    have e : fx_program v0 = (-10) := by (unfold fx_program; (repeat' split) <;> first | rfl | omega | (simp only [wr, wl] at *; omega))
    rw [e] at hQ
    exact ⟨rfl, hQ _ _ (FS.u hF rfl) (MS.u (MS.u (MS.u (MS.u (MS.u (MS.u (MS.u MS.r (by decide)) (by decide)) (by decide)) (by decide)) (by decide)) (by decide)) (by decide))⟩
  ·
    refine ⟨⟨_, rfl, (by decide)⟩, ?_⟩
    refine s_X11_refuse hF (e := 1) (by decide) ?_
    have r3 : (I 203 1) = 0 := (hX.i rfl)
    have e : fx_program v0 = (-1000001) := by (unfold fx_program; (repeat' split) <;> first | rfl | omega | (simp only [wr, wl] at *; omega))
    rw [e] at hQ
    exact ⟨rfl, hQ _ _ hF (MS.u MS.r (by decide))⟩
theorem x_run (hF : FS F) (hX : FX I) {v0 v1 : Int} (rv0 : iR v0) (rv1 : iR v1) (hQ : ∀ F' I', FS F' → MS I I' → Q (some (vi ((-1000001)))) F' I') : CallN G (d + 12) kX11_run [vr 0, vi v0, vi v1] NP F I Q := by
  unfold iR at *
  refine Call_wp (lv := [some (vr 0), some (vi v0), some (vi v1), none, none]) (by decide) ckX11_run [] rfl rfl ?_
  refine ⟨_, rfl, (by decide), ?_⟩
  refine fun w0 hw0 => ?_; obtain rfl : w0 = some 1 := hw0.symm.trans (FS.g hF rfl)
  refine ⟨⟨_, rfl, (by decide)⟩, ?_⟩
  refine s_X8_programAt hF (S := 1) (Or.inl rfl) (fun (w1 : (0 ≤ v0 ∧ v0 < 4)) => ?_) (fun (w1 : ¬ (0 ≤ v0 ∧ v0 < 4)) => ?_)
  ·
    refine ⟨_, rfl, (by decide), ?_⟩
    refine fun w0 hw0 => ?_; obtain rfl : w0 = some 1 := hw0.symm.trans (FS.g hF rfl)
    refine ⟨⟨_, rfl, (by decide)⟩, ?_⟩
    have r2 : (I 1 1) = 0 := (hX.i rfl)
    refine s_X8_pieceAt hF (S := 1) (Or.inl rfl) (fun hw => absurd hw (show ¬ (0 ≤ v1 ∧ v1 < (I 1 1) ∧ v1 < 14) from by omega)) (fun _ => ?_)
    refine ⟨⟨_, rfl, (by decide)⟩, ?_⟩
    refine s_X11_refuse hF (e := 1) (by decide) ?_
    have r3 : (I 203 1) = 0 := (hX.i rfl)
    have e : (-1000001) = (-1000001) := by (skip; (repeat' split) <;> first | rfl | omega | (simp only [wr, wl] at *; omega))
    rw [e] at hQ
    exact ⟨rfl, hQ _ _ hF (MS.u MS.r (by decide))⟩
  ·
    refine ⟨_, rfl, (by decide), ?_⟩
    refine fun w0 hw0 => ?_; obtain rfl : w0 = some 1 := hw0.symm.trans (FS.g hF rfl)
    refine ⟨⟨_, rfl, (by decide)⟩, ?_⟩
    have r4 : (I 1 1) = 0 := (hX.i rfl)
    refine s_X8_pieceAt hF (S := 1) (Or.inl rfl) (fun hw => absurd hw (show ¬ (0 ≤ v1 ∧ v1 < (I 1 1) ∧ v1 < 14) from by omega)) (fun _ => ?_)
    refine ⟨⟨_, rfl, (by decide)⟩, ?_⟩
    refine s_X11_refuse hF (e := 1) (by decide) ?_
    have r5 : (I 203 1) = 0 := (hX.i rfl)
    have e : (-1000001) = (-1000001) := by (skip; (repeat' split) <;> first | rfl | omega | (simp only [wr, wl] at *; omega))
    rw [e] at hQ
    exact ⟨rfl, hQ _ _ hF (MS.u MS.r (by decide))⟩
theorem x_ran (hF : FS F) (hX : FX I) {v0 : Int} (rv0 : iR v0) (hQ : ∀ F' I', FS F' → MS I I' → Q (some (vi (fx_ran v0))) F' I') : CallN G (d + 12) kX11_ran [vr 0, vi v0] NP F I Q := by
  unfold iR at *
  refine Call_wp (lv := [some (vr 0), some (vi v0)]) (by decide) ckX11_ran [] rfl rfl ?_
  refine s_X11_within (fun (w1 : ((0 : Int) ≤ v0 ∧ (v0 : Int) ≤ 3)) => ?_) (fun (w1 : ¬ ((0 : Int) ≤ v0 ∧ (v0 : Int) ≤ 3)) => ?_)
  ·
    refine ⟨fun _ => ?_, fun c => absurd c (show (¬ (1 : Int) = 0) from by decide)⟩
    refine ⟨_, rfl, (by decide), ?_⟩
    refine fun w0 hw0 => ?_; obtain rfl : w0 = some 1 := hw0.symm.trans (FS.g hF rfl)
    refine ⟨_, rfl, (by decide), ?_⟩
    have r2 : (I 1 7) = 0 := (hX.i rfl)
    refine ⟨fun _ => ?_, fun c => absurd (show (((I 1 7) : Int) = 0) from by first | omega | (simp only [wr, wl] at *; omega)) c⟩
    refine ⟨⟨_, rfl, (by decide)⟩, ?_⟩
    refine s_X11_refuse hF (e := 2) (by decide) ?_
    have r3 : (I 203 2) = 0 := (hX.i rfl)
    have e : fx_ran v0 = (-1000002) := by (unfold fx_ran; (repeat' split) <;> first | rfl | omega | (simp only [wr, wl] at *; omega))
    rw [e] at hQ
    exact ⟨rfl, hQ _ _ hF (MS.u MS.r (by decide))⟩
  ·
    refine ⟨fun c => absurd (show ((0 : Int) = 0) from by decide) c, fun _ => ?_⟩
    refine ⟨⟨_, rfl, (by decide)⟩, ?_⟩
    refine s_X11_refuse hF (e := 1) (by decide) ?_
    have r4 : (I 203 1) = 0 := (hX.i rfl)
    have e : fx_ran v0 = (-1000001) := by (unfold fx_ran; (repeat' split) <;> first | rfl | omega | (simp only [wr, wl] at *; omega))
    rw [e] at hQ
    exact ⟨rfl, hQ _ _ hF (MS.u MS.r (by decide))⟩
theorem x_line (hF : FS F) (hX : FX I) {v0 v1 : Int} (rv0 : iR v0) (rv1 : iR v1) (hQ : ∀ F' I', FS F' → MS I I' → Q (some (vi ((-1000001)))) F' I') : CallN G (d + 12) kX11_line [vr 0, vi v0, vi v1] NP F I Q := by
  unfold iR at *
  refine Call_wp (lv := [some (vr 0), some (vi v0), some (vi v1), none, none]) (by decide) ckX11_line [] rfl rfl ?_
  refine ⟨_, rfl, (by decide), ?_⟩
  refine fun w0 hw0 => ?_; obtain rfl : w0 = some 1 := hw0.symm.trans (FS.g hF rfl)
  refine ⟨⟨_, rfl, (by decide)⟩, ?_⟩
  have r1 : (I 1 1) = 0 := (hX.i rfl)
  refine s_X8_pieceAt hF (S := 1) (Or.inl rfl) (fun hw => absurd hw (show ¬ (0 ≤ v0 ∧ v0 < (I 1 1) ∧ v0 < 14) from by omega)) (fun _ => ?_)
  refine ⟨⟨_, rfl, (by decide)⟩, ?_⟩
  refine s_X11_refuse hF (e := 1) (by decide) ?_
  have r2 : (I 203 1) = 0 := (hX.i rfl)
  have e : (-1000001) = (-1000001) := by (skip; (repeat' split) <;> first | rfl | omega | (simp only [wr, wl] at *; omega))
  rw [e] at hQ
  exact ⟨rfl, hQ _ _ hF (MS.u MS.r (by decide))⟩
theorem x_yields (hF : FS F) (hX : FX I) {v0 v1 : Int} (rv0 : iR v0) (rv1 : iR v1) (hQ : ∀ F' I', FS F' → MS I I' → Q (some (vi ((-1000001)))) F' I') : CallN G (d + 12) kX11_yields [vr 0, vi v0, vi v1] NP F I Q := by
  unfold iR at *
  refine Call_wp (lv := [some (vr 0), some (vi v0), some (vi v1), none]) (by decide) ckX11_yields [] rfl rfl ?_
  refine ⟨_, rfl, (by decide), ?_⟩
  refine fun w0 hw0 => ?_; obtain rfl : w0 = some 1 := hw0.symm.trans (FS.g hF rfl)
  refine ⟨⟨_, rfl, (by decide)⟩, ?_⟩
  have r1 : (I 1 1) = 0 := (hX.i rfl)
  refine s_X8_pieceAt hF (S := 1) (Or.inl rfl) (fun hw => absurd hw (show ¬ (0 ≤ v0 ∧ v0 < (I 1 1) ∧ v0 < 14) from by omega)) (fun _ => ?_)
  refine ⟨⟨_, rfl, (by decide)⟩, ?_⟩
  refine s_X11_refuse hF (e := 1) (by decide) ?_
  have r2 : (I 203 1) = 0 := (hX.i rfl)
  have e : (-1000001) = (-1000001) := by (skip; (repeat' split) <;> first | rfl | omega | (simp only [wr, wl] at *; omega))
  rw [e] at hQ
  exact ⟨rfl, hQ _ _ hF (MS.u MS.r (by decide))⟩
theorem x_top (hF : FS F) (hX : FX I) {v0 : Int} (rv0 : iR v0) (hQ : ∀ F' I', FS F' → MS I I' → Q (some (vi ((-1000001)))) F' I') : CallN G (d + 12) kX11_top [vr 0, vi v0] NP F I Q := by
  unfold iR at *
  refine Call_wp (lv := [some (vr 0), some (vi v0), none]) (by decide) ckX11_top [] rfl rfl ?_
  refine ⟨_, rfl, (by decide), ?_⟩
  refine fun w0 hw0 => ?_; obtain rfl : w0 = some 1 := hw0.symm.trans (FS.g hF rfl)
  refine ⟨⟨_, rfl, (by decide)⟩, ?_⟩
  have r1 : (I 1 1) = 0 := (hX.i rfl)
  refine s_X8_pieceAt hF (S := 1) (Or.inl rfl) (fun hw => absurd hw (show ¬ (0 ≤ v0 ∧ v0 < (I 1 1) ∧ v0 < 14) from by omega)) (fun _ => ?_)
  refine ⟨⟨_, rfl, (by decide)⟩, ?_⟩
  refine s_X11_refuse hF (e := 1) (by decide) ?_
  have r2 : (I 203 1) = 0 := (hX.i rfl)
  have e : (-1000001) = (-1000001) := by (skip; (repeat' split) <;> first | rfl | omega | (simp only [wr, wl] at *; omega))
  rw [e] at hQ
  exact ⟨rfl, hQ _ _ hF (MS.u MS.r (by decide))⟩
theorem x_breaks (hF : FS F) (hX : FX I) {v0 v1 : Int} (rv0 : iR v0) (rv1 : iR v1) (hQ : ∀ F' I', FS F' → MS I I' → Q (some (vi ((-1000001)))) F' I') : CallN G (d + 12) kX11_breaks [vr 0, vi v0, vi v1] NP F I Q := by
  unfold iR at *
  refine Call_wp (lv := [some (vr 0), some (vi v0), some (vi v1), none]) (by decide) ckX11_breaks [] rfl rfl ?_
  refine ⟨_, rfl, (by decide), ?_⟩
  refine fun w0 hw0 => ?_; obtain rfl : w0 = some 1 := hw0.symm.trans (FS.g hF rfl)
  refine ⟨⟨_, rfl, (by decide)⟩, ?_⟩
  have r1 : (I 1 1) = 0 := (hX.i rfl)
  refine s_X8_pieceAt hF (S := 1) (Or.inl rfl) (fun hw => absurd hw (show ¬ (0 ≤ v0 ∧ v0 < (I 1 1) ∧ v0 < 14) from by omega)) (fun _ => ?_)
  refine ⟨⟨_, rfl, (by decide)⟩, ?_⟩
  refine s_X11_refuse hF (e := 1) (by decide) ?_
  have r2 : (I 203 1) = 0 := (hX.i rfl)
  have e : (-1000001) = (-1000001) := by (skip; (repeat' split) <;> first | rfl | omega | (simp only [wr, wl] at *; omega))
  rw [e] at hQ
  exact ⟨rfl, hQ _ _ hF (MS.u MS.r (by decide))⟩
theorem x_spent (hF : FS F) (hX : FX I) {v0 v1 : Int} (rv0 : iR v0) (rv1 : iR v1) (hQ : ∀ F' I', FS F' → MS I I' → Q (some (vl ((-1000001)))) F' I') : CallN G (d + 12) kX11_spent [vr 0, vi v0, vi v1] NP F I Q := by
  unfold iR at *
  refine Call_wp (lv := [some (vr 0), some (vi v0), some (vi v1), none]) (by decide) ckX11_spent [] rfl rfl ?_
  refine ⟨_, rfl, (by decide), ?_⟩
  refine fun w0 hw0 => ?_; obtain rfl : w0 = some 1 := hw0.symm.trans (FS.g hF rfl)
  refine ⟨⟨_, rfl, (by decide)⟩, ?_⟩
  have r1 : (I 1 1) = 0 := (hX.i rfl)
  refine s_X8_pieceAt hF (S := 1) (Or.inl rfl) (fun hw => absurd hw (show ¬ (0 ≤ v0 ∧ v0 < (I 1 1) ∧ v0 < 14) from by omega)) (fun _ => ?_)
  refine ⟨⟨_, rfl, (by decide)⟩, ?_⟩
  refine s_X11_refuse hF (e := 1) (by decide) ?_
  have r2 : (I 203 1) = 0 := (hX.i rfl)
  have e : (-1000001) = (-1000001) := by (skip; (repeat' split) <;> first | rfl | omega | (simp only [wr, wl] at *; omega))
  rw [e] at hQ
  exact ⟨rfl, hQ _ _ hF (MS.u MS.r (by decide))⟩
theorem x_number (hF : FS F) (hX : FX I) {v0 v1 : Int} (rv0 : iR v0) (rv1 : iR v1) (hQ : ∀ F' I', FS F' → MS I I' → Q (some (vi ((-1000001)))) F' I') : CallN G (d + 12) kX11_number [vr 0, vi v0, vi v1] NP F I Q := by
  unfold iR at *
  refine Call_wp (lv := [some (vr 0), some (vi v0), some (vi v1), none]) (by decide) ckX11_number [] rfl rfl ?_
  refine ⟨_, rfl, (by decide), ?_⟩
  refine fun w0 hw0 => ?_; obtain rfl : w0 = some 1 := hw0.symm.trans (FS.g hF rfl)
  refine ⟨⟨_, rfl, (by decide)⟩, ?_⟩
  have r1 : (I 1 1) = 0 := (hX.i rfl)
  refine s_X8_pieceAt hF (S := 1) (Or.inl rfl) (fun hw => absurd hw (show ¬ (0 ≤ v0 ∧ v0 < (I 1 1) ∧ v0 < 14) from by omega)) (fun _ => ?_)
  refine ⟨⟨_, rfl, (by decide)⟩, ?_⟩
  refine s_X11_refuse hF (e := 1) (by decide) ?_
  have r2 : (I 203 1) = 0 := (hX.i rfl)
  have e : (-1000001) = (-1000001) := by (skip; (repeat' split) <;> first | rfl | omega | (simp only [wr, wl] at *; omega))
  rw [e] at hQ
  exact ⟨rfl, hQ _ _ hF (MS.u MS.r (by decide))⟩
theorem x_curve (hF : FS F) (hX : FX I) {v0 v1 v2 : Int} (rv0 : iR v0) (rv1 : iR v1) (rv2 : iR v2) (hQ : ∀ F' I', FS F' → MS I I' → Q (some (vi (fx_curve v0 v1 v2))) F' I') : CallN G (d + 12) kX11_curve [vr 0, vi v0, vi v1, vi v2] NP F I Q := by
  unfold iR at *
  refine Call_wp (lv := [some (vr 0), some (vi v0), some (vi v1), some (vi v2), none]) (by decide) ckX11_curve [] rfl rfl ?_
  refine s_X11_isLot (fun (w1 : ((0 : Int) ≤ v0 ∧ (v0 : Int) ≤ 3)) => ?_) (fun (w1 : ¬ ((0 : Int) ≤ v0 ∧ (v0 : Int) ≤ 3)) => ?_)
  ·
    refine ⟨fun c => absurd c (show (¬ ((1 : Int) = 0)) from by decide), fun _ => ?_⟩
    refine s_X11_isStretch (fun (w2 : ((0 : Int) ≤ v1 ∧ (v1 : Int) ≤ 999)) => ?_) (fun (w2 : ¬ ((0 : Int) ≤ v1 ∧ (v1 : Int) ≤ 999)) => ?_)
    ·
      refine ⟨fun c => absurd c (show (¬ ((1 : Int) = 0)) from by decide), fun _ => ?_⟩
      refine s_X11_within (fun (w3 : ((0 : Int) ≤ v2 ∧ (v2 : Int) ≤ 3)) => ?_) (fun (w3 : ¬ ((0 : Int) ≤ v2 ∧ (v2 : Int) ≤ 3)) => ?_)
      ·
        refine ⟨fun _ => ?_, fun c => absurd c (show (¬ (1 : Int) = 0) from by decide)⟩
        refine ⟨⟨_, rfl, (by decide)⟩, ?_⟩
        refine Call_wp (lv := [some (vr 0), some (vi v0), some (vi v1), none, none, none]) (by decide) ckX11_orderCurves [] rfl rfl ?_
        refine ⟨_, rfl, (by decide), ?_⟩
        refine fun w0 hw0 => ?_; obtain rfl : w0 = some 223 := hw0.symm.trans (FS.g hF rfl)
        refine ⟨⟨_, rfl, (by decide)⟩, ?_⟩
        refine Call_wp (lv := [some (vr 223)]) (by decide) ckX3_clear [] rfl rfl ?_
        refine ⟨_, rfl, (by decide), ?_⟩
        refine ⟨rfl, ?_⟩
        refine ⟨fun c => absurd c (show (¬ ((14 : Int) ≤ 0)) from by decide), fun _ => ?_⟩
        refine ⟨_, rfl, (by decide), ?_⟩
        refine fun w0 hw0 => ?_; obtain rfl : w0 = some 1 := hw0.symm.trans (FS.g hF rfl)
        refine ⟨⟨_, rfl, (by decide)⟩, ?_⟩
        have r4 : (I 1 1) = 0 := (hX.i rfl)
        refine s_X8_pieceAt hF (S := 1) (Or.inl rfl) (fun hw => absurd hw (show ¬ (0 ≤ 0 ∧ 0 < (I 1 1) ∧ 0 < 14) from by omega)) (fun _ => ?_)
        refine ⟨fun _ => ?_, fun c => absurd (show (((-1) : Int) < 0) from by decide) c⟩
        refine ⟨fun c => absurd c (show (¬ ((14 : Int) ≤ 1)) from by decide), fun _ => ?_⟩
        refine ⟨_, rfl, (by decide), ?_⟩
        refine fun w0 hw0 => ?_; obtain rfl : w0 = some 1 := hw0.symm.trans (FS.g hF rfl)
        refine ⟨⟨_, rfl, (by decide)⟩, ?_⟩
        refine s_X8_pieceAt hF (S := 1) (Or.inl rfl) (fun hw => absurd hw (show ¬ (0 ≤ 1 ∧ 1 < (I 1 1) ∧ 1 < 14) from by omega)) (fun _ => ?_)
        refine ⟨fun _ => ?_, fun c => absurd (show (((-1) : Int) < 0) from by decide) c⟩
        refine ⟨fun c => absurd c (show (¬ ((14 : Int) ≤ 2)) from by decide), fun _ => ?_⟩
        refine ⟨_, rfl, (by decide), ?_⟩
        refine fun w0 hw0 => ?_; obtain rfl : w0 = some 1 := hw0.symm.trans (FS.g hF rfl)
        refine ⟨⟨_, rfl, (by decide)⟩, ?_⟩
        refine s_X8_pieceAt hF (S := 1) (Or.inl rfl) (fun hw => absurd hw (show ¬ (0 ≤ 2 ∧ 2 < (I 1 1) ∧ 2 < 14) from by omega)) (fun _ => ?_)
        refine ⟨fun _ => ?_, fun c => absurd (show (((-1) : Int) < 0) from by decide) c⟩
        refine ⟨fun c => absurd c (show (¬ ((14 : Int) ≤ 3)) from by decide), fun _ => ?_⟩
        refine ⟨_, rfl, (by decide), ?_⟩
        refine fun w0 hw0 => ?_; obtain rfl : w0 = some 1 := hw0.symm.trans (FS.g hF rfl)
        refine ⟨⟨_, rfl, (by decide)⟩, ?_⟩
        refine s_X8_pieceAt hF (S := 1) (Or.inl rfl) (fun hw => absurd hw (show ¬ (0 ≤ 3 ∧ 3 < (I 1 1) ∧ 3 < 14) from by omega)) (fun _ => ?_)
        refine ⟨fun _ => ?_, fun c => absurd (show (((-1) : Int) < 0) from by decide) c⟩
        refine ⟨fun c => absurd c (show (¬ ((14 : Int) ≤ 4)) from by decide), fun _ => ?_⟩
        refine ⟨_, rfl, (by decide), ?_⟩
        refine fun w0 hw0 => ?_; obtain rfl : w0 = some 1 := hw0.symm.trans (FS.g hF rfl)
        refine ⟨⟨_, rfl, (by decide)⟩, ?_⟩
        refine s_X8_pieceAt hF (S := 1) (Or.inl rfl) (fun hw => absurd hw (show ¬ (0 ≤ 4 ∧ 4 < (I 1 1) ∧ 4 < 14) from by omega)) (fun _ => ?_)
        refine ⟨fun _ => ?_, fun c => absurd (show (((-1) : Int) < 0) from by decide) c⟩
        refine ⟨fun c => absurd c (show (¬ ((14 : Int) ≤ 5)) from by decide), fun _ => ?_⟩
        refine ⟨_, rfl, (by decide), ?_⟩
        refine fun w0 hw0 => ?_; obtain rfl : w0 = some 1 := hw0.symm.trans (FS.g hF rfl)
        refine ⟨⟨_, rfl, (by decide)⟩, ?_⟩
        refine s_X8_pieceAt hF (S := 1) (Or.inl rfl) (fun hw => absurd hw (show ¬ (0 ≤ 5 ∧ 5 < (I 1 1) ∧ 5 < 14) from by omega)) (fun _ => ?_)
        refine ⟨fun _ => ?_, fun c => absurd (show (((-1) : Int) < 0) from by decide) c⟩
        refine ⟨fun c => absurd c (show (¬ ((14 : Int) ≤ 6)) from by decide), fun _ => ?_⟩
        refine ⟨_, rfl, (by decide), ?_⟩
        refine fun w0 hw0 => ?_; obtain rfl : w0 = some 1 := hw0.symm.trans (FS.g hF rfl)
        refine ⟨⟨_, rfl, (by decide)⟩, ?_⟩
        refine s_X8_pieceAt hF (S := 1) (Or.inl rfl) (fun hw => absurd hw (show ¬ (0 ≤ 6 ∧ 6 < (I 1 1) ∧ 6 < 14) from by omega)) (fun _ => ?_)
        refine ⟨fun _ => ?_, fun c => absurd (show (((-1) : Int) < 0) from by decide) c⟩
        refine ⟨fun c => absurd c (show (¬ ((14 : Int) ≤ 7)) from by decide), fun _ => ?_⟩
        refine ⟨_, rfl, (by decide), ?_⟩
        refine fun w0 hw0 => ?_; obtain rfl : w0 = some 1 := hw0.symm.trans (FS.g hF rfl)
        refine ⟨⟨_, rfl, (by decide)⟩, ?_⟩
        refine s_X8_pieceAt hF (S := 1) (Or.inl rfl) (fun hw => absurd hw (show ¬ (0 ≤ 7 ∧ 7 < (I 1 1) ∧ 7 < 14) from by omega)) (fun _ => ?_)
        refine ⟨fun _ => ?_, fun c => absurd (show (((-1) : Int) < 0) from by decide) c⟩
        refine ⟨fun c => absurd c (show (¬ ((14 : Int) ≤ 8)) from by decide), fun _ => ?_⟩
        refine ⟨_, rfl, (by decide), ?_⟩
        refine fun w0 hw0 => ?_; obtain rfl : w0 = some 1 := hw0.symm.trans (FS.g hF rfl)
        refine ⟨⟨_, rfl, (by decide)⟩, ?_⟩
        refine s_X8_pieceAt hF (S := 1) (Or.inl rfl) (fun hw => absurd hw (show ¬ (0 ≤ 8 ∧ 8 < (I 1 1) ∧ 8 < 14) from by omega)) (fun _ => ?_)
        refine ⟨fun _ => ?_, fun c => absurd (show (((-1) : Int) < 0) from by decide) c⟩
        refine ⟨fun c => absurd c (show (¬ ((14 : Int) ≤ 9)) from by decide), fun _ => ?_⟩
        refine ⟨_, rfl, (by decide), ?_⟩
        refine fun w0 hw0 => ?_; obtain rfl : w0 = some 1 := hw0.symm.trans (FS.g hF rfl)
        refine ⟨⟨_, rfl, (by decide)⟩, ?_⟩
        refine s_X8_pieceAt hF (S := 1) (Or.inl rfl) (fun hw => absurd hw (show ¬ (0 ≤ 9 ∧ 9 < (I 1 1) ∧ 9 < 14) from by omega)) (fun _ => ?_)
        refine ⟨fun _ => ?_, fun c => absurd (show (((-1) : Int) < 0) from by decide) c⟩
        refine ⟨fun c => absurd c (show (¬ ((14 : Int) ≤ 10)) from by decide), fun _ => ?_⟩
        refine ⟨_, rfl, (by decide), ?_⟩
        refine fun w0 hw0 => ?_; obtain rfl : w0 = some 1 := hw0.symm.trans (FS.g hF rfl)
        refine ⟨⟨_, rfl, (by decide)⟩, ?_⟩
        refine s_X8_pieceAt hF (S := 1) (Or.inl rfl) (fun hw => absurd hw (show ¬ (0 ≤ 10 ∧ 10 < (I 1 1) ∧ 10 < 14) from by omega)) (fun _ => ?_)
        refine ⟨fun _ => ?_, fun c => absurd (show (((-1) : Int) < 0) from by decide) c⟩
        refine ⟨fun c => absurd c (show (¬ ((14 : Int) ≤ 11)) from by decide), fun _ => ?_⟩
        refine ⟨_, rfl, (by decide), ?_⟩
        refine fun w0 hw0 => ?_; obtain rfl : w0 = some 1 := hw0.symm.trans (FS.g hF rfl)
        refine ⟨⟨_, rfl, (by decide)⟩, ?_⟩
        refine s_X8_pieceAt hF (S := 1) (Or.inl rfl) (fun hw => absurd hw (show ¬ (0 ≤ 11 ∧ 11 < (I 1 1) ∧ 11 < 14) from by omega)) (fun _ => ?_)
        refine ⟨fun _ => ?_, fun c => absurd (show (((-1) : Int) < 0) from by decide) c⟩
        refine ⟨fun c => absurd c (show (¬ ((14 : Int) ≤ 12)) from by decide), fun _ => ?_⟩
        refine ⟨_, rfl, (by decide), ?_⟩
        refine fun w0 hw0 => ?_; obtain rfl : w0 = some 1 := hw0.symm.trans (FS.g hF rfl)
        refine ⟨⟨_, rfl, (by decide)⟩, ?_⟩
        refine s_X8_pieceAt hF (S := 1) (Or.inl rfl) (fun hw => absurd hw (show ¬ (0 ≤ 12 ∧ 12 < (I 1 1) ∧ 12 < 14) from by omega)) (fun _ => ?_)
        refine ⟨fun _ => ?_, fun c => absurd (show (((-1) : Int) < 0) from by decide) c⟩
        refine ⟨fun c => absurd c (show (¬ ((14 : Int) ≤ 13)) from by decide), fun _ => ?_⟩
        refine ⟨_, rfl, (by decide), ?_⟩
        refine fun w0 hw0 => ?_; obtain rfl : w0 = some 1 := hw0.symm.trans (FS.g hF rfl)
        refine ⟨⟨_, rfl, (by decide)⟩, ?_⟩
        refine s_X8_pieceAt hF (S := 1) (Or.inl rfl) (fun hw => absurd hw (show ¬ (0 ≤ 13 ∧ 13 < (I 1 1) ∧ 13 < 14) from by omega)) (fun _ => ?_)
        refine ⟨fun _ => ?_, fun c => absurd (show (((-1) : Int) < 0) from by decide) c⟩
        refine ⟨fun _ => ?_, fun c => absurd (show ((14 : Int) ≤ 14) from by decide) c⟩
        refine ⟨rfl, ?_⟩
        refine ⟨fun (c5 : (¬ (v2 : Int) = 3)) => ?_, fun (c5 : ((v2 : Int) = 3)) => ?_⟩
        ·
          refine ⟨_, rfl, (by decide), ?_⟩
          refine fun w0 hw0 => ?_; obtain rfl : w0 = some 223 := hw0.symm.trans (FS.g hF rfl)
          refine ⟨_, rfl, (by decide), ?_⟩
          refine ⟨fun c => absurd (show ((0 : Int) = 0) from by decide) c, fun _ => ?_⟩
          refine ⟨⟨_, rfl, (by decide)⟩, ?_⟩
          refine s_X11_refuse hF (e := 2) (by decide) ?_
          have r6 : (I 203 2) = 0 := (hX.i rfl)
          have e : fx_curve v0 v1 v2 = (-1000002) := by (unfold fx_curve; (repeat' split) <;> first | rfl | omega | (simp only [wr, wl] at *; omega))
          rw [e] at hQ
          exact ⟨rfl, hQ _ _ hF (MS.u (MS.u MS.r (by decide)) (by decide))⟩
        ·
          refine ⟨_, rfl, (by decide), ?_⟩
          refine fun w0 hw0 => ?_; obtain rfl : w0 = some 223 := hw0.symm.trans (FS.g hF rfl)
          refine ⟨_, rfl, (by decide), ?_⟩
          have e : fx_curve v0 v1 v2 = 0 := by (unfold fx_curve; (repeat' split) <;> first | rfl | omega | (simp only [wr, wl] at *; omega))
          rw [e] at hQ
          exact ⟨rfl, hQ _ _ hF (MS.u MS.r (by decide))⟩
      ·
        refine ⟨fun c => absurd (show ((0 : Int) = 0) from by decide) c, fun _ => ?_⟩
        refine ⟨⟨_, rfl, (by decide)⟩, ?_⟩
        refine s_X11_refuse hF (e := 1) (by decide) ?_
        have r7 : (I 203 1) = 0 := (hX.i rfl)
        have e : fx_curve v0 v1 v2 = (-1000001) := by (unfold fx_curve; (repeat' split) <;> first | rfl | omega | (simp only [wr, wl] at *; omega))
        rw [e] at hQ
        exact ⟨rfl, hQ _ _ hF (MS.u MS.r (by decide))⟩
    ·
      refine ⟨fun _ => ?_, fun c => absurd (show ((0 : Int) = 0) from by decide) c⟩
      refine ⟨⟨_, rfl, (by decide)⟩, ?_⟩
      refine s_X11_refuse hF (e := 1) (by decide) ?_
      have r8 : (I 203 1) = 0 := (hX.i rfl)
      have e : fx_curve v0 v1 v2 = (-1000001) := by (unfold fx_curve; (repeat' split) <;> first | rfl | omega | (simp only [wr, wl] at *; omega))
      rw [e] at hQ
      exact ⟨rfl, hQ _ _ hF (MS.u MS.r (by decide))⟩
  ·
    refine ⟨fun _ => ?_, fun c => absurd (show ((0 : Int) = 0) from by decide) c⟩
    refine ⟨⟨_, rfl, (by decide)⟩, ?_⟩
    refine s_X11_refuse hF (e := 1) (by decide) ?_
    have r9 : (I 203 1) = 0 := (hX.i rfl)
    have e : fx_curve v0 v1 v2 = (-1000001) := by (unfold fx_curve; (repeat' split) <;> first | rfl | omega | (simp only [wr, wl] at *; omega))
    rw [e] at hQ
    exact ⟨rfl, hQ _ _ hF (MS.u MS.r (by decide))⟩
theorem x_odd (hF : FS F) (hX : FX I) {v0 v1 v2 : Int} (rv0 : iR v0) (rv1 : iR v1) (rv2 : iR v2) (hQ : ∀ F' I', FS F' → MS I I' → Q (some (vi (fx_odd v0 v1 v2))) F' I') : CallN G (d + 12) kX11_odd [vr 0, vi v0, vi v1, vi v2] NP F I Q := by
  unfold iR at *
  refine Call_wp (lv := [some (vr 0), some (vi v0), some (vi v1), some (vi v2)]) (by decide) ckX11_odd [] rfl rfl ?_
  refine s_X11_isLot (fun (w1 : ((0 : Int) ≤ v0 ∧ (v0 : Int) ≤ 3)) => ?_) (fun (w1 : ¬ ((0 : Int) ≤ v0 ∧ (v0 : Int) ≤ 3)) => ?_)
  ·
    refine ⟨fun c => absurd c (show (¬ ((1 : Int) = 0)) from by decide), fun _ => ?_⟩
    refine s_X11_isLaw (fun (w2 : ((0 : Int) ≤ v1 ∧ (v1 : Int) ≤ 3)) => ?_) (fun (w2 : ¬ ((0 : Int) ≤ v1 ∧ (v1 : Int) ≤ 3)) => ?_)
    ·
      refine ⟨fun c => absurd c (show (¬ ((1 : Int) = 0)) from by decide), fun _ => ?_⟩
      refine s_X11_within (fun (w3 : ((0 : Int) ≤ v2 ∧ (v2 : Int) ≤ 100)) => ?_) (fun (w3 : ¬ ((0 : Int) ≤ v2 ∧ (v2 : Int) ≤ 100)) => ?_)
      ·
        refine ⟨fun _ => ?_, fun c => absurd c (show (¬ (1 : Int) = 0) from by decide)⟩
        refine ⟨⟨_, rfl, (by decide)⟩, ?_⟩
        refine Call_wp (lv := [some (vr 0), some (vi v0), some (vi v1), none, none, none]) (by decide) ckX11_orderNumbers [] rfl rfl ?_
        refine ⟨_, rfl, (by decide), ?_⟩
        refine fun w0 hw0 => ?_; obtain rfl : w0 = some 223 := hw0.symm.trans (FS.g hF rfl)
        refine ⟨⟨_, rfl, (by decide)⟩, ?_⟩
        refine Call_wp (lv := [some (vr 223)]) (by decide) ckX3_clear [] rfl rfl ?_
        refine ⟨_, rfl, (by decide), ?_⟩
        refine ⟨rfl, ?_⟩
        refine ⟨fun c => absurd c (show (¬ ((14 : Int) ≤ 0)) from by decide), fun _ => ?_⟩
        refine ⟨_, rfl, (by decide), ?_⟩
        refine fun w0 hw0 => ?_; obtain rfl : w0 = some 1 := hw0.symm.trans (FS.g hF rfl)
        refine ⟨⟨_, rfl, (by decide)⟩, ?_⟩
        have r4 : (I 1 1) = 0 := (hX.i rfl)
        refine s_X8_pieceAt hF (S := 1) (Or.inl rfl) (fun hw => absurd hw (show ¬ (0 ≤ 0 ∧ 0 < (I 1 1) ∧ 0 < 14) from by omega)) (fun _ => ?_)
        refine ⟨fun _ => ?_, fun c => absurd (show (((-1) : Int) < 0) from by decide) c⟩
        refine ⟨fun c => absurd c (show (¬ ((14 : Int) ≤ 1)) from by decide), fun _ => ?_⟩
        refine ⟨_, rfl, (by decide), ?_⟩
        refine fun w0 hw0 => ?_; obtain rfl : w0 = some 1 := hw0.symm.trans (FS.g hF rfl)
        refine ⟨⟨_, rfl, (by decide)⟩, ?_⟩
        refine s_X8_pieceAt hF (S := 1) (Or.inl rfl) (fun hw => absurd hw (show ¬ (0 ≤ 1 ∧ 1 < (I 1 1) ∧ 1 < 14) from by omega)) (fun _ => ?_)
        refine ⟨fun _ => ?_, fun c => absurd (show (((-1) : Int) < 0) from by decide) c⟩
        refine ⟨fun c => absurd c (show (¬ ((14 : Int) ≤ 2)) from by decide), fun _ => ?_⟩
        refine ⟨_, rfl, (by decide), ?_⟩
        refine fun w0 hw0 => ?_; obtain rfl : w0 = some 1 := hw0.symm.trans (FS.g hF rfl)
        refine ⟨⟨_, rfl, (by decide)⟩, ?_⟩
        refine s_X8_pieceAt hF (S := 1) (Or.inl rfl) (fun hw => absurd hw (show ¬ (0 ≤ 2 ∧ 2 < (I 1 1) ∧ 2 < 14) from by omega)) (fun _ => ?_)
        refine ⟨fun _ => ?_, fun c => absurd (show (((-1) : Int) < 0) from by decide) c⟩
        refine ⟨fun c => absurd c (show (¬ ((14 : Int) ≤ 3)) from by decide), fun _ => ?_⟩
        refine ⟨_, rfl, (by decide), ?_⟩
        refine fun w0 hw0 => ?_; obtain rfl : w0 = some 1 := hw0.symm.trans (FS.g hF rfl)
        refine ⟨⟨_, rfl, (by decide)⟩, ?_⟩
        refine s_X8_pieceAt hF (S := 1) (Or.inl rfl) (fun hw => absurd hw (show ¬ (0 ≤ 3 ∧ 3 < (I 1 1) ∧ 3 < 14) from by omega)) (fun _ => ?_)
        refine ⟨fun _ => ?_, fun c => absurd (show (((-1) : Int) < 0) from by decide) c⟩
        refine ⟨fun c => absurd c (show (¬ ((14 : Int) ≤ 4)) from by decide), fun _ => ?_⟩
        refine ⟨_, rfl, (by decide), ?_⟩
        refine fun w0 hw0 => ?_; obtain rfl : w0 = some 1 := hw0.symm.trans (FS.g hF rfl)
        refine ⟨⟨_, rfl, (by decide)⟩, ?_⟩
        refine s_X8_pieceAt hF (S := 1) (Or.inl rfl) (fun hw => absurd hw (show ¬ (0 ≤ 4 ∧ 4 < (I 1 1) ∧ 4 < 14) from by omega)) (fun _ => ?_)
        refine ⟨fun _ => ?_, fun c => absurd (show (((-1) : Int) < 0) from by decide) c⟩
        refine ⟨fun c => absurd c (show (¬ ((14 : Int) ≤ 5)) from by decide), fun _ => ?_⟩
        refine ⟨_, rfl, (by decide), ?_⟩
        refine fun w0 hw0 => ?_; obtain rfl : w0 = some 1 := hw0.symm.trans (FS.g hF rfl)
        refine ⟨⟨_, rfl, (by decide)⟩, ?_⟩
        refine s_X8_pieceAt hF (S := 1) (Or.inl rfl) (fun hw => absurd hw (show ¬ (0 ≤ 5 ∧ 5 < (I 1 1) ∧ 5 < 14) from by omega)) (fun _ => ?_)
        refine ⟨fun _ => ?_, fun c => absurd (show (((-1) : Int) < 0) from by decide) c⟩
        refine ⟨fun c => absurd c (show (¬ ((14 : Int) ≤ 6)) from by decide), fun _ => ?_⟩
        refine ⟨_, rfl, (by decide), ?_⟩
        refine fun w0 hw0 => ?_; obtain rfl : w0 = some 1 := hw0.symm.trans (FS.g hF rfl)
        refine ⟨⟨_, rfl, (by decide)⟩, ?_⟩
        refine s_X8_pieceAt hF (S := 1) (Or.inl rfl) (fun hw => absurd hw (show ¬ (0 ≤ 6 ∧ 6 < (I 1 1) ∧ 6 < 14) from by omega)) (fun _ => ?_)
        refine ⟨fun _ => ?_, fun c => absurd (show (((-1) : Int) < 0) from by decide) c⟩
        refine ⟨fun c => absurd c (show (¬ ((14 : Int) ≤ 7)) from by decide), fun _ => ?_⟩
        refine ⟨_, rfl, (by decide), ?_⟩
        refine fun w0 hw0 => ?_; obtain rfl : w0 = some 1 := hw0.symm.trans (FS.g hF rfl)
        refine ⟨⟨_, rfl, (by decide)⟩, ?_⟩
        refine s_X8_pieceAt hF (S := 1) (Or.inl rfl) (fun hw => absurd hw (show ¬ (0 ≤ 7 ∧ 7 < (I 1 1) ∧ 7 < 14) from by omega)) (fun _ => ?_)
        refine ⟨fun _ => ?_, fun c => absurd (show (((-1) : Int) < 0) from by decide) c⟩
        refine ⟨fun c => absurd c (show (¬ ((14 : Int) ≤ 8)) from by decide), fun _ => ?_⟩
        refine ⟨_, rfl, (by decide), ?_⟩
        refine fun w0 hw0 => ?_; obtain rfl : w0 = some 1 := hw0.symm.trans (FS.g hF rfl)
        refine ⟨⟨_, rfl, (by decide)⟩, ?_⟩
        refine s_X8_pieceAt hF (S := 1) (Or.inl rfl) (fun hw => absurd hw (show ¬ (0 ≤ 8 ∧ 8 < (I 1 1) ∧ 8 < 14) from by omega)) (fun _ => ?_)
        refine ⟨fun _ => ?_, fun c => absurd (show (((-1) : Int) < 0) from by decide) c⟩
        refine ⟨fun c => absurd c (show (¬ ((14 : Int) ≤ 9)) from by decide), fun _ => ?_⟩
        refine ⟨_, rfl, (by decide), ?_⟩
        refine fun w0 hw0 => ?_; obtain rfl : w0 = some 1 := hw0.symm.trans (FS.g hF rfl)
        refine ⟨⟨_, rfl, (by decide)⟩, ?_⟩
        refine s_X8_pieceAt hF (S := 1) (Or.inl rfl) (fun hw => absurd hw (show ¬ (0 ≤ 9 ∧ 9 < (I 1 1) ∧ 9 < 14) from by omega)) (fun _ => ?_)
        refine ⟨fun _ => ?_, fun c => absurd (show (((-1) : Int) < 0) from by decide) c⟩
        refine ⟨fun c => absurd c (show (¬ ((14 : Int) ≤ 10)) from by decide), fun _ => ?_⟩
        refine ⟨_, rfl, (by decide), ?_⟩
        refine fun w0 hw0 => ?_; obtain rfl : w0 = some 1 := hw0.symm.trans (FS.g hF rfl)
        refine ⟨⟨_, rfl, (by decide)⟩, ?_⟩
        refine s_X8_pieceAt hF (S := 1) (Or.inl rfl) (fun hw => absurd hw (show ¬ (0 ≤ 10 ∧ 10 < (I 1 1) ∧ 10 < 14) from by omega)) (fun _ => ?_)
        refine ⟨fun _ => ?_, fun c => absurd (show (((-1) : Int) < 0) from by decide) c⟩
        refine ⟨fun c => absurd c (show (¬ ((14 : Int) ≤ 11)) from by decide), fun _ => ?_⟩
        refine ⟨_, rfl, (by decide), ?_⟩
        refine fun w0 hw0 => ?_; obtain rfl : w0 = some 1 := hw0.symm.trans (FS.g hF rfl)
        refine ⟨⟨_, rfl, (by decide)⟩, ?_⟩
        refine s_X8_pieceAt hF (S := 1) (Or.inl rfl) (fun hw => absurd hw (show ¬ (0 ≤ 11 ∧ 11 < (I 1 1) ∧ 11 < 14) from by omega)) (fun _ => ?_)
        refine ⟨fun _ => ?_, fun c => absurd (show (((-1) : Int) < 0) from by decide) c⟩
        refine ⟨fun c => absurd c (show (¬ ((14 : Int) ≤ 12)) from by decide), fun _ => ?_⟩
        refine ⟨_, rfl, (by decide), ?_⟩
        refine fun w0 hw0 => ?_; obtain rfl : w0 = some 1 := hw0.symm.trans (FS.g hF rfl)
        refine ⟨⟨_, rfl, (by decide)⟩, ?_⟩
        refine s_X8_pieceAt hF (S := 1) (Or.inl rfl) (fun hw => absurd hw (show ¬ (0 ≤ 12 ∧ 12 < (I 1 1) ∧ 12 < 14) from by omega)) (fun _ => ?_)
        refine ⟨fun _ => ?_, fun c => absurd (show (((-1) : Int) < 0) from by decide) c⟩
        refine ⟨fun c => absurd c (show (¬ ((14 : Int) ≤ 13)) from by decide), fun _ => ?_⟩
        refine ⟨_, rfl, (by decide), ?_⟩
        refine fun w0 hw0 => ?_; obtain rfl : w0 = some 1 := hw0.symm.trans (FS.g hF rfl)
        refine ⟨⟨_, rfl, (by decide)⟩, ?_⟩
        refine s_X8_pieceAt hF (S := 1) (Or.inl rfl) (fun hw => absurd hw (show ¬ (0 ≤ 13 ∧ 13 < (I 1 1) ∧ 13 < 14) from by omega)) (fun _ => ?_)
        refine ⟨fun _ => ?_, fun c => absurd (show (((-1) : Int) < 0) from by decide) c⟩
        refine ⟨fun _ => ?_, fun c => absurd (show ((14 : Int) ≤ 14) from by decide) c⟩
        refine ⟨rfl, ?_⟩
        refine ⟨_, rfl, (by decide), ?_⟩
        refine fun w0 hw0 => ?_; obtain rfl : w0 = some 223 := hw0.symm.trans (FS.g hF rfl)
        refine ⟨⟨_, rfl, (by decide)⟩, ?_⟩
        refine Call_wp (lv := [some (vr 223), some (vi v2), none]) (by decide) ckX3_oddPiece [] rfl rfl ?_
        refine ⟨_, rfl, (by decide), ?_⟩
        refine ⟨fun _ => ?_, fun c => absurd (show ((0 : Int) < 3) from by decide) c⟩
        refine ⟨rfl, ?_⟩
        refine ⟨⟨_, rfl, (by decide)⟩, ?_⟩
        refine Call_wp (lv := [some (vr 0), some (vi (-1))]) (by decide) ckX11_orNone [] rfl rfl ?_
        refine ⟨fun c => absurd c (show (¬ ((0 : Int) ≤ (-1))) from by decide), fun _ => ?_⟩
        refine ⟨⟨_, rfl, (by decide)⟩, ?_⟩
        refine s_X11_refuse hF (e := 2) (by decide) ?_
        have r5 : (I 203 2) = 0 := (hX.i rfl)
        refine ⟨rfl, ?_⟩
        have e : fx_odd v0 v1 v2 = (-1000002) := by (unfold fx_odd; (repeat' split) <;> first | rfl | omega | (simp only [wr, wl] at *; omega))
        rw [e] at hQ
        exact ⟨rfl, hQ _ _ hF (MS.u (MS.u MS.r (by decide)) (by decide))⟩
      ·
        refine ⟨fun c => absurd (show ((0 : Int) = 0) from by decide) c, fun _ => ?_⟩
        refine ⟨⟨_, rfl, (by decide)⟩, ?_⟩
        refine s_X11_refuse hF (e := 1) (by decide) ?_
        have r6 : (I 203 1) = 0 := (hX.i rfl)
        have e : fx_odd v0 v1 v2 = (-1000001) := by (unfold fx_odd; (repeat' split) <;> first | rfl | omega | (simp only [wr, wl] at *; omega))
        rw [e] at hQ
        exact ⟨rfl, hQ _ _ hF (MS.u MS.r (by decide))⟩
    ·
      refine ⟨fun _ => ?_, fun c => absurd (show ((0 : Int) = 0) from by decide) c⟩
      refine ⟨⟨_, rfl, (by decide)⟩, ?_⟩
      refine s_X11_refuse hF (e := 1) (by decide) ?_
      have r7 : (I 203 1) = 0 := (hX.i rfl)
      have e : fx_odd v0 v1 v2 = (-1000001) := by (unfold fx_odd; (repeat' split) <;> first | rfl | omega | (simp only [wr, wl] at *; omega))
      rw [e] at hQ
      exact ⟨rfl, hQ _ _ hF (MS.u MS.r (by decide))⟩
  ·
    refine ⟨fun _ => ?_, fun c => absurd (show ((0 : Int) = 0) from by decide) c⟩
    refine ⟨⟨_, rfl, (by decide)⟩, ?_⟩
    refine s_X11_refuse hF (e := 1) (by decide) ?_
    have r8 : (I 203 1) = 0 := (hX.i rfl)
    have e : fx_odd v0 v1 v2 = (-1000001) := by (unfold fx_odd; (repeat' split) <;> first | rfl | omega | (simp only [wr, wl] at *; omega))
    rw [e] at hQ
    exact ⟨rfl, hQ _ _ hF (MS.u MS.r (by decide))⟩
theorem x_sure (hF : FS F) (hX : FX I) {v0 v1 v2 v3 : Int} (rv0 : iR v0) (rv1 : iR v1) (rv2 : iR v2) (rv3 : iR v3) (hQ : ∀ F' I', FS F' → MS I I' → Q (some (vi (fx_sure v0 v1 v2 v3))) F' I') : CallN G (d + 12) kX11_sure [vr 0, vi v0, vi v1, vi v2, vi v3] NP F I Q := by
  unfold iR at *
  refine Call_wp (lv := [some (vr 0), some (vi v0), some (vi v1), some (vi v2), some (vi v3), none]) (by decide) ckX11_sure [] rfl rfl ?_
  refine s_X11_isLot (fun (w1 : ((0 : Int) ≤ v0 ∧ (v0 : Int) ≤ 3)) => ?_) (fun (w1 : ¬ ((0 : Int) ≤ v0 ∧ (v0 : Int) ≤ 3)) => ?_)
  ·
    refine ⟨fun c => absurd c (show (¬ ((1 : Int) = 0)) from by decide), fun _ => ?_⟩
    refine s_X11_isLaw (fun (w2 : ((0 : Int) ≤ v1 ∧ (v1 : Int) ≤ 3)) => ?_) (fun (w2 : ¬ ((0 : Int) ≤ v1 ∧ (v1 : Int) ≤ 3)) => ?_)
    ·
      refine ⟨fun c => absurd c (show (¬ ((1 : Int) = 0)) from by decide), fun _ => ?_⟩
      refine s_X11_isTenths (fun (w3 : ((1 : Int) ≤ v2 ∧ (v2 : Int) ≤ 9)) => ?_) (fun (w3 : ¬ ((1 : Int) ≤ v2 ∧ (v2 : Int) ≤ 9)) => ?_)
      ·
        refine ⟨fun c => absurd c (show (¬ ((1 : Int) = 0)) from by decide), fun _ => ?_⟩
        refine s_X11_isTenths (fun (w4 : ((1 : Int) ≤ v3 ∧ (v3 : Int) ≤ 9)) => ?_) (fun (w4 : ¬ ((1 : Int) ≤ v3 ∧ (v3 : Int) ≤ 9)) => ?_)
        ·
          refine ⟨fun _ => ?_, fun c => absurd c (show (¬ (1 : Int) = 0) from by decide)⟩
          refine ⟨⟨_, rfl, (by decide)⟩, ?_⟩
          refine Call_wp (lv := [some (vr 0), some (vi v0), some (vi v1), none, none, none]) (by decide) ckX11_orderNumbers [] rfl rfl ?_
          refine ⟨_, rfl, (by decide), ?_⟩
          refine fun w0 hw0 => ?_; obtain rfl : w0 = some 223 := hw0.symm.trans (FS.g hF rfl)
          refine ⟨⟨_, rfl, (by decide)⟩, ?_⟩
          refine Call_wp (lv := [some (vr 223)]) (by decide) ckX3_clear [] rfl rfl ?_
          refine ⟨_, rfl, (by decide), ?_⟩
          refine ⟨rfl, ?_⟩
          refine ⟨fun c => absurd c (show (¬ ((14 : Int) ≤ 0)) from by decide), fun _ => ?_⟩
          refine ⟨_, rfl, (by decide), ?_⟩
          refine fun w0 hw0 => ?_; obtain rfl : w0 = some 1 := hw0.symm.trans (FS.g hF rfl)
          refine ⟨⟨_, rfl, (by decide)⟩, ?_⟩
          have r5 : (I 1 1) = 0 := (hX.i rfl)
          refine s_X8_pieceAt hF (S := 1) (Or.inl rfl) (fun hw => absurd hw (show ¬ (0 ≤ 0 ∧ 0 < (I 1 1) ∧ 0 < 14) from by omega)) (fun _ => ?_)
          refine ⟨fun _ => ?_, fun c => absurd (show (((-1) : Int) < 0) from by decide) c⟩
          refine ⟨fun c => absurd c (show (¬ ((14 : Int) ≤ 1)) from by decide), fun _ => ?_⟩
          refine ⟨_, rfl, (by decide), ?_⟩
          refine fun w0 hw0 => ?_; obtain rfl : w0 = some 1 := hw0.symm.trans (FS.g hF rfl)
          refine ⟨⟨_, rfl, (by decide)⟩, ?_⟩
          refine s_X8_pieceAt hF (S := 1) (Or.inl rfl) (fun hw => absurd hw (show ¬ (0 ≤ 1 ∧ 1 < (I 1 1) ∧ 1 < 14) from by omega)) (fun _ => ?_)
          refine ⟨fun _ => ?_, fun c => absurd (show (((-1) : Int) < 0) from by decide) c⟩
          refine ⟨fun c => absurd c (show (¬ ((14 : Int) ≤ 2)) from by decide), fun _ => ?_⟩
          refine ⟨_, rfl, (by decide), ?_⟩
          refine fun w0 hw0 => ?_; obtain rfl : w0 = some 1 := hw0.symm.trans (FS.g hF rfl)
          refine ⟨⟨_, rfl, (by decide)⟩, ?_⟩
          refine s_X8_pieceAt hF (S := 1) (Or.inl rfl) (fun hw => absurd hw (show ¬ (0 ≤ 2 ∧ 2 < (I 1 1) ∧ 2 < 14) from by omega)) (fun _ => ?_)
          refine ⟨fun _ => ?_, fun c => absurd (show (((-1) : Int) < 0) from by decide) c⟩
          refine ⟨fun c => absurd c (show (¬ ((14 : Int) ≤ 3)) from by decide), fun _ => ?_⟩
          refine ⟨_, rfl, (by decide), ?_⟩
          refine fun w0 hw0 => ?_; obtain rfl : w0 = some 1 := hw0.symm.trans (FS.g hF rfl)
          refine ⟨⟨_, rfl, (by decide)⟩, ?_⟩
          refine s_X8_pieceAt hF (S := 1) (Or.inl rfl) (fun hw => absurd hw (show ¬ (0 ≤ 3 ∧ 3 < (I 1 1) ∧ 3 < 14) from by omega)) (fun _ => ?_)
          refine ⟨fun _ => ?_, fun c => absurd (show (((-1) : Int) < 0) from by decide) c⟩
          refine ⟨fun c => absurd c (show (¬ ((14 : Int) ≤ 4)) from by decide), fun _ => ?_⟩
          refine ⟨_, rfl, (by decide), ?_⟩
          refine fun w0 hw0 => ?_; obtain rfl : w0 = some 1 := hw0.symm.trans (FS.g hF rfl)
          refine ⟨⟨_, rfl, (by decide)⟩, ?_⟩
          refine s_X8_pieceAt hF (S := 1) (Or.inl rfl) (fun hw => absurd hw (show ¬ (0 ≤ 4 ∧ 4 < (I 1 1) ∧ 4 < 14) from by omega)) (fun _ => ?_)
          refine ⟨fun _ => ?_, fun c => absurd (show (((-1) : Int) < 0) from by decide) c⟩
          refine ⟨fun c => absurd c (show (¬ ((14 : Int) ≤ 5)) from by decide), fun _ => ?_⟩
          refine ⟨_, rfl, (by decide), ?_⟩
          refine fun w0 hw0 => ?_; obtain rfl : w0 = some 1 := hw0.symm.trans (FS.g hF rfl)
          refine ⟨⟨_, rfl, (by decide)⟩, ?_⟩
          refine s_X8_pieceAt hF (S := 1) (Or.inl rfl) (fun hw => absurd hw (show ¬ (0 ≤ 5 ∧ 5 < (I 1 1) ∧ 5 < 14) from by omega)) (fun _ => ?_)
          refine ⟨fun _ => ?_, fun c => absurd (show (((-1) : Int) < 0) from by decide) c⟩
          refine ⟨fun c => absurd c (show (¬ ((14 : Int) ≤ 6)) from by decide), fun _ => ?_⟩
          refine ⟨_, rfl, (by decide), ?_⟩
          refine fun w0 hw0 => ?_; obtain rfl : w0 = some 1 := hw0.symm.trans (FS.g hF rfl)
          refine ⟨⟨_, rfl, (by decide)⟩, ?_⟩
          refine s_X8_pieceAt hF (S := 1) (Or.inl rfl) (fun hw => absurd hw (show ¬ (0 ≤ 6 ∧ 6 < (I 1 1) ∧ 6 < 14) from by omega)) (fun _ => ?_)
          refine ⟨fun _ => ?_, fun c => absurd (show (((-1) : Int) < 0) from by decide) c⟩
          refine ⟨fun c => absurd c (show (¬ ((14 : Int) ≤ 7)) from by decide), fun _ => ?_⟩
          refine ⟨_, rfl, (by decide), ?_⟩
          refine fun w0 hw0 => ?_; obtain rfl : w0 = some 1 := hw0.symm.trans (FS.g hF rfl)
          refine ⟨⟨_, rfl, (by decide)⟩, ?_⟩
          refine s_X8_pieceAt hF (S := 1) (Or.inl rfl) (fun hw => absurd hw (show ¬ (0 ≤ 7 ∧ 7 < (I 1 1) ∧ 7 < 14) from by omega)) (fun _ => ?_)
          refine ⟨fun _ => ?_, fun c => absurd (show (((-1) : Int) < 0) from by decide) c⟩
          refine ⟨fun c => absurd c (show (¬ ((14 : Int) ≤ 8)) from by decide), fun _ => ?_⟩
          refine ⟨_, rfl, (by decide), ?_⟩
          refine fun w0 hw0 => ?_; obtain rfl : w0 = some 1 := hw0.symm.trans (FS.g hF rfl)
          refine ⟨⟨_, rfl, (by decide)⟩, ?_⟩
          refine s_X8_pieceAt hF (S := 1) (Or.inl rfl) (fun hw => absurd hw (show ¬ (0 ≤ 8 ∧ 8 < (I 1 1) ∧ 8 < 14) from by omega)) (fun _ => ?_)
          refine ⟨fun _ => ?_, fun c => absurd (show (((-1) : Int) < 0) from by decide) c⟩
          refine ⟨fun c => absurd c (show (¬ ((14 : Int) ≤ 9)) from by decide), fun _ => ?_⟩
          refine ⟨_, rfl, (by decide), ?_⟩
          refine fun w0 hw0 => ?_; obtain rfl : w0 = some 1 := hw0.symm.trans (FS.g hF rfl)
          refine ⟨⟨_, rfl, (by decide)⟩, ?_⟩
          refine s_X8_pieceAt hF (S := 1) (Or.inl rfl) (fun hw => absurd hw (show ¬ (0 ≤ 9 ∧ 9 < (I 1 1) ∧ 9 < 14) from by omega)) (fun _ => ?_)
          refine ⟨fun _ => ?_, fun c => absurd (show (((-1) : Int) < 0) from by decide) c⟩
          refine ⟨fun c => absurd c (show (¬ ((14 : Int) ≤ 10)) from by decide), fun _ => ?_⟩
          refine ⟨_, rfl, (by decide), ?_⟩
          refine fun w0 hw0 => ?_; obtain rfl : w0 = some 1 := hw0.symm.trans (FS.g hF rfl)
          refine ⟨⟨_, rfl, (by decide)⟩, ?_⟩
          refine s_X8_pieceAt hF (S := 1) (Or.inl rfl) (fun hw => absurd hw (show ¬ (0 ≤ 10 ∧ 10 < (I 1 1) ∧ 10 < 14) from by omega)) (fun _ => ?_)
          refine ⟨fun _ => ?_, fun c => absurd (show (((-1) : Int) < 0) from by decide) c⟩
          refine ⟨fun c => absurd c (show (¬ ((14 : Int) ≤ 11)) from by decide), fun _ => ?_⟩
          refine ⟨_, rfl, (by decide), ?_⟩
          refine fun w0 hw0 => ?_; obtain rfl : w0 = some 1 := hw0.symm.trans (FS.g hF rfl)
          refine ⟨⟨_, rfl, (by decide)⟩, ?_⟩
          refine s_X8_pieceAt hF (S := 1) (Or.inl rfl) (fun hw => absurd hw (show ¬ (0 ≤ 11 ∧ 11 < (I 1 1) ∧ 11 < 14) from by omega)) (fun _ => ?_)
          refine ⟨fun _ => ?_, fun c => absurd (show (((-1) : Int) < 0) from by decide) c⟩
          refine ⟨fun c => absurd c (show (¬ ((14 : Int) ≤ 12)) from by decide), fun _ => ?_⟩
          refine ⟨_, rfl, (by decide), ?_⟩
          refine fun w0 hw0 => ?_; obtain rfl : w0 = some 1 := hw0.symm.trans (FS.g hF rfl)
          refine ⟨⟨_, rfl, (by decide)⟩, ?_⟩
          refine s_X8_pieceAt hF (S := 1) (Or.inl rfl) (fun hw => absurd hw (show ¬ (0 ≤ 12 ∧ 12 < (I 1 1) ∧ 12 < 14) from by omega)) (fun _ => ?_)
          refine ⟨fun _ => ?_, fun c => absurd (show (((-1) : Int) < 0) from by decide) c⟩
          refine ⟨fun c => absurd c (show (¬ ((14 : Int) ≤ 13)) from by decide), fun _ => ?_⟩
          refine ⟨_, rfl, (by decide), ?_⟩
          refine fun w0 hw0 => ?_; obtain rfl : w0 = some 1 := hw0.symm.trans (FS.g hF rfl)
          refine ⟨⟨_, rfl, (by decide)⟩, ?_⟩
          refine s_X8_pieceAt hF (S := 1) (Or.inl rfl) (fun hw => absurd hw (show ¬ (0 ≤ 13 ∧ 13 < (I 1 1) ∧ 13 < 14) from by omega)) (fun _ => ?_)
          refine ⟨fun _ => ?_, fun c => absurd (show (((-1) : Int) < 0) from by decide) c⟩
          refine ⟨fun _ => ?_, fun c => absurd (show ((14 : Int) ≤ 14) from by decide) c⟩
          refine ⟨rfl, ?_⟩
          refine ⟨_, rfl, (by decide), ?_⟩
          refine fun w0 hw0 => ?_; obtain rfl : w0 = some 223 := hw0.symm.trans (FS.g hF rfl)
          refine ⟨_, rfl, (by decide), ?_⟩
          refine Call_wp (lv := [some (vi 0), some (vi v2), some (vi v3), none, none, none, none, none, none, none]) (by decide) ckX3_surePlace [] rfl rfl ?_
          refine ⟨fun _ => ?_, fun c => absurd (show ((0 : Int) < 1) from by decide) c⟩
          refine ⟨rfl, ?_⟩
          refine ⟨fun c => absurd c (show (¬ ((1 : Int) ≤ 0)) from by decide), fun _ => ?_⟩
          refine ⟨⟨_, rfl, (by decide)⟩, ?_⟩
          refine s_X11_refuse hF (e := 2) (by decide) ?_
          have r6 : (I 203 2) = 0 := (hX.i rfl)
          have e : fx_sure v0 v1 v2 v3 = (-1000002) := by (unfold fx_sure; (repeat' split) <;> first | rfl | omega | (simp only [wr, wl] at *; omega))
          rw [e] at hQ
          exact ⟨rfl, hQ _ _ hF (MS.u (MS.u MS.r (by decide)) (by decide))⟩
        ·
          refine ⟨fun c => absurd (show ((0 : Int) = 0) from by decide) c, fun _ => ?_⟩
          refine ⟨⟨_, rfl, (by decide)⟩, ?_⟩
          refine s_X11_refuse hF (e := 1) (by decide) ?_
          have r7 : (I 203 1) = 0 := (hX.i rfl)
          have e : fx_sure v0 v1 v2 v3 = (-1000001) := by (unfold fx_sure; (repeat' split) <;> first | rfl | omega | (simp only [wr, wl] at *; omega))
          rw [e] at hQ
          exact ⟨rfl, hQ _ _ hF (MS.u MS.r (by decide))⟩
      ·
        refine ⟨fun _ => ?_, fun c => absurd (show ((0 : Int) = 0) from by decide) c⟩
        refine ⟨⟨_, rfl, (by decide)⟩, ?_⟩
        refine s_X11_refuse hF (e := 1) (by decide) ?_
        have r8 : (I 203 1) = 0 := (hX.i rfl)
        have e : fx_sure v0 v1 v2 v3 = (-1000001) := by (unfold fx_sure; (repeat' split) <;> first | rfl | omega | (simp only [wr, wl] at *; omega))
        rw [e] at hQ
        exact ⟨rfl, hQ _ _ hF (MS.u MS.r (by decide))⟩
    ·
      refine ⟨fun _ => ?_, fun c => absurd (show ((0 : Int) = 0) from by decide) c⟩
      refine ⟨⟨_, rfl, (by decide)⟩, ?_⟩
      refine s_X11_refuse hF (e := 1) (by decide) ?_
      have r9 : (I 203 1) = 0 := (hX.i rfl)
      have e : fx_sure v0 v1 v2 v3 = (-1000001) := by (unfold fx_sure; (repeat' split) <;> first | rfl | omega | (simp only [wr, wl] at *; omega))
      rw [e] at hQ
      exact ⟨rfl, hQ _ _ hF (MS.u MS.r (by decide))⟩
  ·
    refine ⟨fun _ => ?_, fun c => absurd (show ((0 : Int) = 0) from by decide) c⟩
    refine ⟨⟨_, rfl, (by decide)⟩, ?_⟩
    refine s_X11_refuse hF (e := 1) (by decide) ?_
    have r10 : (I 203 1) = 0 := (hX.i rfl)
    have e : fx_sure v0 v1 v2 v3 = (-1000001) := by (unfold fx_sure; (repeat' split) <;> first | rfl | omega | (simp only [wr, wl] at *; omega))
    rw [e] at hQ
    exact ⟨rfl, hQ _ _ hF (MS.u MS.r (by decide))⟩
theorem x_prove (hF : FS F) (hX : FX I) {v0 v1 v2 v3 : Int} (rv0 : iR v0) (rv1 : iR v1) (rv2 : iR v2) (rv3 : iR v3) (hQ : ∀ F' I', FS F' → MS I I' → Q (some (vi (fx_prove v0 v1 v2 v3))) F' I') : CallN G (d + 12) kX11_prove [vr 0, vi v0, vi v1, vi v2, vi v3] NP F I Q := by
  unfold iR at *
  have tq := td100 v2
  refine Call_wp (lv := [some (vr 0), some (vi v0), some (vi v1), some (vi v2), some (vi v3), none, none]) (by decide) ckX11_prove [] rfl rfl ?_
  refine ⟨(by decide), ?_⟩
  refine ⟨(by decide), ?_⟩
  refine s_X11_within (fun (w1 : ((1 : Int) ≤ v0 ∧ (v0 : Int) ≤ 5)) => ?_) (fun (w1 : ¬ ((1 : Int) ≤ v0 ∧ (v0 : Int) ≤ 5)) => ?_)
  ·
    refine ⟨fun c => absurd c (show (¬ ((1 : Int) = 0)) from by decide), fun _ => ?_⟩
    refine s_X11_isMeter (fun (w2 : ((0 : Int) ≤ v1 ∧ (v1 : Int) ≤ 5)) => ?_) (fun (w2 : ¬ ((0 : Int) ≤ v1 ∧ (v1 : Int) ≤ 5)) => ?_)
    ·
      refine ⟨fun c => absurd c (show (¬ ((1 : Int) = 0)) from by decide), fun _ => ?_⟩
      refine s_X11_within (fun (w3 : ((1 : Int) ≤ (wr (Int.tdiv v2 100)) ∧ ((wr (Int.tdiv v2 100)) : Int) ≤ 99)) => ?_) (fun (w3 : ¬ ((1 : Int) ≤ (wr (Int.tdiv v2 100)) ∧ ((wr (Int.tdiv v2 100)) : Int) ≤ 99)) => ?_)
      ·
        refine ⟨fun c => absurd c (show (¬ ((1 : Int) = 0)) from by decide), fun _ => ?_⟩
        refine s_X11_within (fun (w4 : ((1 : Int) ≤ (Int.tmod v2 100) ∧ ((Int.tmod v2 100) : Int) ≤ 99)) => ?_) (fun (w4 : ¬ ((1 : Int) ≤ (Int.tmod v2 100) ∧ ((Int.tmod v2 100) : Int) ≤ 99)) => ?_)
        ·
          refine ⟨fun c => absurd c (show (¬ ((1 : Int) = 0)) from by decide), fun _ => ?_⟩
          refine s_X11_within (fun (w5 : ((0 : Int) ≤ v3 ∧ (v3 : Int) ≤ 99)) => ?_) (fun (w5 : ¬ ((0 : Int) ≤ v3 ∧ (v3 : Int) ≤ 99)) => ?_)
          ·
            refine ⟨fun _ => ?_, fun c => absurd c (show (¬ (1 : Int) = 0) from by decide)⟩
            refine ⟨fun (c6 : ((v1 : Int) < v0)) => ?_, fun (c6 : (¬ ((v1 : Int) < v0))) => ?_⟩
            ·
              refine ⟨_, rfl, (by decide), ?_⟩
              refine fun w0 hw0 => ?_; obtain rfl : w0 = some 1 := hw0.symm.trans (FS.g hF rfl)
              refine ⟨_, rfl, (by decide), ?_⟩
              refine fun w0 hw0 => ?_; obtain rfl : w0 = some 7 := hw0.symm.trans (FS.g hF rfl)
              refine ⟨⟨_, rfl, (by decide)⟩, ?_⟩
              refine Call_wp (lv := [some (vr 7), some (vi v0), some (vi v1), some (vi (wr (Int.tdiv v2 100))), some (vi (Int.tmod v2 100)), some (vi v3)]) (by decide) ckX2_set [] rfl rfl ?_
              refine s_X11_isMeter (fun _ => ?_) (fun hw => absurd (show ((0 : Int) ≤ v0 ∧ (v0 : Int) ≤ 5) from by first | omega | (simp only [wr, wl] at *; omega)) hw)
              refine ⟨fun c => absurd c (show (¬ ((1 : Int) = 0)) from by decide), fun _ => ?_⟩
              refine ⟨_, rfl, (by decide), ?_⟩
              refine fun w0 hw0 => ?_; obtain rfl : w0 = some 8 := hw0.symm.trans (FS.g hF rfl)
              refine ⟨_, rfl, (by decide), (by first | omega | (simp only [wr, wl] at *; omega)), (by first | omega | (simp only [wr, wl] at *; omega)), ?_⟩
              refine ⟨_, rfl, (by decide), ?_⟩
              refine fun w0 hw0 => ?_; obtain rfl : w0 = some 9 := hw0.symm.trans (FS.g hF rfl)
              refine ⟨_, rfl, (by decide), (by first | omega | (simp only [wr, wl] at *; omega)), (by first | omega | (simp only [wr, wl] at *; omega)), ?_⟩
              refine ⟨_, rfl, (by decide), ?_⟩
              refine fun w0 hw0 => ?_; obtain rfl : w0 = some 10 := hw0.symm.trans (FS.g hF rfl)
              refine ⟨_, rfl, (by decide), (by first | omega | (simp only [wr, wl] at *; omega)), (by first | omega | (simp only [wr, wl] at *; omega)), ?_⟩
              refine ⟨_, rfl, (by decide), ?_⟩
              refine fun w0 hw0 => ?_; obtain rfl : w0 = some 11 := hw0.symm.trans (FS.g hF rfl)
              refine ⟨_, rfl, (by decide), (by first | omega | (simp only [wr, wl] at *; omega)), (by first | omega | (simp only [wr, wl] at *; omega)), ?_⟩
              refine ⟨rfl, ?_⟩
              have e : fx_prove v0 v1 v2 v3 = 1 := by (unfold fx_prove; (repeat' split) <;> first | rfl | omega | (simp only [wr, wl] at *; omega))
              rw [e] at hQ
              exact ⟨rfl, hQ _ _ hF (MS.u (MS.u (MS.u (MS.u MS.r (by decide)) (by decide)) (by decide)) (by decide))⟩
            ·
              refine ⟨⟨_, rfl, (by decide)⟩, ?_⟩
              refine s_X11_refuse hF (e := 3) (by decide) ?_
              have r7 : (I 203 3) = 0 := (hX.i rfl)
              have e : fx_prove v0 v1 v2 v3 = (-1000003) := by (unfold fx_prove; (repeat' split) <;> first | rfl | omega | (simp only [wr, wl] at *; omega))
              rw [e] at hQ
              exact ⟨rfl, hQ _ _ hF (MS.u MS.r (by decide))⟩
          ·
            refine ⟨fun c => absurd (show ((0 : Int) = 0) from by decide) c, fun _ => ?_⟩
            refine ⟨⟨_, rfl, (by decide)⟩, ?_⟩
            refine s_X11_refuse hF (e := 1) (by decide) ?_
            have r8 : (I 203 1) = 0 := (hX.i rfl)
            have e : fx_prove v0 v1 v2 v3 = (-1000001) := by (unfold fx_prove; (repeat' split) <;> first | rfl | omega | (simp only [wr, wl] at *; omega))
            rw [e] at hQ
            exact ⟨rfl, hQ _ _ hF (MS.u MS.r (by decide))⟩
        ·
          refine ⟨fun _ => ?_, fun c => absurd (show ((0 : Int) = 0) from by decide) c⟩
          refine ⟨⟨_, rfl, (by decide)⟩, ?_⟩
          refine s_X11_refuse hF (e := 1) (by decide) ?_
          have r9 : (I 203 1) = 0 := (hX.i rfl)
          have e : fx_prove v0 v1 v2 v3 = (-1000001) := by (unfold fx_prove; (repeat' split) <;> first | rfl | omega | (simp only [wr, wl] at *; omega))
          rw [e] at hQ
          exact ⟨rfl, hQ _ _ hF (MS.u MS.r (by decide))⟩
      ·
        refine ⟨fun _ => ?_, fun c => absurd (show ((0 : Int) = 0) from by decide) c⟩
        refine ⟨⟨_, rfl, (by decide)⟩, ?_⟩
        refine s_X11_refuse hF (e := 1) (by decide) ?_
        have r10 : (I 203 1) = 0 := (hX.i rfl)
        have e : fx_prove v0 v1 v2 v3 = (-1000001) := by (unfold fx_prove; (repeat' split) <;> first | rfl | omega | (simp only [wr, wl] at *; omega))
        rw [e] at hQ
        exact ⟨rfl, hQ _ _ hF (MS.u MS.r (by decide))⟩
    ·
      refine ⟨fun _ => ?_, fun c => absurd (show ((0 : Int) = 0) from by decide) c⟩
      refine ⟨⟨_, rfl, (by decide)⟩, ?_⟩
      refine s_X11_refuse hF (e := 1) (by decide) ?_
      have r11 : (I 203 1) = 0 := (hX.i rfl)
      have e : fx_prove v0 v1 v2 v3 = (-1000001) := by (unfold fx_prove; (repeat' split) <;> first | rfl | omega | (simp only [wr, wl] at *; omega))
      rw [e] at hQ
      exact ⟨rfl, hQ _ _ hF (MS.u MS.r (by decide))⟩
  ·
    refine ⟨fun _ => ?_, fun c => absurd (show ((0 : Int) = 0) from by decide) c⟩
    refine ⟨⟨_, rfl, (by decide)⟩, ?_⟩
    refine s_X11_refuse hF (e := 1) (by decide) ?_
    have r12 : (I 203 1) = 0 := (hX.i rfl)
    have e : fx_prove v0 v1 v2 v3 = (-1000001) := by (unfold fx_prove; (repeat' split) <;> first | rfl | omega | (simp only [wr, wl] at *; omega))
    rw [e] at hQ
    exact ⟨rfl, hQ _ _ hF (MS.u MS.r (by decide))⟩
theorem x_enter (hF : FS F) (hX : FX I) {v0 v1 v2 : Int} (rv0 : iR v0) (rv1 : iR v1) (rv2 : iR v2) (hQ : ∀ F' I', FS F' → MS I I' → Q (some (vi (fx_enter v0 v1 v2))) F' I') : CallN G (d + 12) kX11_enter [vr 0, vi v0, vi v1, vi v2] NP F I Q := by
  unfold iR at *
  refine Call_wp (lv := [some (vr 0), some (vi v0), some (vi v1), some (vi v2)]) (by decide) ckX11_enter [] rfl rfl ?_
  refine s_X11_isLot (fun (w1 : ((0 : Int) ≤ v0 ∧ (v0 : Int) ≤ 3)) => ?_) (fun (w1 : ¬ ((0 : Int) ≤ v0 ∧ (v0 : Int) ≤ 3)) => ?_)
  ·
    refine ⟨fun c => absurd c (show (¬ ((1 : Int) = 0)) from by decide), fun _ => ?_⟩
    refine s_X11_isLaw (fun (w2 : ((0 : Int) ≤ v1 ∧ (v1 : Int) ≤ 3)) => ?_) (fun (w2 : ¬ ((0 : Int) ≤ v1 ∧ (v1 : Int) ≤ 3)) => ?_)
    ·
      refine ⟨fun c => absurd c (show (¬ ((1 : Int) = 0)) from by decide), fun _ => ?_⟩
      refine s_X11_isMeter (fun (w3 : ((0 : Int) ≤ v2 ∧ (v2 : Int) ≤ 5)) => ?_) (fun (w3 : ¬ ((0 : Int) ≤ v2 ∧ (v2 : Int) ≤ 5)) => ?_)
      ·
        refine ⟨fun _ => ?_, fun c => absurd c (show (¬ (1 : Int) = 0) from by decide)⟩
        refine ⟨⟨_, rfl, (by decide)⟩, ?_⟩
        refine Call_wp (lv := [some (vr 0), some (vi v0), some (vi v1), none, none, none]) (by decide) ckX11_orderNumbers [] rfl rfl ?_
        refine ⟨_, rfl, (by decide), ?_⟩
        refine fun w0 hw0 => ?_; obtain rfl : w0 = some 223 := hw0.symm.trans (FS.g hF rfl)
        refine ⟨⟨_, rfl, (by decide)⟩, ?_⟩
        refine Call_wp (lv := [some (vr 223)]) (by decide) ckX3_clear [] rfl rfl ?_
        refine ⟨_, rfl, (by decide), ?_⟩
        refine ⟨rfl, ?_⟩
        refine ⟨fun c => absurd c (show (¬ ((14 : Int) ≤ 0)) from by decide), fun _ => ?_⟩
        refine ⟨_, rfl, (by decide), ?_⟩
        refine fun w0 hw0 => ?_; obtain rfl : w0 = some 1 := hw0.symm.trans (FS.g hF rfl)
        refine ⟨⟨_, rfl, (by decide)⟩, ?_⟩
        have r4 : (I 1 1) = 0 := (hX.i rfl)
        refine s_X8_pieceAt hF (S := 1) (Or.inl rfl) (fun hw => absurd hw (show ¬ (0 ≤ 0 ∧ 0 < (I 1 1) ∧ 0 < 14) from by omega)) (fun _ => ?_)
        refine ⟨fun _ => ?_, fun c => absurd (show (((-1) : Int) < 0) from by decide) c⟩
        refine ⟨fun c => absurd c (show (¬ ((14 : Int) ≤ 1)) from by decide), fun _ => ?_⟩
        refine ⟨_, rfl, (by decide), ?_⟩
        refine fun w0 hw0 => ?_; obtain rfl : w0 = some 1 := hw0.symm.trans (FS.g hF rfl)
        refine ⟨⟨_, rfl, (by decide)⟩, ?_⟩
        refine s_X8_pieceAt hF (S := 1) (Or.inl rfl) (fun hw => absurd hw (show ¬ (0 ≤ 1 ∧ 1 < (I 1 1) ∧ 1 < 14) from by omega)) (fun _ => ?_)
        refine ⟨fun _ => ?_, fun c => absurd (show (((-1) : Int) < 0) from by decide) c⟩
        refine ⟨fun c => absurd c (show (¬ ((14 : Int) ≤ 2)) from by decide), fun _ => ?_⟩
        refine ⟨_, rfl, (by decide), ?_⟩
        refine fun w0 hw0 => ?_; obtain rfl : w0 = some 1 := hw0.symm.trans (FS.g hF rfl)
        refine ⟨⟨_, rfl, (by decide)⟩, ?_⟩
        refine s_X8_pieceAt hF (S := 1) (Or.inl rfl) (fun hw => absurd hw (show ¬ (0 ≤ 2 ∧ 2 < (I 1 1) ∧ 2 < 14) from by omega)) (fun _ => ?_)
        refine ⟨fun _ => ?_, fun c => absurd (show (((-1) : Int) < 0) from by decide) c⟩
        refine ⟨fun c => absurd c (show (¬ ((14 : Int) ≤ 3)) from by decide), fun _ => ?_⟩
        refine ⟨_, rfl, (by decide), ?_⟩
        refine fun w0 hw0 => ?_; obtain rfl : w0 = some 1 := hw0.symm.trans (FS.g hF rfl)
        refine ⟨⟨_, rfl, (by decide)⟩, ?_⟩
        refine s_X8_pieceAt hF (S := 1) (Or.inl rfl) (fun hw => absurd hw (show ¬ (0 ≤ 3 ∧ 3 < (I 1 1) ∧ 3 < 14) from by omega)) (fun _ => ?_)
        refine ⟨fun _ => ?_, fun c => absurd (show (((-1) : Int) < 0) from by decide) c⟩
        refine ⟨fun c => absurd c (show (¬ ((14 : Int) ≤ 4)) from by decide), fun _ => ?_⟩
        refine ⟨_, rfl, (by decide), ?_⟩
        refine fun w0 hw0 => ?_; obtain rfl : w0 = some 1 := hw0.symm.trans (FS.g hF rfl)
        refine ⟨⟨_, rfl, (by decide)⟩, ?_⟩
        refine s_X8_pieceAt hF (S := 1) (Or.inl rfl) (fun hw => absurd hw (show ¬ (0 ≤ 4 ∧ 4 < (I 1 1) ∧ 4 < 14) from by omega)) (fun _ => ?_)
        refine ⟨fun _ => ?_, fun c => absurd (show (((-1) : Int) < 0) from by decide) c⟩
        refine ⟨fun c => absurd c (show (¬ ((14 : Int) ≤ 5)) from by decide), fun _ => ?_⟩
        refine ⟨_, rfl, (by decide), ?_⟩
        refine fun w0 hw0 => ?_; obtain rfl : w0 = some 1 := hw0.symm.trans (FS.g hF rfl)
        refine ⟨⟨_, rfl, (by decide)⟩, ?_⟩
        refine s_X8_pieceAt hF (S := 1) (Or.inl rfl) (fun hw => absurd hw (show ¬ (0 ≤ 5 ∧ 5 < (I 1 1) ∧ 5 < 14) from by omega)) (fun _ => ?_)
        refine ⟨fun _ => ?_, fun c => absurd (show (((-1) : Int) < 0) from by decide) c⟩
        refine ⟨fun c => absurd c (show (¬ ((14 : Int) ≤ 6)) from by decide), fun _ => ?_⟩
        refine ⟨_, rfl, (by decide), ?_⟩
        refine fun w0 hw0 => ?_; obtain rfl : w0 = some 1 := hw0.symm.trans (FS.g hF rfl)
        refine ⟨⟨_, rfl, (by decide)⟩, ?_⟩
        refine s_X8_pieceAt hF (S := 1) (Or.inl rfl) (fun hw => absurd hw (show ¬ (0 ≤ 6 ∧ 6 < (I 1 1) ∧ 6 < 14) from by omega)) (fun _ => ?_)
        refine ⟨fun _ => ?_, fun c => absurd (show (((-1) : Int) < 0) from by decide) c⟩
        refine ⟨fun c => absurd c (show (¬ ((14 : Int) ≤ 7)) from by decide), fun _ => ?_⟩
        refine ⟨_, rfl, (by decide), ?_⟩
        refine fun w0 hw0 => ?_; obtain rfl : w0 = some 1 := hw0.symm.trans (FS.g hF rfl)
        refine ⟨⟨_, rfl, (by decide)⟩, ?_⟩
        refine s_X8_pieceAt hF (S := 1) (Or.inl rfl) (fun hw => absurd hw (show ¬ (0 ≤ 7 ∧ 7 < (I 1 1) ∧ 7 < 14) from by omega)) (fun _ => ?_)
        refine ⟨fun _ => ?_, fun c => absurd (show (((-1) : Int) < 0) from by decide) c⟩
        refine ⟨fun c => absurd c (show (¬ ((14 : Int) ≤ 8)) from by decide), fun _ => ?_⟩
        refine ⟨_, rfl, (by decide), ?_⟩
        refine fun w0 hw0 => ?_; obtain rfl : w0 = some 1 := hw0.symm.trans (FS.g hF rfl)
        refine ⟨⟨_, rfl, (by decide)⟩, ?_⟩
        refine s_X8_pieceAt hF (S := 1) (Or.inl rfl) (fun hw => absurd hw (show ¬ (0 ≤ 8 ∧ 8 < (I 1 1) ∧ 8 < 14) from by omega)) (fun _ => ?_)
        refine ⟨fun _ => ?_, fun c => absurd (show (((-1) : Int) < 0) from by decide) c⟩
        refine ⟨fun c => absurd c (show (¬ ((14 : Int) ≤ 9)) from by decide), fun _ => ?_⟩
        refine ⟨_, rfl, (by decide), ?_⟩
        refine fun w0 hw0 => ?_; obtain rfl : w0 = some 1 := hw0.symm.trans (FS.g hF rfl)
        refine ⟨⟨_, rfl, (by decide)⟩, ?_⟩
        refine s_X8_pieceAt hF (S := 1) (Or.inl rfl) (fun hw => absurd hw (show ¬ (0 ≤ 9 ∧ 9 < (I 1 1) ∧ 9 < 14) from by omega)) (fun _ => ?_)
        refine ⟨fun _ => ?_, fun c => absurd (show (((-1) : Int) < 0) from by decide) c⟩
        refine ⟨fun c => absurd c (show (¬ ((14 : Int) ≤ 10)) from by decide), fun _ => ?_⟩
        refine ⟨_, rfl, (by decide), ?_⟩
        refine fun w0 hw0 => ?_; obtain rfl : w0 = some 1 := hw0.symm.trans (FS.g hF rfl)
        refine ⟨⟨_, rfl, (by decide)⟩, ?_⟩
        refine s_X8_pieceAt hF (S := 1) (Or.inl rfl) (fun hw => absurd hw (show ¬ (0 ≤ 10 ∧ 10 < (I 1 1) ∧ 10 < 14) from by omega)) (fun _ => ?_)
        refine ⟨fun _ => ?_, fun c => absurd (show (((-1) : Int) < 0) from by decide) c⟩
        refine ⟨fun c => absurd c (show (¬ ((14 : Int) ≤ 11)) from by decide), fun _ => ?_⟩
        refine ⟨_, rfl, (by decide), ?_⟩
        refine fun w0 hw0 => ?_; obtain rfl : w0 = some 1 := hw0.symm.trans (FS.g hF rfl)
        refine ⟨⟨_, rfl, (by decide)⟩, ?_⟩
        refine s_X8_pieceAt hF (S := 1) (Or.inl rfl) (fun hw => absurd hw (show ¬ (0 ≤ 11 ∧ 11 < (I 1 1) ∧ 11 < 14) from by omega)) (fun _ => ?_)
        refine ⟨fun _ => ?_, fun c => absurd (show (((-1) : Int) < 0) from by decide) c⟩
        refine ⟨fun c => absurd c (show (¬ ((14 : Int) ≤ 12)) from by decide), fun _ => ?_⟩
        refine ⟨_, rfl, (by decide), ?_⟩
        refine fun w0 hw0 => ?_; obtain rfl : w0 = some 1 := hw0.symm.trans (FS.g hF rfl)
        refine ⟨⟨_, rfl, (by decide)⟩, ?_⟩
        refine s_X8_pieceAt hF (S := 1) (Or.inl rfl) (fun hw => absurd hw (show ¬ (0 ≤ 12 ∧ 12 < (I 1 1) ∧ 12 < 14) from by omega)) (fun _ => ?_)
        refine ⟨fun _ => ?_, fun c => absurd (show (((-1) : Int) < 0) from by decide) c⟩
        refine ⟨fun c => absurd c (show (¬ ((14 : Int) ≤ 13)) from by decide), fun _ => ?_⟩
        refine ⟨_, rfl, (by decide), ?_⟩
        refine fun w0 hw0 => ?_; obtain rfl : w0 = some 1 := hw0.symm.trans (FS.g hF rfl)
        refine ⟨⟨_, rfl, (by decide)⟩, ?_⟩
        refine s_X8_pieceAt hF (S := 1) (Or.inl rfl) (fun hw => absurd hw (show ¬ (0 ≤ 13 ∧ 13 < (I 1 1) ∧ 13 < 14) from by omega)) (fun _ => ?_)
        refine ⟨fun _ => ?_, fun c => absurd (show (((-1) : Int) < 0) from by decide) c⟩
        refine ⟨fun _ => ?_, fun c => absurd (show ((14 : Int) ≤ 14) from by decide) c⟩
        refine ⟨rfl, ?_⟩
        refine ⟨_, rfl, (by decide), ?_⟩
        refine fun w0 hw0 => ?_; obtain rfl : w0 = some 223 := hw0.symm.trans (FS.g hF rfl)
        refine ⟨_, rfl, (by decide), ?_⟩
        refine ⟨fun c => absurd (show ((0 : Int) = 0) from by decide) c, fun _ => ?_⟩
        refine ⟨⟨_, rfl, (by decide)⟩, ?_⟩
        refine s_X11_refuse hF (e := 2) (by decide) ?_
        have r5 : (I 203 2) = 0 := (hX.i rfl)
        have e : fx_enter v0 v1 v2 = (-1000002) := by (unfold fx_enter; (repeat' split) <;> first | rfl | omega | (simp only [wr, wl] at *; omega))
        rw [e] at hQ
        exact ⟨rfl, hQ _ _ hF (MS.u (MS.u MS.r (by decide)) (by decide))⟩
      ·
        refine ⟨fun c => absurd (show ((0 : Int) = 0) from by decide) c, fun _ => ?_⟩
        refine ⟨⟨_, rfl, (by decide)⟩, ?_⟩
        refine s_X11_refuse hF (e := 1) (by decide) ?_
        have r6 : (I 203 1) = 0 := (hX.i rfl)
        have e : fx_enter v0 v1 v2 = (-1000001) := by (unfold fx_enter; (repeat' split) <;> first | rfl | omega | (simp only [wr, wl] at *; omega))
        rw [e] at hQ
        exact ⟨rfl, hQ _ _ hF (MS.u MS.r (by decide))⟩
    ·
      refine ⟨fun _ => ?_, fun c => absurd (show ((0 : Int) = 0) from by decide) c⟩
      refine ⟨⟨_, rfl, (by decide)⟩, ?_⟩
      refine s_X11_refuse hF (e := 1) (by decide) ?_
      have r7 : (I 203 1) = 0 := (hX.i rfl)
      have e : fx_enter v0 v1 v2 = (-1000001) := by (unfold fx_enter; (repeat' split) <;> first | rfl | omega | (simp only [wr, wl] at *; omega))
      rw [e] at hQ
      exact ⟨rfl, hQ _ _ hF (MS.u MS.r (by decide))⟩
  ·
    refine ⟨fun _ => ?_, fun c => absurd (show ((0 : Int) = 0) from by decide) c⟩
    refine ⟨⟨_, rfl, (by decide)⟩, ?_⟩
    refine s_X11_refuse hF (e := 1) (by decide) ?_
    have r8 : (I 203 1) = 0 := (hX.i rfl)
    have e : fx_enter v0 v1 v2 = (-1000001) := by (unfold fx_enter; (repeat' split) <;> first | rfl | omega | (simp only [wr, wl] at *; omega))
    rw [e] at hQ
    exact ⟨rfl, hQ _ _ hF (MS.u MS.r (by decide))⟩
theorem x_entryIs (hF : FS F) (hX : FX I) {v0 v1 : Int} (rv0 : iR v0) (rv1 : iR v1) (hQ : ∀ F' I', FS F' → MS I I' → Q (some (vi ((-1000001)))) F' I') : CallN G (d + 12) kX11_entryIs [vr 0, vi v0, vi v1] NP F I Q := by
  unfold iR at *
  refine Call_wp (lv := [some (vr 0), some (vi v0), some (vi v1), none]) (by decide) ckX11_entryIs [] rfl rfl ?_
  refine ⟨_, rfl, (by decide), ?_⟩
  refine fun w0 hw0 => ?_; obtain rfl : w0 = some 1 := hw0.symm.trans (FS.g hF rfl)
  refine ⟨_, rfl, (by decide), ?_⟩
  refine fun w0 hw0 => ?_; obtain rfl : w0 = some 12 := hw0.symm.trans (FS.g hF rfl)
  refine ⟨⟨_, rfl, (by decide)⟩, ?_⟩
  refine Call_wp (lv := [some (vr 12), some (vi v0)]) (by decide) ckX0_has [] rfl rfl ?_
  refine ⟨fun (c1 : ((v0 : Int) < 0)) => ?_, fun (c1 : (¬ ((v0 : Int) < 0))) => ?_⟩
  ·
    refine ⟨rfl, (by decide), ?_⟩
    refine ⟨fun c => absurd (show ((0 : Int) = 0) from by decide) c, fun _ => ?_⟩
    refine ⟨⟨_, rfl, (by decide)⟩, ?_⟩
    refine s_X11_refuse hF (e := 1) (by decide) ?_
    have r2 : (I 203 1) = 0 := (hX.i rfl)
    have e : (-1000001) = (-1000001) := by (skip; (repeat' split) <;> first | rfl | omega | (simp only [wr, wl] at *; omega))
    rw [e] at hQ
    exact ⟨rfl, hQ _ _ hF (MS.u MS.r (by decide))⟩
  ·
    refine ⟨_, rfl, (by decide), ?_⟩
    have r3 : (I 12 6) = 0 := (hX.i rfl)
    refine ⟨fun _ => ?_, fun c => absurd (show (((I 12 6) : Int) ≤ v0) from by first | omega | (simp only [wr, wl] at *; omega)) c⟩
    refine ⟨rfl, (by decide), ?_⟩
    refine ⟨fun c => absurd (show ((0 : Int) = 0) from by decide) c, fun _ => ?_⟩
    refine ⟨⟨_, rfl, (by decide)⟩, ?_⟩
    refine s_X11_refuse hF (e := 1) (by decide) ?_
    have r4 : (I 203 1) = 0 := (hX.i rfl)
    have e : (-1000001) = (-1000001) := by (skip; (repeat' split) <;> first | rfl | omega | (simp only [wr, wl] at *; omega))
    rw [e] at hQ
    exact ⟨rfl, hQ _ _ hF (MS.u MS.r (by decide))⟩
theorem x_back (hF : FS F) (hX : FX I) {v0 v1 : Int} (rv0 : iR v0) (rv1 : iR v1) (hQ : ∀ F' I', FS F' → MS I I' → Q (some (vi ((-1000001)))) F' I') : CallN G (d + 12) kX11_back [vr 0, vi v0, vi v1] NP F I Q := by
  unfold iR at *
  refine Call_wp (lv := [some (vr 0), some (vi v0), some (vi v1)]) (by decide) ckX11_back [] rfl rfl ?_
  refine ⟨_, rfl, (by decide), ?_⟩
  refine fun w0 hw0 => ?_; obtain rfl : w0 = some 1 := hw0.symm.trans (FS.g hF rfl)
  refine ⟨_, rfl, (by decide), ?_⟩
  refine fun w0 hw0 => ?_; obtain rfl : w0 = some 12 := hw0.symm.trans (FS.g hF rfl)
  refine ⟨⟨_, rfl, (by decide)⟩, ?_⟩
  refine Call_wp (lv := [some (vr 12), some (vi v0)]) (by decide) ckX0_has [] rfl rfl ?_
  refine ⟨fun (c1 : ((v0 : Int) < 0)) => ?_, fun (c1 : (¬ ((v0 : Int) < 0))) => ?_⟩
  ·
    refine ⟨rfl, (by decide), ?_⟩
    refine ⟨fun _ => ?_, fun c => absurd (show ((0 : Int) = 0) from by decide) c⟩
    refine ⟨⟨_, rfl, (by decide)⟩, ?_⟩
    refine s_X11_refuse hF (e := 1) (by decide) ?_
    have r2 : (I 203 1) = 0 := (hX.i rfl)
    have e : (-1000001) = (-1000001) := by (skip; (repeat' split) <;> first | rfl | omega | (simp only [wr, wl] at *; omega))
    rw [e] at hQ
    exact ⟨rfl, hQ _ _ hF (MS.u MS.r (by decide))⟩
  ·
    refine ⟨_, rfl, (by decide), ?_⟩
    have r3 : (I 12 6) = 0 := (hX.i rfl)
    refine ⟨fun _ => ?_, fun c => absurd (show (((I 12 6) : Int) ≤ v0) from by first | omega | (simp only [wr, wl] at *; omega)) c⟩
    refine ⟨rfl, (by decide), ?_⟩
    refine ⟨fun _ => ?_, fun c => absurd (show ((0 : Int) = 0) from by decide) c⟩
    refine ⟨⟨_, rfl, (by decide)⟩, ?_⟩
    refine s_X11_refuse hF (e := 1) (by decide) ?_
    have r4 : (I 203 1) = 0 := (hX.i rfl)
    have e : (-1000001) = (-1000001) := by (skip; (repeat' split) <;> first | rfl | omega | (simp only [wr, wl] at *; omega))
    rw [e] at hQ
    exact ⟨rfl, hQ _ _ hF (MS.u MS.r (by decide))⟩
theorem x_book (hF : FS F) (hX : FX I) {v0 v1 : Int} (rv0 : iR v0) (rv1 : iR v1) (hQ : ∀ F' I', FS F' → MS I I' → Q (some (vi (fx_book v0 v1))) F' I') : CallN G (d + 12) kX11_book [vr 0, vi v0, vi v1] NP F I Q := by
  unfold iR at *
  refine Call_wp (lv := [some (vr 0), some (vi v0), some (vi v1)]) (by decide) ckX11_book [] rfl rfl ?_
  refine s_X11_isLot (fun (w1 : ((0 : Int) ≤ v0 ∧ (v0 : Int) ≤ 3)) => ?_) (fun (w1 : ¬ ((0 : Int) ≤ v0 ∧ (v0 : Int) ≤ 3)) => ?_)
  ·
    refine ⟨fun c => absurd c (show (¬ ((1 : Int) = 0)) from by decide), fun _ => ?_⟩
    refine s_X11_isLaw (fun (w2 : ((0 : Int) ≤ v1 ∧ (v1 : Int) ≤ 3)) => ?_) (fun (w2 : ¬ ((0 : Int) ≤ v1 ∧ (v1 : Int) ≤ 3)) => ?_)
    ·
      refine ⟨fun _ => ?_, fun c => absurd c (show (¬ (1 : Int) = 0) from by decide)⟩
      refine ⟨_, rfl, (by decide), ?_⟩
      refine fun w0 hw0 => ?_; obtain rfl : w0 = some 1 := hw0.symm.trans (FS.g hF rfl)
      refine ⟨_, rfl, (by decide), ?_⟩
      refine fun w0 hw0 => ?_; obtain rfl : w0 = some 12 := hw0.symm.trans (FS.g hF rfl)
      refine ⟨⟨_, rfl, (by decide)⟩, ?_⟩
      refine Call_wp (lv := [some (vr 12), some (vi v0), some (vi v1), none, none]) (by decide) ckX0_latest [] rfl rfl ?_
      refine ⟨_, rfl, (by decide), ?_⟩
      have r3 : (I 12 6) = 0 := (hX.i rfl)
      refine ⟨fun _ => ?_, fun c => absurd (show (((I 12 6) : Int) ≤ 0) from by first | omega | (simp only [wr, wl] at *; omega)) c⟩
      refine ⟨rfl, ?_⟩
      refine ⟨⟨_, rfl, (by decide)⟩, ?_⟩
      refine Call_wp (lv := [some (vr 0), some (vi (-1))]) (by decide) ckX11_orNone [] rfl rfl ?_
      refine ⟨fun c => absurd c (show (¬ ((0 : Int) ≤ (-1))) from by decide), fun _ => ?_⟩
      refine ⟨⟨_, rfl, (by decide)⟩, ?_⟩
      refine s_X11_refuse hF (e := 2) (by decide) ?_
      have r4 : (I 203 2) = 0 := (hX.i rfl)
      refine ⟨rfl, ?_⟩
      have e : fx_book v0 v1 = (-1000002) := by (unfold fx_book; (repeat' split) <;> first | rfl | omega | (simp only [wr, wl] at *; omega))
      rw [e] at hQ
      exact ⟨rfl, hQ _ _ hF (MS.u MS.r (by decide))⟩
    ·
      refine ⟨fun c => absurd (show ((0 : Int) = 0) from by decide) c, fun _ => ?_⟩
      refine ⟨⟨_, rfl, (by decide)⟩, ?_⟩
      refine s_X11_refuse hF (e := 1) (by decide) ?_
      have r5 : (I 203 1) = 0 := (hX.i rfl)
      have e : fx_book v0 v1 = (-1000001) := by (unfold fx_book; (repeat' split) <;> first | rfl | omega | (simp only [wr, wl] at *; omega))
      rw [e] at hQ
      exact ⟨rfl, hQ _ _ hF (MS.u MS.r (by decide))⟩
  ·
    refine ⟨fun _ => ?_, fun c => absurd (show ((0 : Int) = 0) from by decide) c⟩
    refine ⟨⟨_, rfl, (by decide)⟩, ?_⟩
    refine s_X11_refuse hF (e := 1) (by decide) ?_
    have r6 : (I 203 1) = 0 := (hX.i rfl)
    have e : fx_book v0 v1 = (-1000001) := by (unfold fx_book; (repeat' split) <;> first | rfl | omega | (simp only [wr, wl] at *; omega))
    rw [e] at hQ
    exact ⟨rfl, hQ _ _ hF (MS.u MS.r (by decide))⟩
theorem x_hangs (hF : FS F) (hX : FX I) {v0 : Int} (rv0 : iR v0) (hQ : ∀ F' I', FS F' → MS I I' → Q (some (vi (fx_hangs v0))) F' I') : CallN G (d + 12) kX11_hangs [vr 0, vi v0] NP F I Q := by
  unfold iR at *
  refine Call_wp (lv := [some (vr 0), some (vi v0)]) (by decide) ckX11_hangs [] rfl rfl ?_
  refine s_X11_isMeter (fun (w1 : ((0 : Int) ≤ v0 ∧ (v0 : Int) ≤ 5)) => ?_) (fun (w1 : ¬ ((0 : Int) ≤ v0 ∧ (v0 : Int) ≤ 5)) => ?_)
  ·
    refine ⟨fun _ => ?_, fun c => absurd c (show (¬ (1 : Int) = 0) from by decide)⟩
    refine ⟨_, rfl, (by decide), ?_⟩
    refine fun w0 hw0 => ?_; obtain rfl : w0 = some 1 := hw0.symm.trans (FS.g hF rfl)
    refine ⟨_, rfl, (by decide), ?_⟩
    refine fun w0 hw0 => ?_; obtain rfl : w0 = some 12 := hw0.symm.trans (FS.g hF rfl)
    refine ⟨_, rfl, (by decide), ?_⟩
    refine fun w0 hw0 => ?_; obtain rfl : w0 = some 1 := hw0.symm.trans (FS.g hF rfl)
    refine ⟨_, rfl, (by decide), ?_⟩
    refine fun w0 hw0 => ?_; obtain rfl : w0 = some 7 := hw0.symm.trans (FS.g hF rfl)
    refine ⟨⟨_, rfl, (by decide)⟩, ?_⟩
    refine Call_wp (lv := [some (vr 12), some (vi v0), some (vr 7), none, none]) (by decide) ckX0_hanging [] rfl rfl ?_
    refine ⟨_, rfl, (by decide), ?_⟩
    have r2 : (I 12 6) = 0 := (hX.i rfl)
    refine ⟨fun _ => ?_, fun c => absurd (show (((I 12 6) : Int) ≤ 0) from by first | omega | (simp only [wr, wl] at *; omega)) c⟩
    refine ⟨rfl, ?_⟩
    have e : fx_hangs v0 = 0 := by (unfold fx_hangs; (repeat' split) <;> first | rfl | omega | (simp only [wr, wl] at *; omega))
    rw [e] at hQ
    exact ⟨rfl, hQ _ _ hF MS.r⟩
  ·
    refine ⟨fun c => absurd (show ((0 : Int) = 0) from by decide) c, fun _ => ?_⟩
    refine ⟨⟨_, rfl, (by decide)⟩, ?_⟩
    refine s_X11_refuse hF (e := 1) (by decide) ?_
    have r3 : (I 203 1) = 0 := (hX.i rfl)
    have e : fx_hangs v0 = (-1000001) := by (unfold fx_hangs; (repeat' split) <;> first | rfl | omega | (simp only [wr, wl] at *; omega))
    rw [e] at hQ
    exact ⟨rfl, hQ _ _ hF (MS.u MS.r (by decide))⟩
theorem x_plates (hF : FS F) (hX : FX I) {v0 v1 v2 : Int} (rv0 : iR v0) (rv1 : iR v1) (rv2 : iR v2) (hQ : ∀ F' I', FS F' → MS I I' → Q (some (vi (fx_plates v0 v1 v2))) F' I') : CallN G (d + 12) kX11_plates [vr 0, vi v0, vi v1, vi v2] NP F I Q := by
  unfold iR at *
  refine Call_wp (lv := [some (vr 0), some (vi v0), some (vi v1), some (vi v2), none]) (by decide) ckX11_plates [] rfl rfl ?_
  refine ⟨⟨_, rfl, (by decide)⟩, ?_⟩
  refine s_X11_sheetAt hF (fun (w1 : (0 ≤ v0 ∧ v0 ≤ 3)) => ?_) (fun (w1 : ¬ (0 ≤ v0 ∧ v0 ≤ 3)) => ?_)
  ·
    refine s_X11_within (fun (w2 : ((0 : Int) ≤ v1 ∧ (v1 : Int) ≤ 10)) => ?_) (fun (w2 : ¬ ((0 : Int) ≤ v1 ∧ (v1 : Int) ≤ 10)) => ?_)
    ·
      refine ⟨fun c => absurd c (show (¬ ((1 : Int) = 0)) from by decide), fun _ => ?_⟩
      refine s_X11_within (fun (w3 : ((1 : Int) ≤ v2 ∧ (v2 : Int) ≤ 999)) => ?_) (fun (w3 : ¬ ((1 : Int) ≤ v2 ∧ (v2 : Int) ≤ 999)) => ?_)
      ·
        refine ⟨fun _ => ?_, fun c => absurd c (show (¬ (1 : Int) = 0) from by decide)⟩
        refine ⟨⟨_, (lay_sh (by omega)), (by show _ < 254; omega)⟩, ?_⟩
        refine Call_wp (lv := [some (vr (227 + 2 * Int.toNat v0))]) (by decide) ckX7_isMissing [] rfl rfl ?_
        refine ⟨_, (lay_sh (by omega)), (by show _ < 254; omega), ?_⟩
        have r4 : (I (227 + 2 * Int.toNat v0) 0) = 0 := (FX_sh hX (by omega))
        refine ⟨fun c => absurd (show (((I (227 + 2 * Int.toNat v0) 0) : Int) = 0) from by first | omega | (simp only [wr, wl] at *; omega)) c, fun _ => ?_⟩
        refine ⟨rfl, (by decide), ?_⟩
        refine ⟨fun c => absurd c (show (¬ ((1 : Int) = 0)) from by decide), fun _ => ?_⟩
        refine ⟨⟨_, rfl, (by decide)⟩, ?_⟩
        refine s_X11_refuse hF (e := 2) (by decide) ?_
        have r5 : (I 203 2) = 0 := (hX.i rfl)
        have e : fx_plates v0 v1 v2 = (-1000002) := by (unfold fx_plates; (repeat' split) <;> first | rfl | omega | (simp only [wr, wl] at *; omega))
        rw [e] at hQ
        exact ⟨rfl, hQ _ _ hF (MS.u MS.r (by decide))⟩
      ·
        refine ⟨fun c => absurd (show ((0 : Int) = 0) from by decide) c, fun _ => ?_⟩
        refine ⟨⟨_, rfl, (by decide)⟩, ?_⟩
        refine s_X11_refuse hF (e := 1) (by decide) ?_
        have r6 : (I 203 1) = 0 := (hX.i rfl)
        have e : fx_plates v0 v1 v2 = (-1000001) := by (unfold fx_plates; (repeat' split) <;> first | rfl | omega | (simp only [wr, wl] at *; omega))
        rw [e] at hQ
        exact ⟨rfl, hQ _ _ hF (MS.u MS.r (by decide))⟩
    ·
      refine ⟨fun _ => ?_, fun c => absurd (show ((0 : Int) = 0) from by decide) c⟩
      refine ⟨⟨_, rfl, (by decide)⟩, ?_⟩
      refine s_X11_refuse hF (e := 1) (by decide) ?_
      have r7 : (I 203 1) = 0 := (hX.i rfl)
      have e : fx_plates v0 v1 v2 = (-1000001) := by (unfold fx_plates; (repeat' split) <;> first | rfl | omega | (simp only [wr, wl] at *; omega))
      rw [e] at hQ
      exact ⟨rfl, hQ _ _ hF (MS.u MS.r (by decide))⟩
  ·
    refine ⟨⟨_, rfl, (by decide)⟩, ?_⟩
    refine s_X11_refuse hF (e := 1) (by decide) ?_
    have r8 : (I 203 1) = 0 := (hX.i rfl)
    have e : fx_plates v0 v1 v2 = (-1000001) := by (unfold fx_plates; (repeat' split) <;> first | rfl | omega | (simp only [wr, wl] at *; omega))
    rw [e] at hQ
    exact ⟨rfl, hQ _ _ hF (MS.u MS.r (by decide))⟩
theorem x_voice (hF : FS F) (hX : FX I) {v0 v1 v2 : Int} (rv0 : iR v0) (rv1 : iR v1) (rv2 : iR v2) (hQ : ∀ F' I', FS F' → MS I I' → Q (some (vi ((-1000001)))) F' I') : CallN G (d + 12) kX11_voice [vr 0, vi v0, vi v1, vi v2] NP F I Q := by
  unfold iR at *
  refine Call_wp (lv := [some (vr 0), some (vi v0), some (vi v1), some (vi v2), none, none]) (by decide) ckX11_voice [] rfl rfl ?_
  refine ⟨_, rfl, (by decide), ?_⟩
  refine fun w0 hw0 => ?_; obtain rfl : w0 = some 1 := hw0.symm.trans (FS.g hF rfl)
  refine ⟨⟨_, rfl, (by decide)⟩, ?_⟩
  have r1 : (I 1 1) = 0 := (hX.i rfl)
  refine s_X8_pieceAt hF (S := 1) (Or.inl rfl) (fun hw => absurd hw (show ¬ (0 ≤ v0 ∧ v0 < (I 1 1) ∧ v0 < 14) from by omega)) (fun _ => ?_)
  refine ⟨⟨_, rfl, (by decide)⟩, ?_⟩
  refine s_X11_refuse hF (e := 1) (by decide) ?_
  have r2 : (I 203 1) = 0 := (hX.i rfl)
  have e : (-1000001) = (-1000001) := by (skip; (repeat' split) <;> first | rfl | omega | (simp only [wr, wl] at *; omega))
  rw [e] at hQ
  exact ⟨rfl, hQ _ _ hF (MS.u MS.r (by decide))⟩
theorem x_body (hF : FS F) (hX : FX I) {v0 : Int} (rv0 : iR v0) (hQ : ∀ F' I', FS F' → MS I I' → Q (some (vi ((-1000002)))) F' I') : CallN G (d + 12) kX11_body [vr 0, vi v0] NP F I Q := by
  unfold iR at *
  refine Call_wp (lv := [some (vr 0), some (vi v0)]) (by decide) ckX11_body [] rfl rfl ?_
  refine ⟨_, rfl, (by decide), ?_⟩
  refine fun w0 hw0 => ?_; obtain rfl : w0 = some 205 := hw0.symm.trans (FS.g hF rfl)
  refine ⟨_, rfl, (by decide), ?_⟩
  have r1 : (I 205 3) = 0 := (hX.i rfl)
  refine s_X11_within (fun hw => absurd hw (show ¬ ((0 : Int) ≤ v0 ∧ (v0 : Int) ≤ (wr ((I 205 3) - 1))) from by first | omega | (simp only [wr, wl] at *; omega))) (fun _ => ?_)
  refine ⟨fun _ => ?_, fun c => absurd (show ((0 : Int) = 0) from by decide) c⟩
  refine ⟨⟨_, rfl, (by decide)⟩, ?_⟩
  refine s_X11_refuse hF (e := 2) (by decide) ?_
  have r2 : (I 203 2) = 0 := (hX.i rfl)
  have e : (-1000002) = (-1000002) := by (skip; (repeat' split) <;> first | rfl | omega | (simp only [wr, wl] at *; omega))
  rw [e] at hQ
  exact ⟨rfl, hQ _ _ hF (MS.u MS.r (by decide))⟩
theorem x_put (hF : FS F) (hX : FX I) {v0 v1 v2 : Int} (rv0 : iR v0) (rv1 : iR v1) (rv2 : iR v2) (hQ : ∀ F' I', FS F' → MS I I' → Q (some (vi (fx_put v0))) F' I') : CallN G (d + 12) kX11_put [vr 0, vi v0, vi v1, vi v2] NP F I Q := by
  unfold iR at *
  refine Call_wp (lv := [some (vr 0), some (vi v0), some (vi v1), some (vi v2), none]) (by decide) ckX11_put [] rfl rfl ?_
  refine ⟨⟨_, rfl, (by decide)⟩, ?_⟩
  refine s_X11_sheetAt hF (fun (w1 : (0 ≤ v0 ∧ v0 ≤ 3)) => ?_) (fun (w1 : ¬ (0 ≤ v0 ∧ v0 ≤ 3)) => ?_)
  ·
    refine ⟨⟨_, (lay_sh (by omega)), (by show _ < 254; omega)⟩, ?_⟩
    refine Call_wp (lv := [some (vr (227 + 2 * Int.toNat v0))]) (by decide) ckX7_isMissing [] rfl rfl ?_
    refine ⟨_, (lay_sh (by omega)), (by show _ < 254; omega), ?_⟩
    have r2 : (I (227 + 2 * Int.toNat v0) 0) = 0 := (FX_sh hX (by omega))
    refine ⟨fun c => absurd (show (((I (227 + 2 * Int.toNat v0) 0) : Int) = 0) from by first | omega | (simp only [wr, wl] at *; omega)) c, fun _ => ?_⟩
    refine ⟨rfl, (by decide), ?_⟩
    refine ⟨fun c => absurd c (show (¬ ((1 : Int) = 0)) from by decide), fun _ => ?_⟩
    refine ⟨⟨_, rfl, (by decide)⟩, ?_⟩
    refine s_X11_refuse hF (e := 2) (by decide) ?_
    have r3 : (I 203 2) = 0 := (hX.i rfl)
    have e : fx_put v0 = (-1000002) := by (unfold fx_put; (repeat' split) <;> first | rfl | omega | (simp only [wr, wl] at *; omega))
    rw [e] at hQ
    exact ⟨rfl, hQ _ _ hF (MS.u MS.r (by decide))⟩
  ·
    refine ⟨⟨_, rfl, (by decide)⟩, ?_⟩
    refine s_X11_refuse hF (e := 1) (by decide) ?_
    have r4 : (I 203 1) = 0 := (hX.i rfl)
    have e : fx_put v0 = (-1000001) := by (unfold fx_put; (repeat' split) <;> first | rfl | omega | (simp only [wr, wl] at *; omega))
    rw [e] at hQ
    exact ⟨rfl, hQ _ _ hF (MS.u MS.r (by decide))⟩
theorem x_move (hF : FS F) (hX : FX I) {v0 v1 v2 v3 v4 : Int} (rv0 : iR v0) (rv1 : iR v1) (rv2 : iR v2) (rv3 : iR v3) (rv4 : iR v4) (hQ : ∀ F' I', FS F' → MS I I' → Q (some (vi (fx_move v0 v2))) F' I') : CallN G (d + 12) kX11_move [vr 0, vi v0, vi v1, vi v2, vi v3, vi v4] NP F I Q := by
  unfold iR at *
  refine Call_wp (lv := [some (vr 0), some (vi v0), some (vi v1), some (vi v2), some (vi v3), some (vi v4), none, none]) (by decide) ckX11_move [] rfl rfl ?_
  refine ⟨⟨_, rfl, (by decide)⟩, ?_⟩
  refine s_X11_sheetAt hF (fun (w1 : (0 ≤ v0 ∧ v0 ≤ 3)) => ?_) (fun (w1 : ¬ (0 ≤ v0 ∧ v0 ≤ 3)) => ?_)
  ·
    refine ⟨⟨_, rfl, (by decide)⟩, ?_⟩
    refine s_X11_sheetAt hF (fun (w2 : (0 ≤ v2 ∧ v2 ≤ 3)) => ?_) (fun (w2 : ¬ (0 ≤ v2 ∧ v2 ≤ 3)) => ?_)
    ·
      refine ⟨⟨_, (lay_sh (by omega)), (by show _ < 254; omega)⟩, ?_⟩
      refine Call_wp (lv := [some (vr (227 + 2 * Int.toNat v0))]) (by decide) ckX7_isMissing [] rfl rfl ?_
      refine ⟨_, (lay_sh (by omega)), (by show _ < 254; omega), ?_⟩
      have r3 : (I (227 + 2 * Int.toNat v0) 0) = 0 := (FX_sh hX (by omega))
      refine ⟨fun c => absurd (show (((I (227 + 2 * Int.toNat v0) 0) : Int) = 0) from by first | omega | (simp only [wr, wl] at *; omega)) c, fun _ => ?_⟩
      refine ⟨rfl, (by decide), ?_⟩
      refine ⟨fun _ => ?_, fun c => absurd c (show (¬ (1 : Int) = 0) from by decide)⟩
      refine ⟨⟨_, rfl, (by decide)⟩, ?_⟩
      refine s_X11_refuse hF (e := 2) (by decide) ?_
      have r4 : (I 203 2) = 0 := (hX.i rfl)
      have e : fx_move v0 v2 = (-1000002) := by (unfold fx_move; (repeat' split) <;> first | rfl | omega | (simp only [wr, wl] at *; omega))
      rw [e] at hQ
      exact ⟨rfl, hQ _ _ hF (MS.u MS.r (by decide))⟩
    ·
      refine ⟨⟨_, rfl, (by decide)⟩, ?_⟩
      refine s_X11_refuse hF (e := 1) (by decide) ?_
      have r5 : (I 203 1) = 0 := (hX.i rfl)
      have e : fx_move v0 v2 = (-1000001) := by (unfold fx_move; (repeat' split) <;> first | rfl | omega | (simp only [wr, wl] at *; omega))
      rw [e] at hQ
      exact ⟨rfl, hQ _ _ hF (MS.u MS.r (by decide))⟩
  ·
    refine ⟨⟨_, rfl, (by decide)⟩, ?_⟩
    refine s_X11_sheetAt hF (fun (w6 : (0 ≤ v2 ∧ v2 ≤ 3)) => ?_) (fun (w6 : ¬ (0 ≤ v2 ∧ v2 ≤ 3)) => ?_)
    ·
      refine ⟨⟨_, rfl, (by decide)⟩, ?_⟩
      refine s_X11_refuse hF (e := 1) (by decide) ?_
      have r7 : (I 203 1) = 0 := (hX.i rfl)
      have e : fx_move v0 v2 = (-1000001) := by (unfold fx_move; (repeat' split) <;> first | rfl | omega | (simp only [wr, wl] at *; omega))
      rw [e] at hQ
      exact ⟨rfl, hQ _ _ hF (MS.u MS.r (by decide))⟩
    ·
      refine ⟨⟨_, rfl, (by decide)⟩, ?_⟩
      refine s_X11_refuse hF (e := 1) (by decide) ?_
      have r8 : (I 203 1) = 0 := (hX.i rfl)
      have e : fx_move v0 v2 = (-1000001) := by (unfold fx_move; (repeat' split) <;> first | rfl | omega | (simp only [wr, wl] at *; omega))
      rw [e] at hQ
      exact ⟨rfl, hQ _ _ hF (MS.u MS.r (by decide))⟩
theorem x_restore (hF : FS F) (hX : FX I) (hQ : ∀ F' I', FS F' → MS I I' → Q (some (vi ((-1000002)))) F' I') : CallN G (d + 12) kX11_restore [vr 0] NP F I Q := by
  refine Call_wp (lv := [some (vr 0)]) (by decide) ckX11_restore [] rfl rfl ?_
  refine ⟨_, rfl, (by decide), ?_⟩
  have r1 : (I 0 2) = 0 := (hX.i rfl)
  refine ⟨fun c => absurd (show (((I 0 2) : Int) = 0) from by first | omega | (simp only [wr, wl] at *; omega)) c, fun _ => ?_⟩
  refine ⟨⟨_, rfl, (by decide)⟩, ?_⟩
  refine s_X11_refuse hF (e := 2) (by decide) ?_
  have r2 : (I 203 2) = 0 := (hX.i rfl)
  have e : (-1000002) = (-1000002) := by (skip; (repeat' split) <;> first | rfl | omega | (simp only [wr, wl] at *; omega))
  rw [e] at hQ
  exact ⟨rfl, hQ _ _ hF (MS.u MS.r (by decide))⟩
theorem x_tell (hF : FS F) (hX : FX I) {v0 : Int} (rv0 : iR v0) (hQ : ∀ F' I', FS F' → MS I I' → Q (some (vi (1))) F' I') : CallN G (d + 12) kX11_tell [vr 0, vi v0] NP F I Q := by
  unfold iR at *
  refine Call_wp (lv := [some (vr 0), some (vi v0)]) (by decide) ckX11_tell [] rfl rfl ?_
  refine ⟨_, rfl, (by decide), ?_⟩
  refine fun w0 hw0 => ?_; obtain rfl : w0 = some 1 := hw0.symm.trans (FS.g hF rfl)
  refine ⟨⟨_, rfl, (by decide)⟩, ?_⟩
  refine Call_wp (lv := [some (vr 1), some (vi v0)]) (by decide) ckX8_addWaiting [] rfl rfl ?_
  refine ⟨_, rfl, (by decide), ?_⟩
  have r1 : (I 1 11) = 0 := (hX.i rfl)
  refine ⟨fun c => absurd c (show (¬ (((I 1 11) : Int) < 0)) from by first | omega | (simp only [wr, wl] at *; omega)), fun _ => ?_⟩
  refine ⟨_, rfl, (by decide), ?_⟩
  refine ⟨fun _ => ?_, fun c => absurd (show (((I 1 11) : Int) < 48) from by first | omega | (simp only [wr, wl] at *; omega)) c⟩
  refine ⟨_, rfl, (by decide), ?_⟩
  refine fun w0 hw0 => ?_; obtain rfl : w0 = some 19 := hw0.symm.trans (FS.g hF rfl)
  refine ⟨_, rfl, (by decide), ?_⟩
  refine ⟨_, rfl, (by decide), (by first | omega | (simp only [wr, wl] at *; omega)), (by first | omega | (simp only [wr, wl] at *; omega)), ?_⟩
  refine ⟨_, rfl, (by decide), ?_⟩
  refine ⟨_, rfl, (by decide), ?_⟩
  refine ⟨rfl, (by decide), ?_⟩
  refine ⟨fun c => absurd c (show (¬ ((1 : Int) = 0)) from by decide), fun _ => ?_⟩
  refine ⟨_, rfl, (by decide), ?_⟩
  refine fun w0 hw0 => ?_; obtain rfl : w0 = some 1 := hw0.symm.trans (FS.g hF rfl)
  refine ⟨_, rfl, (by decide), ?_⟩
  have e : 1 = (wr ((I 1 11) + 1)) := by (skip; (repeat' split) <;> first | rfl | omega | (simp only [wr, wl] at *; omega))
  rw [e] at hQ
  exact ⟨rfl, hQ _ _ hF (MS.u (MS.u MS.r (by decide)) (by decide))⟩
theorem x_check (hF : FS F) (hX : FX I) {v0 v1 : Int} (rv0 : iR v0) (rv1 : iR v1) (hQ : ∀ F' I', FS F' → MS I I' → Q (some (vi ((-1000001)))) F' I') : CallN G (d + 12) kX11_check [vr 0, vi v0, vi v1] NP F I Q := by
  unfold iR at *
  refine Call_wp (lv := [some (vr 0), some (vi v0), some (vi v1), none, none, none]) (by decide) ckX11_check [] rfl rfl ?_
  refine ⟨_, rfl, (by decide), ?_⟩
  refine fun w0 hw0 => ?_; obtain rfl : w0 = some 1 := hw0.symm.trans (FS.g hF rfl)
  refine ⟨_, rfl, (by decide), ?_⟩
  have r1 : (I 1 11) = 0 := (hX.i rfl)
  refine ⟨_, rfl, (by decide), ?_⟩
  refine fun w0 hw0 => ?_; obtain rfl : w0 = some 1 := hw0.symm.trans (FS.g hF rfl)
  refine ⟨_, rfl, (by decide), ?_⟩
  refine ⟨_, rfl, (by decide), ?_⟩
  refine fun w0 hw0 => ?_; obtain rfl : w0 = some 1 := hw0.symm.trans (FS.g hF rfl)
  refine ⟨⟨_, rfl, (by decide)⟩, ?_⟩
  refine s_X8_programAt hF (S := 1) (Or.inl rfl) (fun (w2 : (0 ≤ v0 ∧ v0 < 4)) => ?_) (fun (w2 : ¬ (0 ≤ v0 ∧ v0 < 4)) => ?_)
  ·
    refine ⟨_, rfl, (by decide), ?_⟩
    refine fun w0 hw0 => ?_; obtain rfl : w0 = some 1 := hw0.symm.trans (FS.g hF rfl)
    refine ⟨⟨_, rfl, (by decide)⟩, ?_⟩
    have r3 : (I 1 1) = 0 := (hX.i rfl)
    refine s_X8_pieceAt hF (S := 1) (Or.inl rfl) (fun hw => absurd hw (show ¬ (0 ≤ v1 ∧ v1 < (I 1 1) ∧ v1 < 14) from by omega)) (fun _ => ?_)
    refine ⟨⟨_, rfl, (by decide)⟩, ?_⟩
    refine s_X11_refuse hF (e := 1) (by decide) ?_
    have r4 : (I 203 1) = 0 := (hX.i rfl)
    have e : (-1000001) = (-1000001) := by (skip; (repeat' split) <;> first | rfl | omega | (simp only [wr, wl] at *; omega))
    rw [e] at hQ
    exact ⟨rfl, hQ _ _ hF (MS.u (MS.u MS.r (by decide)) (by decide))⟩
  ·
    refine ⟨_, rfl, (by decide), ?_⟩
    refine fun w0 hw0 => ?_; obtain rfl : w0 = some 1 := hw0.symm.trans (FS.g hF rfl)
    refine ⟨⟨_, rfl, (by decide)⟩, ?_⟩
    have r5 : (I 1 1) = 0 := (hX.i rfl)
    refine s_X8_pieceAt hF (S := 1) (Or.inl rfl) (fun hw => absurd hw (show ¬ (0 ≤ v1 ∧ v1 < (I 1 1) ∧ v1 < 14) from by omega)) (fun _ => ?_)
    refine ⟨⟨_, rfl, (by decide)⟩, ?_⟩
    refine s_X11_refuse hF (e := 1) (by decide) ?_
    have r6 : (I 203 1) = 0 := (hX.i rfl)
    have e : (-1000001) = (-1000001) := by (skip; (repeat' split) <;> first | rfl | omega | (simp only [wr, wl] at *; omega))
    rw [e] at hQ
    exact ⟨rfl, hQ _ _ hF (MS.u (MS.u MS.r (by decide)) (by decide))⟩
theorem x_count (hF : FS F) (hX : FX I) {v0 : Int} (rv0 : iR v0) (hQ : ∀ F' I', FS F' → MS I I' → Q (some (vi (fx_count v0))) F' I') : CallN G (d + 12) kX11_count [vr 0, vi v0] NP F I Q := by
  unfold iR at *
  refine Call_wp (lv := [some (vr 0), some (vi v0)]) (by decide) ckX11_count [] rfl rfl ?_
  refine ⟨fun (c1 : ((v0 : Int) = 0)) => ?_, fun (c1 : (¬ ((v0 : Int) = 0))) => ?_⟩
  ·
    refine ⟨_, rfl, (by decide), ?_⟩
    refine fun w0 hw0 => ?_; obtain rfl : w0 = some 1 := hw0.symm.trans (FS.g hF rfl)
    refine ⟨⟨_, rfl, (by decide)⟩, ?_⟩
    refine Call_wp (lv := [some (vr 1)]) (by decide) ckX8_pieces [] rfl rfl ?_
    refine ⟨_, rfl, (by decide), ?_⟩
    have r2 : (I 1 1) = 0 := (hX.i rfl)
    refine ⟨rfl, ?_⟩
    have e : fx_count v0 = (I 1 1) := by (unfold fx_count; (repeat' split) <;> first | rfl | omega | (simp only [wr, wl] at *; omega))
    rw [e] at hQ
    exact ⟨rfl, hQ _ _ hF MS.r⟩
  ·
    refine ⟨fun (c3 : ((v0 : Int) = 1)) => ?_, fun (c3 : (¬ ((v0 : Int) = 1))) => ?_⟩
    ·
      refine ⟨_, rfl, (by decide), ?_⟩
      refine fun w0 hw0 => ?_; obtain rfl : w0 = some 1 := hw0.symm.trans (FS.g hF rfl)
      refine ⟨_, rfl, (by decide), ?_⟩
      refine fun w0 hw0 => ?_; obtain rfl : w0 = some 12 := hw0.symm.trans (FS.g hF rfl)
      refine ⟨_, rfl, (by decide), ?_⟩
      have r4 : (I 12 6) = 0 := (hX.i rfl)
      have e : fx_count v0 = (I 12 6) := by (unfold fx_count; (repeat' split) <;> first | rfl | omega | (simp only [wr, wl] at *; omega))
      rw [e] at hQ
      exact ⟨rfl, hQ _ _ hF MS.r⟩
    ·
      refine ⟨fun (c5 : ((v0 : Int) = 2)) => ?_, fun (c5 : (¬ ((v0 : Int) = 2))) => ?_⟩
      ·
        refine ⟨_, rfl, (by decide), ?_⟩
        refine fun w0 hw0 => ?_; obtain rfl : w0 = some 1 := hw0.symm.trans (FS.g hF rfl)
        refine ⟨_, rfl, (by decide), ?_⟩
        refine fun w0 hw0 => ?_; obtain rfl : w0 = some 12 := hw0.symm.trans (FS.g hF rfl)
        refine ⟨⟨_, rfl, (by decide)⟩, ?_⟩
        refine Call_wp (lv := [some (vr 12), none, none]) (by decide) ckX0_takenBack [] rfl rfl ?_
        refine ⟨_, rfl, (by decide), ?_⟩
        have r6 : (I 12 6) = 0 := (hX.i rfl)
        refine ⟨fun _ => ?_, fun c => absurd (show (((I 12 6) : Int) ≤ 0) from by first | omega | (simp only [wr, wl] at *; omega)) c⟩
        refine ⟨rfl, ?_⟩
        have e : fx_count v0 = 0 := by (unfold fx_count; (repeat' split) <;> first | rfl | omega | (simp only [wr, wl] at *; omega))
        rw [e] at hQ
        exact ⟨rfl, hQ _ _ hF MS.r⟩
      ·
        refine ⟨fun (c7 : ((v0 : Int) = 3)) => ?_, fun (c7 : (¬ ((v0 : Int) = 3))) => ?_⟩
        ·
          refine ⟨_, rfl, (by decide), ?_⟩
          refine fun w0 hw0 => ?_; obtain rfl : w0 = some 1 := hw0.symm.trans (FS.g hF rfl)
          refine ⟨⟨_, rfl, (by decide)⟩, ?_⟩
          refine Call_wp (lv := [some (vr 1), none, none]) (by decide) ckX8_programsThere [] rfl rfl ?_
          refine ⟨fun c => absurd c (show (¬ ((4 : Int) ≤ 0)) from by decide), fun _ => ?_⟩
          refine ⟨_, rfl, (by decide), ?_⟩
          refine fun w0 hw0 => ?_; obtain rfl : w0 = some 3 := hw0.symm.trans (FS.g hF rfl)
          refine ⟨_, _, (by decide), rfl, (by decide), (by decide), (by decide), ?_⟩
          refine fun w0 hw0 => ?_; obtain rfl : w0 = some 90 := hw0.symm.trans (FS.g hF rfl)
          refine ⟨_, rfl, (by decide), ?_⟩
          have r8 : (I 90 0) = 0 := (hX.i rfl)
          refine ⟨fun _ => ?_, fun c => absurd (show (((I 90 0) : Int) = 0) from by first | omega | (simp only [wr, wl] at *; omega)) c⟩
          refine ⟨fun c => absurd c (show (¬ ((4 : Int) ≤ 1)) from by decide), fun _ => ?_⟩
          refine ⟨_, rfl, (by decide), ?_⟩
          refine fun w0 hw0 => ?_; obtain rfl : w0 = some 3 := hw0.symm.trans (FS.g hF rfl)
          refine ⟨_, _, (by decide), rfl, (by decide), (by decide), (by decide), ?_⟩
          refine fun w0 hw0 => ?_; obtain rfl : w0 = some 93 := hw0.symm.trans (FS.g hF rfl)
          refine ⟨_, rfl, (by decide), ?_⟩
          have r9 : (I 93 0) = 0 := (hX.i rfl)
          refine ⟨fun _ => ?_, fun c => absurd (show (((I 93 0) : Int) = 0) from by first | omega | (simp only [wr, wl] at *; omega)) c⟩
          refine ⟨fun c => absurd c (show (¬ ((4 : Int) ≤ 2)) from by decide), fun _ => ?_⟩
          refine ⟨_, rfl, (by decide), ?_⟩
          refine fun w0 hw0 => ?_; obtain rfl : w0 = some 3 := hw0.symm.trans (FS.g hF rfl)
          refine ⟨_, _, (by decide), rfl, (by decide), (by decide), (by decide), ?_⟩
          refine fun w0 hw0 => ?_; obtain rfl : w0 = some 96 := hw0.symm.trans (FS.g hF rfl)
          refine ⟨_, rfl, (by decide), ?_⟩
          have r10 : (I 96 0) = 0 := (hX.i rfl)
          refine ⟨fun _ => ?_, fun c => absurd (show (((I 96 0) : Int) = 0) from by first | omega | (simp only [wr, wl] at *; omega)) c⟩
          refine ⟨fun c => absurd c (show (¬ ((4 : Int) ≤ 3)) from by decide), fun _ => ?_⟩
          refine ⟨_, rfl, (by decide), ?_⟩
          refine fun w0 hw0 => ?_; obtain rfl : w0 = some 3 := hw0.symm.trans (FS.g hF rfl)
          refine ⟨_, _, (by decide), rfl, (by decide), (by decide), (by decide), ?_⟩
          refine fun w0 hw0 => ?_; obtain rfl : w0 = some 99 := hw0.symm.trans (FS.g hF rfl)
          refine ⟨_, rfl, (by decide), ?_⟩
          have r11 : (I 99 0) = 0 := (hX.i rfl)
          refine ⟨fun _ => ?_, fun c => absurd (show (((I 99 0) : Int) = 0) from by first | omega | (simp only [wr, wl] at *; omega)) c⟩
          refine ⟨fun _ => ?_, fun c => absurd (show ((4 : Int) ≤ 4) from by decide) c⟩
          refine ⟨rfl, ?_⟩
          have e : fx_count v0 = 0 := by (unfold fx_count; (repeat' split) <;> first | rfl | omega | (simp only [wr, wl] at *; omega))
          rw [e] at hQ
          exact ⟨rfl, hQ _ _ hF MS.r⟩
        ·
          refine ⟨fun (c12 : ((v0 : Int) = 4)) => ?_, fun (c12 : (¬ ((v0 : Int) = 4))) => ?_⟩
          ·
            refine ⟨_, rfl, (by decide), ?_⟩
            refine fun w0 hw0 => ?_; obtain rfl : w0 = some 1 := hw0.symm.trans (FS.g hF rfl)
            refine ⟨_, rfl, (by decide), ?_⟩
            have r13 : (I 1 5) = 0 := (hX.i rfl)
            have e : fx_count v0 = (I 1 5) := by (unfold fx_count; (repeat' split) <;> first | rfl | omega | (simp only [wr, wl] at *; omega))
            rw [e] at hQ
            exact ⟨rfl, hQ _ _ hF MS.r⟩
          ·
            refine ⟨fun (c14 : ((v0 : Int) = 5)) => ?_, fun (c14 : (¬ ((v0 : Int) = 5))) => ?_⟩
            ·
              refine ⟨_, rfl, (by decide), ?_⟩
              refine fun w0 hw0 => ?_; obtain rfl : w0 = some 1 := hw0.symm.trans (FS.g hF rfl)
              refine ⟨_, rfl, (by decide), ?_⟩
              have r15 : (I 1 11) = 0 := (hX.i rfl)
              have e : fx_count v0 = (I 1 11) := by (unfold fx_count; (repeat' split) <;> first | rfl | omega | (simp only [wr, wl] at *; omega))
              rw [e] at hQ
              exact ⟨rfl, hQ _ _ hF MS.r⟩
            ·
              refine ⟨fun (c16 : ((v0 : Int) = 6)) => ?_, fun (c16 : (¬ ((v0 : Int) = 6))) => ?_⟩
              ·
                refine ⟨_, rfl, (by decide), ?_⟩
                refine fun w0 hw0 => ?_; obtain rfl : w0 = some 205 := hw0.symm.trans (FS.g hF rfl)
                refine ⟨_, rfl, (by decide), ?_⟩
                have r17 : (I 205 3) = 0 := (hX.i rfl)
                have e : fx_count v0 = (I 205 3) := by (unfold fx_count; (repeat' split) <;> first | rfl | omega | (simp only [wr, wl] at *; omega))
                rw [e] at hQ
                exact ⟨rfl, hQ _ _ hF MS.r⟩
              ·
                refine ⟨fun (c18 : ((v0 : Int) = 7)) => ?_, fun (c18 : (¬ ((v0 : Int) = 7))) => ?_⟩
                ·
                  refine ⟨_, rfl, (by decide), ?_⟩
                  refine fun w0 hw0 => ?_; obtain rfl : w0 = some 1 := hw0.symm.trans (FS.g hF rfl)
                  refine ⟨⟨_, rfl, (by decide)⟩, ?_⟩
                  refine Call_wp (lv := [some (vr 1), none, none]) (by decide) ckX8_readingsOfAll [] rfl rfl ?_
                  refine ⟨_, rfl, (by decide), ?_⟩
                  have r19 : (I 1 1) = 0 := (hX.i rfl)
                  refine ⟨fun _ => ?_, fun c => absurd (show (((I 1 1) : Int) ≤ 0) from by first | omega | (simp only [wr, wl] at *; omega)) c⟩
                  refine ⟨rfl, ?_⟩
                  have e : fx_count v0 = 0 := by (unfold fx_count; (repeat' split) <;> first | rfl | omega | (simp only [wr, wl] at *; omega))
                  rw [e] at hQ
                  exact ⟨rfl, hQ _ _ hF MS.r⟩
                ·
                  refine ⟨⟨_, rfl, (by decide)⟩, ?_⟩
                  refine s_X11_refuse hF (e := 1) (by decide) ?_
                  have r20 : (I 203 1) = 0 := (hX.i rfl)
                  have e : fx_count v0 = (-1000001) := by (unfold fx_count; (repeat' split) <;> first | rfl | omega | (simp only [wr, wl] at *; omega))
                  rw [e] at hQ
                  exact ⟨rfl, hQ _ _ hF (MS.u MS.r (by decide))⟩
theorem x_told (hF : FS F) (hX : FX I) {v0 : Int} (rv0 : iR v0) (hQ : ∀ F' I', FS F' → MS I I' → Q (some (vi (fx_told v0))) F' I') : CallN G (d + 12) kX11_told [vr 0, vi v0] NP F I Q := by
  unfold iR at *
  refine Call_wp (lv := [some (vr 0), some (vi v0)]) (by decide) ckX11_told [] rfl rfl ?_
  refine s_X11_within (fun (w1 : ((1 : Int) ≤ v0 ∧ (v0 : Int) ≤ 6)) => ?_) (fun (w1 : ¬ ((1 : Int) ≤ v0 ∧ (v0 : Int) ≤ 6)) => ?_)
  ·
    refine ⟨fun c => absurd c (show (¬ ((1 : Int) = 0)) from by decide), fun _ => ?_⟩
    refine ⟨_, rfl, (by decide), ?_⟩
    refine fun w0 hw0 => ?_; obtain rfl : w0 = some 203 := hw0.symm.trans (FS.g hF rfl)
    refine ⟨_, rfl, (by decide), (by first | omega | (simp only [wr, wl] at *; omega)), (by first | omega | (simp only [wr, wl] at *; omega)), ?_⟩
    have r2 : (I 203 (Int.toNat v0)) = 0 := (FX_r hX 203 0 1 6 rfl v0 (by omega) (by omega))
    have e : fx_told v0 = (I 203 (Int.toNat v0)) := by (unfold fx_told; (repeat' split) <;> first | rfl | omega | (simp only [wr, wl] at *; omega))
    rw [e] at hQ
    exact ⟨rfl, hQ _ _ hF MS.r⟩
  ·
    refine ⟨fun _ => ?_, fun c => absurd (show ((0 : Int) = 0) from by decide) c⟩
    refine ⟨⟨_, rfl, (by decide)⟩, ?_⟩
    refine s_X11_refuse hF (e := 1) (by decide) ?_
    have r3 : (I 203 1) = 0 := (hX.i rfl)
    have e : fx_told v0 = (-1000001) := by (unfold fx_told; (repeat' split) <;> first | rfl | omega | (simp only [wr, wl] at *; omega))
    rw [e] at hQ
    exact ⟨rfl, hQ _ _ hF (MS.u MS.r (by decide))⟩
end XC
