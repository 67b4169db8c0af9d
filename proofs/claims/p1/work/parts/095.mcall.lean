/-! one call of the reference on the fresh object. Own work (scripts laid by wip/pm/gen18.py). -/
section MC
variable {G : pG} {d : Nat} {F : pF} {I : pI} {Q : Option pV → pF → pI → Prop}
theorem m_piece (hF : FS F) (hX : FXm I) {v0 v1 v2 v3 v4 : Int} (rv0 : iR v0) (rv1 : iR v1) (rv2 : iR v2) (rv3 : iR v3) (rv4 : iR v4) (hQ : ∀ F' I', Q (some (vi (fx_piece v0 v1 v2 v3 v4))) F' I') : CallN G (d + 12) kX12_piece [vr 235, vi v0, vi v1, vi v2, vi v3, vi v4] NP F I Q := by
  unfold iR at *
  refine Call_wp (lv := [some (vr 235), some (vi v0), some (vi v1), some (vi v2), some (vi v3), some (vi v4), none, none, none, none]) (by decide) ckX12_piece [] rfl rfl ?_
  refine s_X12_within (fun (w1 : ((0 : Int) ≤ v0 ∧ (v0 : Int) ≤ 5)) => ?_) (fun (w1 : ¬ ((0 : Int) ≤ v0 ∧ (v0 : Int) ≤ 5)) => ?_)
  ·
    refine ⟨fun c => absurd c (show (¬ ((1 : Int) = 0)) from by decide), fun _ => ?_⟩
    refine s_X12_within (fun (w2 : ((0 : Int) ≤ v1 ∧ (v1 : Int) ≤ 3)) => ?_) (fun (w2 : ¬ ((0 : Int) ≤ v1 ∧ (v1 : Int) ≤ 3)) => ?_)
    ·
      refine ⟨fun c => absurd c (show (¬ ((1 : Int) = 0)) from by decide), fun _ => ?_⟩
      refine s_X12_within (fun (w3 : ((1 : Int) ≤ v2 ∧ (v2 : Int) ≤ 99)) => ?_) (fun (w3 : ¬ ((1 : Int) ≤ v2 ∧ (v2 : Int) ≤ 99)) => ?_)
      ·
        refine ⟨fun c => absurd c (show (¬ ((1 : Int) = 0)) from by decide), fun _ => ?_⟩
        refine s_X12_isSheet (fun (w4 : ((0 : Int) ≤ v3 ∧ (v3 : Int) ≤ 3)) => ?_) (fun (w4 : ¬ ((0 : Int) ≤ v3 ∧ (v3 : Int) ≤ 3)) => ?_)
        ·
          refine ⟨fun c => absurd c (show (¬ ((1 : Int) = 0)) from by decide), fun _ => ?_⟩
          refine s_X12_within (fun (w5 : ((2 : Int) ≤ v4 ∧ (v4 : Int) ≤ 12)) => ?_) (fun (w5 : ¬ ((2 : Int) ≤ v4 ∧ (v4 : Int) ≤ 12)) => ?_)
          ·
            refine ⟨fun _ => ?_, fun c => absurd c (show (¬ (1 : Int) = 0) from by decide)⟩
            refine ⟨_, rfl, (by decide), ?_⟩
            refine fun w0 hw0 => ?_; obtain rfl : w0 = some 250 := hw0.symm.trans (FS.g hF rfl)
            refine ⟨_, rfl, (by decide), (by first | omega | (simp only [wr, wl] at *; omega)), (by first | omega | (simp only [wr, wl] at *; omega)), ?_⟩
            have r6 : (I 250 (Int.toNat v3)) = 0 := (FXm_r hX 250 0 0 3 rfl rfl v3 (by first | omega | (simp only [wr, wl] at *; omega)) (by first | omega | (simp only [wr, wl] at *; omega)))
            refine ⟨fun c => absurd (show (((I 250 (Int.toNat v3)) : Int) = 0) from by first | omega | (simp only [wr, wl] at *; omega)) c, fun _ => ?_⟩
            refine ⟨⟨_, rfl, (by decide)⟩, ?_⟩
            refine s_X12_finding hF (v := (-1000002)) (by decide) ?_
            have r7 : (I 238 2) = 0 := (hX.i rfl rfl)
            have e : fx_piece v0 v1 v2 v3 v4 = (-1000002) := by (unfold fx_piece; (repeat' split) <;> first | rfl | omega | (simp only [wr, wl] at *; omega))
            rw [e] at hQ
            exact ⟨rfl, hQ _ _⟩
          ·
            refine ⟨fun c => absurd (show ((0 : Int) = 0) from by decide) c, fun _ => ?_⟩
            refine ⟨⟨_, rfl, (by decide)⟩, ?_⟩
            refine s_X12_finding hF (v := (-1000001)) (by decide) ?_
            have r8 : (I 238 1) = 0 := (hX.i rfl rfl)
            have e : fx_piece v0 v1 v2 v3 v4 = (-1000001) := by (unfold fx_piece; (repeat' split) <;> first | rfl | omega | (simp only [wr, wl] at *; omega))
            rw [e] at hQ
            exact ⟨rfl, hQ _ _⟩
        ·
          refine ⟨fun _ => ?_, fun c => absurd (show ((0 : Int) = 0) from by decide) c⟩
          refine ⟨⟨_, rfl, (by decide)⟩, ?_⟩
          refine s_X12_finding hF (v := (-1000001)) (by decide) ?_
          have r9 : (I 238 1) = 0 := (hX.i rfl rfl)
          have e : fx_piece v0 v1 v2 v3 v4 = (-1000001) := by (unfold fx_piece; (repeat' split) <;> first | rfl | omega | (simp only [wr, wl] at *; omega))
          rw [e] at hQ
          exact ⟨rfl, hQ _ _⟩
      ·
        refine ⟨fun _ => ?_, fun c => absurd (show ((0 : Int) = 0) from by decide) c⟩
        refine ⟨⟨_, rfl, (by decide)⟩, ?_⟩
        refine s_X12_finding hF (v := (-1000001)) (by decide) ?_
        have r10 : (I 238 1) = 0 := (hX.i rfl rfl)
        have e : fx_piece v0 v1 v2 v3 v4 = (-1000001) := by (unfold fx_piece; (repeat' split) <;> first | rfl | omega | (simp only [wr, wl] at *; omega))
        rw [e] at hQ
        exact ⟨rfl, hQ _ _⟩
    ·
      refine ⟨fun _ => ?_, fun c => absurd (show ((0 : Int) = 0) from by decide) c⟩
      refine ⟨⟨_, rfl, (by decide)⟩, ?_⟩
      refine s_X12_finding hF (v := (-1000001)) (by decide) ?_
      have r11 : (I 238 1) = 0 := (hX.i rfl rfl)
      have e : fx_piece v0 v1 v2 v3 v4 = (-1000001) := by (unfold fx_piece; (repeat' split) <;> first | rfl | omega | (simp only [wr, wl] at *; omega))
      rw [e] at hQ
      exact ⟨rfl, hQ _ _⟩
  ·
    refine ⟨fun _ => ?_, fun c => absurd (show ((0 : Int) = 0) from by decide) c⟩
    refine ⟨⟨_, rfl, (by decide)⟩, ?_⟩
    refine s_X12_finding hF (v := (-1000001)) (by decide) ?_
    have r12 : (I 238 1) = 0 := (hX.i rfl rfl)
    have e : fx_piece v0 v1 v2 v3 v4 = (-1000001) := by (unfold fx_piece; (repeat' split) <;> first | rfl | omega | (simp only [wr, wl] at *; omega))
    rw [e] at hQ
    exact ⟨rfl, hQ _ _⟩
theorem m_pieceIs (hF : FS F) (hX : FXm I) {v0 v1 : Int} (rv0 : iR v0) (rv1 : iR v1) (hQ : ∀ F' I', Q (some (vi ((-1000001)))) F' I') : CallN G (d + 12) kX12_pieceIs [vr 235, vi v0, vi v1] NP F I Q := by
  unfold iR at *
  refine Call_wp (lv := [some (vr 235), some (vi v0), some (vi v1), none, none]) (by decide) ckX12_pieceIs [] rfl rfl ?_
  refine ⟨⟨_, rfl, (by decide)⟩, ?_⟩
  have r1 : (I 236 0) = 0 := (hX.i rfl rfl)
  refine s_X12_is hF (w := 0) (by decide) (show 0 ≤ (I 236 0) ∧ (I 236 0) < 1000000 from by omega) (fun hw => absurd hw (show ¬ (0 ≤ v0 ∧ v0 < (I 236 0)) from by omega)) (fun _ => ?_)
  refine ⟨fun _ => ?_, fun c => absurd (show ((0 : Int) = 0) from by decide) c⟩
  refine ⟨⟨_, rfl, (by decide)⟩, ?_⟩
  refine s_X12_finding hF (v := (-1000001)) (by decide) ?_
  have r2 : (I 238 1) = 0 := (hX.i rfl rfl)
  have e : (-1000001) = (-1000001) := by (skip; (repeat' split) <;> first | rfl | omega | (simp only [wr, wl] at *; omega))
  rw [e] at hQ
  exact ⟨rfl, hQ _ _⟩
theorem m_as (hF : FS F) (hX : FXm I) {v0 v1 : Int} (rv0 : iR v0) (rv1 : iR v1) (hQ : ∀ F' I', Q (some (vi ((-1000001)))) F' I') : CallN G (d + 12) kX12_as [vr 235, vi v0, vi v1] NP F I Q := by
  unfold iR at *
  refine Call_wp (lv := [some (vr 235), some (vi v0), some (vi v1), none]) (by decide) ckX12_as [] rfl rfl ?_
  refine ⟨⟨_, rfl, (by decide)⟩, ?_⟩
  have r1 : (I 236 0) = 0 := (hX.i rfl rfl)
  refine s_X12_is hF (w := 0) (by decide) (show 0 ≤ (I 236 0) ∧ (I 236 0) < 1000000 from by omega) (fun hw => absurd hw (show ¬ (0 ≤ v0 ∧ v0 < (I 236 0)) from by omega)) (fun _ => ?_)
  refine ⟨fun _ => ?_, fun c => absurd (show ((0 : Int) = 0) from by decide) c⟩
  refine ⟨⟨_, rfl, (by decide)⟩, ?_⟩
  refine s_X12_finding hF (v := (-1000001)) (by decide) ?_
  have r2 : (I 238 1) = 0 := (hX.i rfl rfl)
  have e : (-1000001) = (-1000001) := by (skip; (repeat' split) <;> first | rfl | omega | (simp only [wr, wl] at *; omega))
  rw [e] at hQ
  exact ⟨rfl, hQ _ _⟩
theorem m_answer (hF : FS F) (hX : FXm I) {v0 v1 : Int} (rv0 : iR v0) (rv1 : iR v1) (hQ : ∀ F' I', Q (some (vi ((-1000001)))) F' I') : CallN G (d + 12) kX12_answer [vr 235, vi v0, vi v1] NP F I Q := by
  unfold iR at *
  refine Call_wp (lv := [some (vr 235), some (vi v0), some (vi v1)]) (by decide) ckX12_answer [] rfl rfl ?_
  refine ⟨⟨_, rfl, (by decide)⟩, ?_⟩
  have r1 : (I 236 0) = 0 := (hX.i rfl rfl)
  refine s_X12_is hF (w := 0) (by decide) (show 0 ≤ (I 236 0) ∧ (I 236 0) < 1000000 from by omega) (fun hw => absurd hw (show ¬ (0 ≤ v0 ∧ v0 < (I 236 0)) from by omega)) (fun _ => ?_)
  refine ⟨fun _ => ?_, fun c => absurd (show ((0 : Int) = 0) from by decide) c⟩
  refine ⟨⟨_, rfl, (by decide)⟩, ?_⟩
  refine s_X12_finding hF (v := (-1000001)) (by decide) ?_
  have r2 : (I 238 1) = 0 := (hX.i rfl rfl)
  have e : (-1000001) = (-1000001) := by (skip; (repeat' split) <;> first | rfl | omega | (simp only [wr, wl] at *; omega))
  rw [e] at hQ
  exact ⟨rfl, hQ _ _⟩
theorem m_trace (hF : FS F) (hX : FXm I) {v0 v1 v2 : Int} (rv0 : iR v0) (rv1 : iR v1) (rv2 : iR v2) (hQ : ∀ F' I', Q (some (vi ((-1000001)))) F' I') : CallN G (d + 12) kX12_trace [vr 235, vi v0, vi v1, vi v2] NP F I Q := by
  unfold iR at *
  refine Call_wp (lv := [some (vr 235), some (vi v0), some (vi v1), some (vi v2), none, none, none]) (by decide) ckX12_trace [] rfl rfl ?_
  refine ⟨⟨_, rfl, (by decide)⟩, ?_⟩
  have r1 : (I 236 0) = 0 := (hX.i rfl rfl)
  refine s_X12_is hF (w := 0) (by decide) (show 0 ≤ (I 236 0) ∧ (I 236 0) < 1000000 from by omega) (fun hw => absurd hw (show ¬ (0 ≤ v0 ∧ v0 < (I 236 0)) from by omega)) (fun _ => ?_)
  refine ⟨fun _ => ?_, fun c => absurd (show ((0 : Int) = 0) from by decide) c⟩
  refine ⟨⟨_, rfl, (by decide)⟩, ?_⟩
  refine s_X12_finding hF (v := (-1000001)) (by decide) ?_
  have r2 : (I 238 1) = 0 := (hX.i rfl rfl)
  have e : (-1000001) = (-1000001) := by (skip; (repeat' split) <;> first | rfl | omega | (simp only [wr, wl] at *; omega))
  rw [e] at hQ
  exact ⟨rfl, hQ _ _⟩
theorem m_reading (hF : FS F) (hX : FXm I) {v0 v1 v2 : Int} (rv0 : iR v0) (rv1 : iR v1) (rv2 : iR v2) (hQ : ∀ F' I', Q (some (vi ((-1000001)))) F' I') : CallN G (d + 12) kX12_reading [vr 235, vi v0, vi v1, vi v2] NP F I Q := by
  unfold iR at *
  refine Call_wp (lv := [some (vr 235), some (vi v0), some (vi v1), some (vi v2)]) (by decide) ckX12_reading [] rfl rfl ?_
  refine ⟨⟨_, rfl, (by decide)⟩, ?_⟩
  have r1 : (I 236 0) = 0 := (hX.i rfl rfl)
  refine s_X12_is hF (w := 0) (by decide) (show 0 ≤ (I 236 0) ∧ (I 236 0) < 1000000 from by omega) (fun hw => absurd hw (show ¬ (0 ≤ v0 ∧ v0 < (I 236 0)) from by omega)) (fun _ => ?_)
  refine ⟨fun _ => ?_, fun c => absurd (show ((0 : Int) = 0) from by decide) c⟩
  refine ⟨⟨_, rfl, (by decide)⟩, ?_⟩
  refine s_X12_finding hF (v := (-1000001)) (by decide) ?_
  have r2 : (I 238 1) = 0 := (hX.i rfl rfl)
  have e : (-1000001) = (-1000001) := by (skip; (repeat' split) <;> first | rfl | omega | (simp only [wr, wl] at *; omega))
  rw [e] at hQ
  exact ⟨rfl, hQ _ _⟩
theorem m_run (hF : FS F) (hX : FXm I) {v0 v1 : Int} (rv0 : iR v0) (rv1 : iR v1) (hQ : ∀ F' I', Q (some (vi ((-1000001)))) F' I') : CallN G (d + 12) kX12_run [vr 235, vi v0, vi v1] NP F I Q := by
  unfold iR at *
  refine Call_wp (lv := [some (vr 235), some (vi v0), some (vi v1), none, none]) (by decide) ckX12_run [] rfl rfl ?_
  refine ⟨⟨_, rfl, (by decide)⟩, ?_⟩
  refine s_X12_isProgram (fun (w1 : ((0 : Int) ≤ v0 ∧ (v0 : Int) ≤ 3)) => ?_) (fun (w1 : ¬ ((0 : Int) ≤ v0 ∧ (v0 : Int) ≤ 3)) => ?_)
  ·
    refine ⟨fun c => absurd c (show (¬ ((1 : Int) = 0)) from by decide), fun _ => ?_⟩
    refine ⟨⟨_, rfl, (by decide)⟩, ?_⟩
    have r2 : (I 236 0) = 0 := (hX.i rfl rfl)
    refine s_X12_is hF (w := 0) (by decide) (show 0 ≤ (I 236 0) ∧ (I 236 0) < 1000000 from by omega) (fun hw => absurd hw (show ¬ (0 ≤ v1 ∧ v1 < (I 236 0)) from by omega)) (fun _ => ?_)
    refine ⟨fun c => absurd (show ((0 : Int) = 0) from by decide) c, fun _ => ?_⟩
    refine ⟨⟨_, rfl, (by decide)⟩, ?_⟩
    refine s_X12_finding hF (v := (-1000001)) (by decide) ?_
    have r3 : (I 238 1) = 0 := (hX.i rfl rfl)
    have e : (-1000001) = (-1000001) := by (skip; (repeat' split) <;> first | rfl | omega | (simp only [wr, wl] at *; omega))
    rw [e] at hQ
    exact ⟨rfl, hQ _ _⟩
  ·
    refine ⟨fun _ => ?_, fun c => absurd (show ((0 : Int) = 0) from by decide) c⟩
    refine ⟨⟨_, rfl, (by decide)⟩, ?_⟩
    refine s_X12_finding hF (v := (-1000001)) (by decide) ?_
    have r4 : (I 238 1) = 0 := (hX.i rfl rfl)
    have e : (-1000001) = (-1000001) := by (skip; (repeat' split) <;> first | rfl | omega | (simp only [wr, wl] at *; omega))
    rw [e] at hQ
    exact ⟨rfl, hQ _ _⟩
theorem m_ran (hF : FS F) (hX : FXm I) {v0 : Int} (rv0 : iR v0) (hQ : ∀ F' I', Q (some (vi (fx_ran v0))) F' I') : CallN G (d + 12) kX12_ran [vr 235, vi v0] NP F I Q := by
  unfold iR at *
  refine Call_wp (lv := [some (vr 235), some (vi v0)]) (by decide) ckX12_ran [] rfl rfl ?_
  refine s_X12_within (fun (w1 : ((0 : Int) ≤ v0 ∧ (v0 : Int) ≤ 3)) => ?_) (fun (w1 : ¬ ((0 : Int) ≤ v0 ∧ (v0 : Int) ≤ 3)) => ?_)
  ·
    refine ⟨fun _ => ?_, fun c => absurd c (show (¬ (1 : Int) = 0) from by decide)⟩
    refine ⟨_, rfl, (by decide), ?_⟩
    refine fun w0 hw0 => ?_; obtain rfl : w0 = some 236 := hw0.symm.trans (FS.g hF rfl)
    refine ⟨_, rfl, (by decide), (by decide), (by decide), ?_⟩
    have r2 : (I 236 9) = 0 := (hX.i rfl rfl)
    refine ⟨fun c => absurd (show (((I 236 9) : Int) = 0) from by first | omega | (simp only [wr, wl] at *; omega)) c, fun _ => ?_⟩
    refine ⟨⟨_, rfl, (by decide)⟩, ?_⟩
    refine s_X12_finding hF (v := (-1000002)) (by decide) ?_
    have r3 : (I 238 2) = 0 := (hX.i rfl rfl)
    have e : fx_ran v0 = (-1000002) := by (unfold fx_ran; (repeat' split) <;> first | rfl | omega | (simp only [wr, wl] at *; omega))
    rw [e] at hQ
    exact ⟨rfl, hQ _ _⟩
  ·
    refine ⟨fun c => absurd (show ((0 : Int) = 0) from by decide) c, fun _ => ?_⟩
    refine ⟨⟨_, rfl, (by decide)⟩, ?_⟩
    refine s_X12_finding hF (v := (-1000001)) (by decide) ?_
    have r4 : (I 238 1) = 0 := (hX.i rfl rfl)
    have e : fx_ran v0 = (-1000001) := by (unfold fx_ran; (repeat' split) <;> first | rfl | omega | (simp only [wr, wl] at *; omega))
    rw [e] at hQ
    exact ⟨rfl, hQ _ _⟩
theorem m_line (hF : FS F) (hX : FXm I) {v0 v1 : Int} (rv0 : iR v0) (rv1 : iR v1) (hQ : ∀ F' I', Q (some (vi ((-1000001)))) F' I') : CallN G (d + 12) kX12_line [vr 235, vi v0, vi v1] NP F I Q := by
  unfold iR at *
  refine Call_wp (lv := [some (vr 235), some (vi v0), some (vi v1)]) (by decide) ckX12_line [] rfl rfl ?_
  refine ⟨⟨_, rfl, (by decide)⟩, ?_⟩
  have r1 : (I 236 0) = 0 := (hX.i rfl rfl)
  refine s_X12_is hF (w := 0) (by decide) (show 0 ≤ (I 236 0) ∧ (I 236 0) < 1000000 from by omega) (fun hw => absurd hw (show ¬ (0 ≤ v0 ∧ v0 < (I 236 0)) from by omega)) (fun _ => ?_)
  refine ⟨fun _ => ?_, fun c => absurd (show ((0 : Int) = 0) from by decide) c⟩
  refine ⟨⟨_, rfl, (by decide)⟩, ?_⟩
  refine s_X12_finding hF (v := (-1000001)) (by decide) ?_
  have r2 : (I 238 1) = 0 := (hX.i rfl rfl)
  have e : (-1000001) = (-1000001) := by (skip; (repeat' split) <;> first | rfl | omega | (simp only [wr, wl] at *; omega))
  rw [e] at hQ
  exact ⟨rfl, hQ _ _⟩
theorem m_yields (hF : FS F) (hX : FXm I) {v0 v1 : Int} (rv0 : iR v0) (rv1 : iR v1) (hQ : ∀ F' I', Q (some (vi ((-1000001)))) F' I') : CallN G (d + 12) kX12_yields [vr 235, vi v0, vi v1] NP F I Q := by
  unfold iR at *
  refine Call_wp (lv := [some (vr 235), some (vi v0), some (vi v1), none]) (by decide) ckX12_yields [] rfl rfl ?_
  refine ⟨⟨_, rfl, (by decide)⟩, ?_⟩
  have r1 : (I 236 0) = 0 := (hX.i rfl rfl)
  refine s_X12_is hF (w := 0) (by decide) (show 0 ≤ (I 236 0) ∧ (I 236 0) < 1000000 from by omega) (fun hw => absurd hw (show ¬ (0 ≤ v0 ∧ v0 < (I 236 0)) from by omega)) (fun _ => ?_)
  refine ⟨fun _ => ?_, fun c => absurd (show ((0 : Int) = 0) from by decide) c⟩
  refine ⟨⟨_, rfl, (by decide)⟩, ?_⟩
  refine s_X12_finding hF (v := (-1000001)) (by decide) ?_
  have r2 : (I 238 1) = 0 := (hX.i rfl rfl)
  have e : (-1000001) = (-1000001) := by (skip; (repeat' split) <;> first | rfl | omega | (simp only [wr, wl] at *; omega))
  rw [e] at hQ
  exact ⟨rfl, hQ _ _⟩
theorem m_top (hF : FS F) (hX : FXm I) {v0 : Int} (rv0 : iR v0) (hQ : ∀ F' I', Q (some (vi ((-1000001)))) F' I') : CallN G (d + 12) kX12_top [vr 235, vi v0] NP F I Q := by
  unfold iR at *
  refine Call_wp (lv := [some (vr 235), some (vi v0), none]) (by decide) ckX12_top [] rfl rfl ?_
  refine ⟨⟨_, rfl, (by decide)⟩, ?_⟩
  have r1 : (I 236 0) = 0 := (hX.i rfl rfl)
  refine s_X12_is hF (w := 0) (by decide) (show 0 ≤ (I 236 0) ∧ (I 236 0) < 1000000 from by omega) (fun hw => absurd hw (show ¬ (0 ≤ v0 ∧ v0 < (I 236 0)) from by omega)) (fun _ => ?_)
  refine ⟨fun c => absurd (show ((0 : Int) = 0) from by decide) c, fun _ => ?_⟩
  refine ⟨⟨_, rfl, (by decide)⟩, ?_⟩
  refine s_X12_finding hF (v := (-1000001)) (by decide) ?_
  have r2 : (I 238 1) = 0 := (hX.i rfl rfl)
  have e : (-1000001) = (-1000001) := by (skip; (repeat' split) <;> first | rfl | omega | (simp only [wr, wl] at *; omega))
  rw [e] at hQ
  exact ⟨rfl, hQ _ _⟩
theorem m_breaks (hF : FS F) (hX : FXm I) {v0 v1 : Int} (rv0 : iR v0) (rv1 : iR v1) (hQ : ∀ F' I', Q (some (vi ((-1000001)))) F' I') : CallN G (d + 12) kX12_breaks [vr 235, vi v0, vi v1] NP F I Q := by
  unfold iR at *
  refine Call_wp (lv := [some (vr 235), some (vi v0), some (vi v1), none]) (by decide) ckX12_breaks [] rfl rfl ?_
  refine ⟨⟨_, rfl, (by decide)⟩, ?_⟩
  have r1 : (I 236 0) = 0 := (hX.i rfl rfl)
  refine s_X12_is hF (w := 0) (by decide) (show 0 ≤ (I 236 0) ∧ (I 236 0) < 1000000 from by omega) (fun hw => absurd hw (show ¬ (0 ≤ v0 ∧ v0 < (I 236 0)) from by omega)) (fun _ => ?_)
  refine ⟨fun _ => ?_, fun c => absurd (show ((0 : Int) = 0) from by decide) c⟩
  refine ⟨⟨_, rfl, (by decide)⟩, ?_⟩
  refine s_X12_finding hF (v := (-1000001)) (by decide) ?_
  have r2 : (I 238 1) = 0 := (hX.i rfl rfl)
  have e : (-1000001) = (-1000001) := by (skip; (repeat' split) <;> first | rfl | omega | (simp only [wr, wl] at *; omega))
  rw [e] at hQ
  exact ⟨rfl, hQ _ _⟩
theorem m_spent (hF : FS F) (hX : FXm I) {v0 v1 : Int} (rv0 : iR v0) (rv1 : iR v1) (hQ : ∀ F' I', Q (some (vl ((-1000001)))) F' I') : CallN G (d + 12) kX12_spent [vr 235, vi v0, vi v1] NP F I Q := by
  unfold iR at *
  refine Call_wp (lv := [some (vr 235), some (vi v0), some (vi v1)]) (by decide) ckX12_spent [] rfl rfl ?_
  refine ⟨⟨_, rfl, (by decide)⟩, ?_⟩
  have r1 : (I 236 0) = 0 := (hX.i rfl rfl)
  refine s_X12_is hF (w := 0) (by decide) (show 0 ≤ (I 236 0) ∧ (I 236 0) < 1000000 from by omega) (fun hw => absurd hw (show ¬ (0 ≤ v0 ∧ v0 < (I 236 0)) from by omega)) (fun _ => ?_)
  refine ⟨fun _ => ?_, fun c => absurd (show ((0 : Int) = 0) from by decide) c⟩
  refine ⟨⟨_, rfl, (by decide)⟩, ?_⟩
  refine s_X12_finding hF (v := (-1000001)) (by decide) ?_
  have r2 : (I 238 1) = 0 := (hX.i rfl rfl)
  have e : (-1000001) = (-1000001) := by (skip; (repeat' split) <;> first | rfl | omega | (simp only [wr, wl] at *; omega))
  rw [e] at hQ
  exact ⟨rfl, hQ _ _⟩
theorem m_number_ (hF : FS F) (hX : FXm I) {v0 v1 : Int} (rv0 : iR v0) (rv1 : iR v1) (hQ : ∀ F' I', Q (some (vi ((-1000001)))) F' I') : CallN G (d + 12) kX12_number_ [vr 235, vi v0, vi v1] NP F I Q := by
  unfold iR at *
  refine Call_wp (lv := [some (vr 235), some (vi v0), some (vi v1), none]) (by decide) ckX12_number_ [] rfl rfl ?_
  refine ⟨⟨_, rfl, (by decide)⟩, ?_⟩
  have r1 : (I 236 0) = 0 := (hX.i rfl rfl)
  refine s_X12_is hF (w := 0) (by decide) (show 0 ≤ (I 236 0) ∧ (I 236 0) < 1000000 from by omega) (fun hw => absurd hw (show ¬ (0 ≤ v0 ∧ v0 < (I 236 0)) from by omega)) (fun _ => ?_)
  refine ⟨fun _ => ?_, fun c => absurd (show ((0 : Int) = 0) from by decide) c⟩
  refine ⟨⟨_, rfl, (by decide)⟩, ?_⟩
  refine s_X12_finding hF (v := (-1000001)) (by decide) ?_
  have r2 : (I 238 1) = 0 := (hX.i rfl rfl)
  have e : (-1000001) = (-1000001) := by (skip; (repeat' split) <;> first | rfl | omega | (simp only [wr, wl] at *; omega))
  rw [e] at hQ
  exact ⟨rfl, hQ _ _⟩
theorem m_curve (hF : FS F) (hX : FXm I) {v0 v1 v2 : Int} (rv0 : iR v0) (rv1 : iR v1) (rv2 : iR v2) (hQ : ∀ F' I', Q (some (vi (fx_curve v0 v1 v2))) F' I') : CallN G (d + 12) kX12_curve [vr 235, vi v0, vi v1, vi v2] NP F I Q := by
  unfold iR at *
  refine Call_wp (lv := [some (vr 235), some (vi v0), some (vi v1), some (vi v2), none, none]) (by decide) ckX12_curve [] rfl rfl ?_
  refine s_X12_isLot (fun (w1 : ((0 : Int) ≤ v0 ∧ (v0 : Int) ≤ 3)) => ?_) (fun (w1 : ¬ ((0 : Int) ≤ v0 ∧ (v0 : Int) ≤ 3)) => ?_)
  ·
    refine ⟨fun c => absurd c (show (¬ ((1 : Int) = 0)) from by decide), fun _ => ?_⟩
    refine s_X12_within (fun (w2 : ((0 : Int) ≤ v1 ∧ (v1 : Int) ≤ 999)) => ?_) (fun (w2 : ¬ ((0 : Int) ≤ v1 ∧ (v1 : Int) ≤ 999)) => ?_)
    ·
      refine ⟨fun c => absurd c (show (¬ ((1 : Int) = 0)) from by decide), fun _ => ?_⟩
      refine s_X12_within (fun (w3 : ((0 : Int) ≤ v2 ∧ (v2 : Int) ≤ 3)) => ?_) (fun (w3 : ¬ ((0 : Int) ≤ v2 ∧ (v2 : Int) ≤ 3)) => ?_)
      ·
        refine ⟨fun _ => ?_, fun c => absurd c (show (¬ (1 : Int) = 0) from by decide)⟩
        refine ⟨_, rfl, (by decide), ?_⟩
        refine ⟨_, rfl, (by decide), ?_⟩
        refine fun w0 hw0 => ?_; obtain rfl : w0 = some 236 := hw0.symm.trans (FS.g hF rfl)
        refine ⟨_, rfl, (by decide), (by decide), (by decide), ?_⟩
        have r4 : (I 236 0) = 0 := (hX.i rfl rfl)
        refine ⟨fun _ => ?_, fun c => absurd (show (((I 236 0) : Int) ≤ 0) from by first | omega | (simp only [wr, wl] at *; omega)) c⟩
        refine ⟨fun (c5 : (¬ (v2 : Int) = 3)) => ?_, fun (c5 : ((v2 : Int) = 3)) => ?_⟩
        ·
          refine ⟨_, rfl, (by decide), ?_⟩
          refine ⟨fun c => absurd (show ((0 : Int) = 0) from by decide) c, fun _ => ?_⟩
          refine ⟨⟨_, rfl, (by decide)⟩, ?_⟩
          refine s_X12_finding hF (v := (-1000002)) (by decide) ?_
          have r6 : (I 238 2) = 0 := (hX.i rfl rfl)
          have e : fx_curve v0 v1 v2 = (-1000002) := by (unfold fx_curve; (repeat' split) <;> first | rfl | omega | (simp only [wr, wl] at *; omega))
          rw [e] at hQ
          exact ⟨rfl, hQ _ _⟩
        ·
          refine ⟨_, rfl, (by decide), ?_⟩
          have e : fx_curve v0 v1 v2 = 0 := by (unfold fx_curve; (repeat' split) <;> first | rfl | omega | (simp only [wr, wl] at *; omega))
          rw [e] at hQ
          exact ⟨rfl, hQ _ _⟩
      ·
        refine ⟨fun c => absurd (show ((0 : Int) = 0) from by decide) c, fun _ => ?_⟩
        refine ⟨⟨_, rfl, (by decide)⟩, ?_⟩
        refine s_X12_finding hF (v := (-1000001)) (by decide) ?_
        have r7 : (I 238 1) = 0 := (hX.i rfl rfl)
        have e : fx_curve v0 v1 v2 = (-1000001) := by (unfold fx_curve; (repeat' split) <;> first | rfl | omega | (simp only [wr, wl] at *; omega))
        rw [e] at hQ
        exact ⟨rfl, hQ _ _⟩
    ·
      refine ⟨fun _ => ?_, fun c => absurd (show ((0 : Int) = 0) from by decide) c⟩
      refine ⟨⟨_, rfl, (by decide)⟩, ?_⟩
      refine s_X12_finding hF (v := (-1000001)) (by decide) ?_
      have r8 : (I 238 1) = 0 := (hX.i rfl rfl)
      have e : fx_curve v0 v1 v2 = (-1000001) := by (unfold fx_curve; (repeat' split) <;> first | rfl | omega | (simp only [wr, wl] at *; omega))
      rw [e] at hQ
      exact ⟨rfl, hQ _ _⟩
  ·
    refine ⟨fun _ => ?_, fun c => absurd (show ((0 : Int) = 0) from by decide) c⟩
    refine ⟨⟨_, rfl, (by decide)⟩, ?_⟩
    refine s_X12_finding hF (v := (-1000001)) (by decide) ?_
    have r9 : (I 238 1) = 0 := (hX.i rfl rfl)
    have e : fx_curve v0 v1 v2 = (-1000001) := by (unfold fx_curve; (repeat' split) <;> first | rfl | omega | (simp only [wr, wl] at *; omega))
    rw [e] at hQ
    exact ⟨rfl, hQ _ _⟩
theorem m_odd (hF : FS F) (hX : FXm I) {v0 v1 v2 : Int} (rv0 : iR v0) (rv1 : iR v1) (rv2 : iR v2) (hQ : ∀ F' I', Q (some (vi (fx_odd v0 v1 v2))) F' I') : CallN G (d + 12) kX12_odd [vr 235, vi v0, vi v1, vi v2] NP F I Q := by
  unfold iR at *
  refine Call_wp (lv := [some (vr 235), some (vi v0), some (vi v1), some (vi v2), none, none, none]) (by decide) ckX12_odd [] rfl rfl ?_
  refine s_X12_isLot (fun (w1 : ((0 : Int) ≤ v0 ∧ (v0 : Int) ≤ 3)) => ?_) (fun (w1 : ¬ ((0 : Int) ≤ v0 ∧ (v0 : Int) ≤ 3)) => ?_)
  ·
    refine ⟨fun c => absurd c (show (¬ ((1 : Int) = 0)) from by decide), fun _ => ?_⟩
    refine s_X12_isLaw (fun (w2 : ((0 : Int) ≤ v1 ∧ (v1 : Int) ≤ 3)) => ?_) (fun (w2 : ¬ ((0 : Int) ≤ v1 ∧ (v1 : Int) ≤ 3)) => ?_)
    ·
      refine ⟨fun c => absurd c (show (¬ ((1 : Int) = 0)) from by decide), fun _ => ?_⟩
      refine s_X12_within (fun (w3 : ((0 : Int) ≤ v2 ∧ (v2 : Int) ≤ 100)) => ?_) (fun (w3 : ¬ ((0 : Int) ≤ v2 ∧ (v2 : Int) ≤ 100)) => ?_)
      ·
        refine ⟨fun _ => ?_, fun c => absurd c (show (¬ (1 : Int) = 0) from by decide)⟩
        refine ⟨⟨_, rfl, (by decide)⟩, ?_⟩
        refine Call_wp (lv := [some (vr 235), some (vi v0), some (vi v1), none, none]) (by decide) ckX12_findNumbers [] rfl rfl ?_
        refine ⟨_, rfl, (by decide), ?_⟩
        refine ⟨_, rfl, (by decide), ?_⟩
        refine fun w0 hw0 => ?_; obtain rfl : w0 = some 236 := hw0.symm.trans (FS.g hF rfl)
        refine ⟨_, rfl, (by decide), (by decide), (by decide), ?_⟩
        have r4 : (I 236 0) = 0 := (hX.i rfl rfl)
        refine ⟨fun _ => ?_, fun c => absurd (show (((I 236 0) : Int) ≤ 0) from by first | omega | (simp only [wr, wl] at *; omega)) c⟩
        refine ⟨rfl, ?_⟩
        refine ⟨_, rfl, (by decide), ?_⟩
        refine ⟨fun c => absurd c (show (¬ ((3 : Int) ≤ 0)) from by decide), fun _ => ?_⟩
        refine ⟨⟨_, rfl, (by decide)⟩, ?_⟩
        refine s_X12_finding hF (v := (-1000002)) (by decide) ?_
        have r5 : (I 238 2) = 0 := (hX.i rfl rfl)
        have e : fx_odd v0 v1 v2 = (-1000002) := by (unfold fx_odd; (repeat' split) <;> first | rfl | omega | (simp only [wr, wl] at *; omega))
        rw [e] at hQ
        exact ⟨rfl, hQ _ _⟩
      ·
        refine ⟨fun c => absurd (show ((0 : Int) = 0) from by decide) c, fun _ => ?_⟩
        refine ⟨⟨_, rfl, (by decide)⟩, ?_⟩
        refine s_X12_finding hF (v := (-1000001)) (by decide) ?_
        have r6 : (I 238 1) = 0 := (hX.i rfl rfl)
        have e : fx_odd v0 v1 v2 = (-1000001) := by (unfold fx_odd; (repeat' split) <;> first | rfl | omega | (simp only [wr, wl] at *; omega))
        rw [e] at hQ
        exact ⟨rfl, hQ _ _⟩
    ·
      refine ⟨fun _ => ?_, fun c => absurd (show ((0 : Int) = 0) from by decide) c⟩
      refine ⟨⟨_, rfl, (by decide)⟩, ?_⟩
      refine s_X12_finding hF (v := (-1000001)) (by decide) ?_
      have r7 : (I 238 1) = 0 := (hX.i rfl rfl)
      have e : fx_odd v0 v1 v2 = (-1000001) := by (unfold fx_odd; (repeat' split) <;> first | rfl | omega | (simp only [wr, wl] at *; omega))
      rw [e] at hQ
      exact ⟨rfl, hQ _ _⟩
  ·
    refine ⟨fun _ => ?_, fun c => absurd (show ((0 : Int) = 0) from by decide) c⟩
    refine ⟨⟨_, rfl, (by decide)⟩, ?_⟩
    refine s_X12_finding hF (v := (-1000001)) (by decide) ?_
    have r8 : (I 238 1) = 0 := (hX.i rfl rfl)
    have e : fx_odd v0 v1 v2 = (-1000001) := by (unfold fx_odd; (repeat' split) <;> first | rfl | omega | (simp only [wr, wl] at *; omega))
    rw [e] at hQ
    exact ⟨rfl, hQ _ _⟩
theorem m_sure (hF : FS F) (hX : FXm I) {v0 v1 v2 v3 : Int} (rv0 : iR v0) (rv1 : iR v1) (rv2 : iR v2) (rv3 : iR v3) (hQ : ∀ F' I', Q (some (vi (fx_sure v0 v1 v2 v3))) F' I') : CallN G (d + 12) kX12_sure [vr 235, vi v0, vi v1, vi v2, vi v3] NP F I Q := by
  unfold iR at *
  refine Call_wp (lv := [some (vr 235), some (vi v0), some (vi v1), some (vi v2), some (vi v3), none]) (by decide) ckX12_sure [] rfl rfl ?_
  refine s_X12_isLot (fun (w1 : ((0 : Int) ≤ v0 ∧ (v0 : Int) ≤ 3)) => ?_) (fun (w1 : ¬ ((0 : Int) ≤ v0 ∧ (v0 : Int) ≤ 3)) => ?_)
  ·
    refine ⟨fun c => absurd c (show (¬ ((1 : Int) = 0)) from by decide), fun _ => ?_⟩
    refine s_X12_isLaw (fun (w2 : ((0 : Int) ≤ v1 ∧ (v1 : Int) ≤ 3)) => ?_) (fun (w2 : ¬ ((0 : Int) ≤ v1 ∧ (v1 : Int) ≤ 3)) => ?_)
    ·
      refine ⟨fun c => absurd c (show (¬ ((1 : Int) = 0)) from by decide), fun _ => ?_⟩
      refine s_X12_areTenths (fun (w3 : ((1 ≤ v2 ∧ v2 ≤ 9) ∧ (1 ≤ v3 ∧ v3 ≤ 9))) => ?_) (fun (w3 : ¬ ((1 ≤ v2 ∧ v2 ≤ 9) ∧ (1 ≤ v3 ∧ v3 ≤ 9))) => ?_)
      ·
        refine ⟨fun _ => ?_, fun c => absurd c (show (¬ (1 : Int) = 0) from by decide)⟩
        refine ⟨⟨_, rfl, (by decide)⟩, ?_⟩
        refine Call_wp (lv := [some (vr 235), some (vi v0), some (vi v1), none, none]) (by decide) ckX12_findNumbers [] rfl rfl ?_
        refine ⟨_, rfl, (by decide), ?_⟩
        refine ⟨_, rfl, (by decide), ?_⟩
        refine fun w0 hw0 => ?_; obtain rfl : w0 = some 236 := hw0.symm.trans (FS.g hF rfl)
        refine ⟨_, rfl, (by decide), (by decide), (by decide), ?_⟩
        have r4 : (I 236 0) = 0 := (hX.i rfl rfl)
        refine ⟨fun _ => ?_, fun c => absurd (show (((I 236 0) : Int) ≤ 0) from by first | omega | (simp only [wr, wl] at *; omega)) c⟩
        refine ⟨rfl, ?_⟩
        refine ⟨_, rfl, (by decide), ?_⟩
        refine ⟨fun _ => ?_, fun c => absurd (show ((0 : Int) ≤ 12) from by decide) c⟩
        refine ⟨_, rfl, (by decide), ?_⟩
        refine Call_wp (lv := [some (vi 0), some (vi v2), some (vi v3), none, none, none, none, none, none, none, none, none]) (by decide) ckX12_rankOf [] rfl rfl ?_
        refine ⟨fun _ => ?_, fun c => absurd (show ((0 : Int) ≤ 0) from by decide) c⟩
        refine ⟨fun _ => ?_, fun c => absurd (show ((0 : Int) ≤ 0) from by decide) c⟩
        refine ⟨rfl, ?_⟩
        refine ⟨fun c => absurd (show ((0 : Int) = 0) from by decide) c, fun _ => ?_⟩
        refine ⟨⟨_, rfl, (by decide)⟩, ?_⟩
        refine s_X12_finding hF (v := (-1000002)) (by decide) ?_
        have r5 : (I 238 2) = 0 := (hX.i rfl rfl)
        have e : fx_sure v0 v1 v2 v3 = (-1000002) := by (unfold fx_sure; (repeat' split) <;> first | rfl | omega | (simp only [wr, wl] at *; omega))
        rw [e] at hQ
        exact ⟨rfl, hQ _ _⟩
      ·
        refine ⟨fun c => absurd (show ((0 : Int) = 0) from by decide) c, fun _ => ?_⟩
        refine ⟨⟨_, rfl, (by decide)⟩, ?_⟩
        refine s_X12_finding hF (v := (-1000001)) (by decide) ?_
        have r6 : (I 238 1) = 0 := (hX.i rfl rfl)
        have e : fx_sure v0 v1 v2 v3 = (-1000001) := by (unfold fx_sure; (repeat' split) <;> first | rfl | omega | (simp only [wr, wl] at *; omega))
        rw [e] at hQ
        exact ⟨rfl, hQ _ _⟩
    ·
      refine ⟨fun _ => ?_, fun c => absurd (show ((0 : Int) = 0) from by decide) c⟩
      refine ⟨⟨_, rfl, (by decide)⟩, ?_⟩
      refine s_X12_finding hF (v := (-1000001)) (by decide) ?_
      have r7 : (I 238 1) = 0 := (hX.i rfl rfl)
      have e : fx_sure v0 v1 v2 v3 = (-1000001) := by (unfold fx_sure; (repeat' split) <;> first | rfl | omega | (simp only [wr, wl] at *; omega))
      rw [e] at hQ
      exact ⟨rfl, hQ _ _⟩
  ·
    refine ⟨fun _ => ?_, fun c => absurd (show ((0 : Int) = 0) from by decide) c⟩
    refine ⟨⟨_, rfl, (by decide)⟩, ?_⟩
    refine s_X12_finding hF (v := (-1000001)) (by decide) ?_
    have r8 : (I 238 1) = 0 := (hX.i rfl rfl)
    have e : fx_sure v0 v1 v2 v3 = (-1000001) := by (unfold fx_sure; (repeat' split) <;> first | rfl | omega | (simp only [wr, wl] at *; omega))
    rw [e] at hQ
    exact ⟨rfl, hQ _ _⟩
theorem m_prove (hF : FS F) (hX : FXm I) {v0 v1 v2 v3 : Int} (rv0 : iR v0) (rv1 : iR v1) (rv2 : iR v2) (rv3 : iR v3) (hQ : ∀ F' I', Q (some (vi (fx_prove v0 v1 v2 v3))) F' I') : CallN G (d + 12) kX12_prove [vr 235, vi v0, vi v1, vi v2, vi v3] NP F I Q := by
  unfold iR at *
  have tq := td100 v2
  refine Call_wp (lv := [some (vr 235), some (vi v0), some (vi v1), some (vi v2), some (vi v3), none]) (by decide) ckX12_prove [] rfl rfl ?_
  refine s_X12_within (fun (w1 : ((1 : Int) ≤ v0 ∧ (v0 : Int) ≤ 5)) => ?_) (fun (w1 : ¬ ((1 : Int) ≤ v0 ∧ (v0 : Int) ≤ 5)) => ?_)
  ·
    refine ⟨fun c => absurd c (show (¬ ((1 : Int) = 0)) from by decide), fun _ => ?_⟩
    refine s_X12_isMeter (fun (w2 : ((0 : Int) ≤ v1 ∧ (v1 : Int) ≤ 5)) => ?_) (fun (w2 : ¬ ((0 : Int) ≤ v1 ∧ (v1 : Int) ≤ 5)) => ?_)
    ·
      refine ⟨fun c => absurd c (show (¬ ((1 : Int) = 0)) from by decide), fun _ => ?_⟩
      refine s_X12_within (fun (w3 : ((101 : Int) ≤ v2 ∧ (v2 : Int) ≤ 9999)) => ?_) (fun (w3 : ¬ ((101 : Int) ≤ v2 ∧ (v2 : Int) ≤ 9999)) => ?_)
      ·
        refine ⟨fun c => absurd c (show (¬ ((1 : Int) = 0)) from by decide), fun _ => ?_⟩
        refine ⟨(by decide), ?_⟩
        refine ⟨fun (c4 : (((Int.tmod v2 100) : Int) ≤ 0)) => ?_, fun (c4 : (¬ (((Int.tmod v2 100) : Int) ≤ 0))) => ?_⟩
        ·
          refine ⟨fun c => absurd (show ((0 : Int) = 0) from by decide) c, fun _ => ?_⟩
          refine ⟨⟨_, rfl, (by decide)⟩, ?_⟩
          refine s_X12_finding hF (v := (-1000001)) (by decide) ?_
          have r5 : (I 238 1) = 0 := (hX.i rfl rfl)
          have e : fx_prove v0 v1 v2 v3 = (-1000001) := by (unfold fx_prove; (repeat' split) <;> first | rfl | omega | (simp only [wr, wl] at *; omega))
          rw [e] at hQ
          exact ⟨rfl, hQ _ _⟩
        ·
          refine s_X12_within (fun (w6 : ((0 : Int) ≤ v3 ∧ (v3 : Int) ≤ 99)) => ?_) (fun (w6 : ¬ ((0 : Int) ≤ v3 ∧ (v3 : Int) ≤ 99)) => ?_)
          ·
            refine ⟨fun c => absurd c (show (¬ ((1 : Int) = 0)) from by decide), fun _ => ?_⟩
            refine ⟨fun _ => ?_, fun c => absurd c (show (¬ (1 : Int) = 0) from by decide)⟩
            refine ⟨fun (c7 : ((v1 : Int) < v0)) => ?_, fun (c7 : (¬ ((v1 : Int) < v0))) => ?_⟩
            ·
              refine ⟨_, rfl, (by decide), ?_⟩
              refine fun w0 hw0 => ?_; obtain rfl : w0 = some 236 := hw0.symm.trans (FS.g hF rfl)
              have n8 : (wr (4 * v0)) = 4 * v0 := wr_id (show -2147483648 ≤ (4 * v0 : Int) ∧ (4 * v0 : Int) < 2147483648 from by omega)
              have n9 : (wr (16 + (wr (4 * v0)))) = 16 + (wr (4 * v0)) := wr_id (show -2147483648 ≤ (16 + (wr (4 * v0)) : Int) ∧ (16 + (wr (4 * v0)) : Int) < 2147483648 from by omega)
              refine ⟨_, rfl, (by decide), (show (0 : Int) ≤ (wr (16 + (wr (4 * v0)))) from by first | omega | (simp only [wr, wl] at *; omega)), (show (wr (16 + (wr (4 * v0)))) < (1340 : Int) from by first | omega | (simp only [wr, wl] at *; omega)), ?_⟩
              refine ⟨_, rfl, (by decide), ?_⟩
              refine fun w0 hw0 => ?_; obtain rfl : w0 = some 236 := hw0.symm.trans (FS.g hF rfl)
              refine ⟨(by decide), ?_⟩
              have n10 : (wr ((wr (16 + (wr (4 * v0)))) + 1)) = (wr (16 + (wr (4 * v0)))) + 1 := wr_id (show -2147483648 ≤ ((wr (16 + (wr (4 * v0)))) + 1 : Int) ∧ ((wr (16 + (wr (4 * v0)))) + 1 : Int) < 2147483648 from by omega)
              refine ⟨_, rfl, (by decide), (show (0 : Int) ≤ (wr ((wr (16 + (wr (4 * v0)))) + 1)) from by first | omega | (simp only [wr, wl] at *; omega)), (show (wr ((wr (16 + (wr (4 * v0)))) + 1)) < (1340 : Int) from by first | omega | (simp only [wr, wl] at *; omega)), ?_⟩
              refine ⟨_, rfl, (by decide), ?_⟩
              refine fun w0 hw0 => ?_; obtain rfl : w0 = some 236 := hw0.symm.trans (FS.g hF rfl)
              refine ⟨(by decide), ?_⟩
              have n11 : (wr ((wr (16 + (wr (4 * v0)))) + 2)) = (wr (16 + (wr (4 * v0)))) + 2 := wr_id (show -2147483648 ≤ ((wr (16 + (wr (4 * v0)))) + 2 : Int) ∧ ((wr (16 + (wr (4 * v0)))) + 2 : Int) < 2147483648 from by omega)
              refine ⟨_, rfl, (by decide), (show (0 : Int) ≤ (wr ((wr (16 + (wr (4 * v0)))) + 2)) from by first | omega | (simp only [wr, wl] at *; omega)), (show (wr ((wr (16 + (wr (4 * v0)))) + 2)) < (1340 : Int) from by first | omega | (simp only [wr, wl] at *; omega)), ?_⟩
              refine ⟨_, rfl, (by decide), ?_⟩
              refine fun w0 hw0 => ?_; obtain rfl : w0 = some 236 := hw0.symm.trans (FS.g hF rfl)
              have n12 : (wr ((wr (16 + (wr (4 * v0)))) + 3)) = (wr (16 + (wr (4 * v0)))) + 3 := wr_id (show -2147483648 ≤ ((wr (16 + (wr (4 * v0)))) + 3 : Int) ∧ ((wr (16 + (wr (4 * v0)))) + 3 : Int) < 2147483648 from by omega)
              refine ⟨_, rfl, (by decide), (show (0 : Int) ≤ (wr ((wr (16 + (wr (4 * v0)))) + 3)) from by first | omega | (simp only [wr, wl] at *; omega)), (show (wr ((wr (16 + (wr (4 * v0)))) + 3)) < (1340 : Int) from by first | omega | (simp only [wr, wl] at *; omega)), ?_⟩
              have e : fx_prove v0 v1 v2 v3 = 1 := by (unfold fx_prove; (repeat' split) <;> first | rfl | omega | (simp only [wr, wl] at *; omega))
              rw [e] at hQ
              exact ⟨rfl, hQ _ _⟩
            ·
              refine ⟨⟨_, rfl, (by decide)⟩, ?_⟩
              refine s_X12_finding hF (v := (-1000003)) (by decide) ?_
              have r13 : (I 238 3) = 0 := (hX.i rfl rfl)
              have e : fx_prove v0 v1 v2 v3 = (-1000003) := by (unfold fx_prove; (repeat' split) <;> first | rfl | omega | (simp only [wr, wl] at *; omega))
              rw [e] at hQ
              exact ⟨rfl, hQ _ _⟩
          ·
            refine ⟨fun _ => ?_, fun c => absurd (show ((0 : Int) = 0) from by decide) c⟩
            refine ⟨fun c => absurd (show ((0 : Int) = 0) from by decide) c, fun _ => ?_⟩
            refine ⟨⟨_, rfl, (by decide)⟩, ?_⟩
            refine s_X12_finding hF (v := (-1000001)) (by decide) ?_
            have r14 : (I 238 1) = 0 := (hX.i rfl rfl)
            have e : fx_prove v0 v1 v2 v3 = (-1000001) := by (unfold fx_prove; (repeat' split) <;> first | rfl | omega | (simp only [wr, wl] at *; omega))
            rw [e] at hQ
            exact ⟨rfl, hQ _ _⟩
      ·
        refine ⟨fun _ => ?_, fun c => absurd (show ((0 : Int) = 0) from by decide) c⟩
        refine ⟨fun c => absurd (show ((0 : Int) = 0) from by decide) c, fun _ => ?_⟩
        refine ⟨⟨_, rfl, (by decide)⟩, ?_⟩
        refine s_X12_finding hF (v := (-1000001)) (by decide) ?_
        have r15 : (I 238 1) = 0 := (hX.i rfl rfl)
        have e : fx_prove v0 v1 v2 v3 = (-1000001) := by (unfold fx_prove; (repeat' split) <;> first | rfl | omega | (simp only [wr, wl] at *; omega))
        rw [e] at hQ
        exact ⟨rfl, hQ _ _⟩
    ·
      refine ⟨fun _ => ?_, fun c => absurd (show ((0 : Int) = 0) from by decide) c⟩
      refine ⟨fun c => absurd (show ((0 : Int) = 0) from by decide) c, fun _ => ?_⟩
      refine ⟨⟨_, rfl, (by decide)⟩, ?_⟩
      refine s_X12_finding hF (v := (-1000001)) (by decide) ?_
      have r16 : (I 238 1) = 0 := (hX.i rfl rfl)
      have e : fx_prove v0 v1 v2 v3 = (-1000001) := by (unfold fx_prove; (repeat' split) <;> first | rfl | omega | (simp only [wr, wl] at *; omega))
      rw [e] at hQ
      exact ⟨rfl, hQ _ _⟩
  ·
    refine ⟨fun _ => ?_, fun c => absurd (show ((0 : Int) = 0) from by decide) c⟩
    refine ⟨fun c => absurd (show ((0 : Int) = 0) from by decide) c, fun _ => ?_⟩
    refine ⟨⟨_, rfl, (by decide)⟩, ?_⟩
    refine s_X12_finding hF (v := (-1000001)) (by decide) ?_
    have r17 : (I 238 1) = 0 := (hX.i rfl rfl)
    have e : fx_prove v0 v1 v2 v3 = (-1000001) := by (unfold fx_prove; (repeat' split) <;> first | rfl | omega | (simp only [wr, wl] at *; omega))
    rw [e] at hQ
    exact ⟨rfl, hQ _ _⟩
theorem m_enter (hF : FS F) (hX : FXm I) {v0 v1 v2 : Int} (rv0 : iR v0) (rv1 : iR v1) (rv2 : iR v2) (hQ : ∀ F' I', Q (some (vi (fx_enter v0 v1 v2))) F' I') : CallN G (d + 12) kX12_enter [vr 235, vi v0, vi v1, vi v2] NP F I Q := by
  unfold iR at *
  refine Call_wp (lv := [some (vr 235), some (vi v0), some (vi v1), some (vi v2), none, none, none]) (by decide) ckX12_enter [] rfl rfl ?_
  refine s_X12_isLot (fun (w1 : ((0 : Int) ≤ v0 ∧ (v0 : Int) ≤ 3)) => ?_) (fun (w1 : ¬ ((0 : Int) ≤ v0 ∧ (v0 : Int) ≤ 3)) => ?_)
  ·
    refine ⟨fun c => absurd c (show (¬ ((1 : Int) = 0)) from by decide), fun _ => ?_⟩
    refine s_X12_isLaw (fun (w2 : ((0 : Int) ≤ v1 ∧ (v1 : Int) ≤ 3)) => ?_) (fun (w2 : ¬ ((0 : Int) ≤ v1 ∧ (v1 : Int) ≤ 3)) => ?_)
    ·
      refine ⟨fun c => absurd c (show (¬ ((1 : Int) = 0)) from by decide), fun _ => ?_⟩
      refine s_X12_isMeter (fun (w3 : ((0 : Int) ≤ v2 ∧ (v2 : Int) ≤ 5)) => ?_) (fun (w3 : ¬ ((0 : Int) ≤ v2 ∧ (v2 : Int) ≤ 5)) => ?_)
      ·
        refine ⟨fun _ => ?_, fun c => absurd c (show (¬ (1 : Int) = 0) from by decide)⟩
        refine ⟨⟨_, rfl, (by decide)⟩, ?_⟩
        refine Call_wp (lv := [some (vr 235), some (vi v0), some (vi v1), none, none]) (by decide) ckX12_findNumbers [] rfl rfl ?_
        refine ⟨_, rfl, (by decide), ?_⟩
        refine ⟨_, rfl, (by decide), ?_⟩
        refine fun w0 hw0 => ?_; obtain rfl : w0 = some 236 := hw0.symm.trans (FS.g hF rfl)
        refine ⟨_, rfl, (by decide), (by decide), (by decide), ?_⟩
        have r4 : (I 236 0) = 0 := (hX.i rfl rfl)
        refine ⟨fun _ => ?_, fun c => absurd (show (((I 236 0) : Int) ≤ 0) from by first | omega | (simp only [wr, wl] at *; omega)) c⟩
        refine ⟨rfl, ?_⟩
        refine ⟨_, rfl, (by decide), ?_⟩
        refine ⟨fun c => absurd (show ((0 : Int) = 0) from by decide) c, fun _ => ?_⟩
        refine ⟨⟨_, rfl, (by decide)⟩, ?_⟩
        refine s_X12_finding hF (v := (-1000002)) (by decide) ?_
        have r5 : (I 238 2) = 0 := (hX.i rfl rfl)
        have e : fx_enter v0 v1 v2 = (-1000002) := by (unfold fx_enter; (repeat' split) <;> first | rfl | omega | (simp only [wr, wl] at *; omega))
        rw [e] at hQ
        exact ⟨rfl, hQ _ _⟩
      ·
        refine ⟨fun c => absurd (show ((0 : Int) = 0) from by decide) c, fun _ => ?_⟩
        refine ⟨⟨_, rfl, (by decide)⟩, ?_⟩
        refine s_X12_finding hF (v := (-1000001)) (by decide) ?_
        have r6 : (I 238 1) = 0 := (hX.i rfl rfl)
        have e : fx_enter v0 v1 v2 = (-1000001) := by (unfold fx_enter; (repeat' split) <;> first | rfl | omega | (simp only [wr, wl] at *; omega))
        rw [e] at hQ
        exact ⟨rfl, hQ _ _⟩
    ·
      refine ⟨fun _ => ?_, fun c => absurd (show ((0 : Int) = 0) from by decide) c⟩
      refine ⟨⟨_, rfl, (by decide)⟩, ?_⟩
      refine s_X12_finding hF (v := (-1000001)) (by decide) ?_
      have r7 : (I 238 1) = 0 := (hX.i rfl rfl)
      have e : fx_enter v0 v1 v2 = (-1000001) := by (unfold fx_enter; (repeat' split) <;> first | rfl | omega | (simp only [wr, wl] at *; omega))
      rw [e] at hQ
      exact ⟨rfl, hQ _ _⟩
  ·
    refine ⟨fun _ => ?_, fun c => absurd (show ((0 : Int) = 0) from by decide) c⟩
    refine ⟨⟨_, rfl, (by decide)⟩, ?_⟩
    refine s_X12_finding hF (v := (-1000001)) (by decide) ?_
    have r8 : (I 238 1) = 0 := (hX.i rfl rfl)
    have e : fx_enter v0 v1 v2 = (-1000001) := by (unfold fx_enter; (repeat' split) <;> first | rfl | omega | (simp only [wr, wl] at *; omega))
    rw [e] at hQ
    exact ⟨rfl, hQ _ _⟩
theorem m_entryIs (hF : FS F) (hX : FXm I) {v0 v1 : Int} (rv0 : iR v0) (rv1 : iR v1) (hQ : ∀ F' I', Q (some (vi ((-1000001)))) F' I') : CallN G (d + 12) kX12_entryIs [vr 235, vi v0, vi v1] NP F I Q := by
  unfold iR at *
  refine Call_wp (lv := [some (vr 235), some (vi v0), some (vi v1), none]) (by decide) ckX12_entryIs [] rfl rfl ?_
  refine ⟨⟨_, rfl, (by decide)⟩, ?_⟩
  have r1 : (I 236 1) = 0 := (hX.i rfl rfl)
  refine s_X12_is hF (w := 1) (by decide) (show 0 ≤ (I 236 1) ∧ (I 236 1) < 1000000 from by omega) (fun hw => absurd hw (show ¬ (0 ≤ v0 ∧ v0 < (I 236 1)) from by omega)) (fun _ => ?_)
  refine ⟨fun _ => ?_, fun c => absurd (show ((0 : Int) = 0) from by decide) c⟩
  refine ⟨⟨_, rfl, (by decide)⟩, ?_⟩
  refine s_X12_finding hF (v := (-1000001)) (by decide) ?_
  have r2 : (I 238 1) = 0 := (hX.i rfl rfl)
  have e : (-1000001) = (-1000001) := by (skip; (repeat' split) <;> first | rfl | omega | (simp only [wr, wl] at *; omega))
  rw [e] at hQ
  exact ⟨rfl, hQ _ _⟩
theorem m_back (hF : FS F) (hX : FXm I) {v0 v1 : Int} (rv0 : iR v0) (rv1 : iR v1) (hQ : ∀ F' I', Q (some (vi ((-1000001)))) F' I') : CallN G (d + 12) kX12_back [vr 235, vi v0, vi v1] NP F I Q := by
  unfold iR at *
  refine Call_wp (lv := [some (vr 235), some (vi v0), some (vi v1), none]) (by decide) ckX12_back [] rfl rfl ?_
  refine ⟨⟨_, rfl, (by decide)⟩, ?_⟩
  have r1 : (I 236 1) = 0 := (hX.i rfl rfl)
  refine s_X12_is hF (w := 1) (by decide) (show 0 ≤ (I 236 1) ∧ (I 236 1) < 1000000 from by omega) (fun hw => absurd hw (show ¬ (0 ≤ v0 ∧ v0 < (I 236 1)) from by omega)) (fun _ => ?_)
  refine ⟨fun _ => ?_, fun c => absurd (show ((0 : Int) = 0) from by decide) c⟩
  refine ⟨⟨_, rfl, (by decide)⟩, ?_⟩
  refine s_X12_finding hF (v := (-1000001)) (by decide) ?_
  have r2 : (I 238 1) = 0 := (hX.i rfl rfl)
  have e : (-1000001) = (-1000001) := by (skip; (repeat' split) <;> first | rfl | omega | (simp only [wr, wl] at *; omega))
  rw [e] at hQ
  exact ⟨rfl, hQ _ _⟩
theorem m_book (hF : FS F) (hX : FXm I) {v0 v1 : Int} (rv0 : iR v0) (rv1 : iR v1) (hQ : ∀ F' I', Q (some (vi (fx_book v0 v1))) F' I') : CallN G (d + 12) kX12_book [vr 235, vi v0, vi v1] NP F I Q := by
  unfold iR at *
  refine Call_wp (lv := [some (vr 235), some (vi v0), some (vi v1), none, none]) (by decide) ckX12_book [] rfl rfl ?_
  refine s_X12_isLot (fun (w1 : ((0 : Int) ≤ v0 ∧ (v0 : Int) ≤ 3)) => ?_) (fun (w1 : ¬ ((0 : Int) ≤ v0 ∧ (v0 : Int) ≤ 3)) => ?_)
  ·
    refine ⟨fun c => absurd c (show (¬ ((1 : Int) = 0)) from by decide), fun _ => ?_⟩
    refine s_X12_isLaw (fun (w2 : ((0 : Int) ≤ v1 ∧ (v1 : Int) ≤ 3)) => ?_) (fun (w2 : ¬ ((0 : Int) ≤ v1 ∧ (v1 : Int) ≤ 3)) => ?_)
    ·
      refine ⟨fun _ => ?_, fun c => absurd c (show (¬ (1 : Int) = 0) from by decide)⟩
      refine ⟨_, rfl, (by decide), ?_⟩
      refine fun w0 hw0 => ?_; obtain rfl : w0 = some 236 := hw0.symm.trans (FS.g hF rfl)
      refine ⟨_, rfl, (by decide), (by decide), (by decide), ?_⟩
      have r3 : (I 236 1) = 0 := (hX.i rfl rfl)
      refine ⟨fun _ => ?_, fun c => absurd (show (((I 236 1) : Int) ≤ 0) from by first | omega | (simp only [wr, wl] at *; omega)) c⟩
      refine ⟨fun c => absurd c (show (¬ ((0 : Int) ≤ (-1))) from by decide), fun _ => ?_⟩
      refine ⟨⟨_, rfl, (by decide)⟩, ?_⟩
      refine s_X12_finding hF (v := (-1000002)) (by decide) ?_
      have r4 : (I 238 2) = 0 := (hX.i rfl rfl)
      have e : fx_book v0 v1 = (-1000002) := by (unfold fx_book; (repeat' split) <;> first | rfl | omega | (simp only [wr, wl] at *; omega))
      rw [e] at hQ
      exact ⟨rfl, hQ _ _⟩
    ·
      refine ⟨fun c => absurd (show ((0 : Int) = 0) from by decide) c, fun _ => ?_⟩
      refine ⟨⟨_, rfl, (by decide)⟩, ?_⟩
      refine s_X12_finding hF (v := (-1000001)) (by decide) ?_
      have r5 : (I 238 1) = 0 := (hX.i rfl rfl)
      have e : fx_book v0 v1 = (-1000001) := by (unfold fx_book; (repeat' split) <;> first | rfl | omega | (simp only [wr, wl] at *; omega))
      rw [e] at hQ
      exact ⟨rfl, hQ _ _⟩
  ·
    refine ⟨fun _ => ?_, fun c => absurd (show ((0 : Int) = 0) from by decide) c⟩
    refine ⟨⟨_, rfl, (by decide)⟩, ?_⟩
    refine s_X12_finding hF (v := (-1000001)) (by decide) ?_
    have r6 : (I 238 1) = 0 := (hX.i rfl rfl)
    have e : fx_book v0 v1 = (-1000001) := by (unfold fx_book; (repeat' split) <;> first | rfl | omega | (simp only [wr, wl] at *; omega))
    rw [e] at hQ
    exact ⟨rfl, hQ _ _⟩
theorem m_hangs (hF : FS F) (hX : FXm I) {v0 : Int} (rv0 : iR v0) (hQ : ∀ F' I', Q (some (vi (fx_hangs v0))) F' I') : CallN G (d + 12) kX12_hangs [vr 235, vi v0] NP F I Q := by
  unfold iR at *
  refine Call_wp (lv := [some (vr 235), some (vi v0), none, none, none]) (by decide) ckX12_hangs [] rfl rfl ?_
  refine s_X12_isMeter (fun (w1 : ((0 : Int) ≤ v0 ∧ (v0 : Int) ≤ 5)) => ?_) (fun (w1 : ¬ ((0 : Int) ≤ v0 ∧ (v0 : Int) ≤ 5)) => ?_)
  ·
    refine ⟨fun _ => ?_, fun c => absurd c (show (¬ (1 : Int) = 0) from by decide)⟩
    refine ⟨_, rfl, (by decide), ?_⟩
    refine fun w0 hw0 => ?_; obtain rfl : w0 = some 236 := hw0.symm.trans (FS.g hF rfl)
    refine ⟨_, rfl, (by decide), (by decide), (by decide), ?_⟩
    have r2 : (I 236 1) = 0 := (hX.i rfl rfl)
    refine ⟨fun _ => ?_, fun c => absurd (show (((I 236 1) : Int) ≤ 0) from by first | omega | (simp only [wr, wl] at *; omega)) c⟩
    have e : fx_hangs v0 = 0 := by (unfold fx_hangs; (repeat' split) <;> first | rfl | omega | (simp only [wr, wl] at *; omega))
    rw [e] at hQ
    exact ⟨rfl, hQ _ _⟩
  ·
    refine ⟨fun c => absurd (show ((0 : Int) = 0) from by decide) c, fun _ => ?_⟩
    refine ⟨⟨_, rfl, (by decide)⟩, ?_⟩
    refine s_X12_finding hF (v := (-1000001)) (by decide) ?_
    have r3 : (I 238 1) = 0 := (hX.i rfl rfl)
    have e : fx_hangs v0 = (-1000001) := by (unfold fx_hangs; (repeat' split) <;> first | rfl | omega | (simp only [wr, wl] at *; omega))
    rw [e] at hQ
    exact ⟨rfl, hQ _ _⟩
theorem m_plates (hF : FS F) (hX : FXm I) {v0 v1 v2 : Int} (rv0 : iR v0) (rv1 : iR v1) (rv2 : iR v2) (hQ : ∀ F' I', Q (some (vi (fx_plates v0 v1 v2))) F' I') : CallN G (d + 12) kX12_plates [vr 235, vi v0, vi v1, vi v2] NP F I Q := by
  unfold iR at *
  refine Call_wp (lv := [some (vr 235), some (vi v0), some (vi v1), some (vi v2), none, none, none, none, none, none, none, none, none]) (by decide) ckX12_plates [] rfl rfl ?_
  refine s_X12_isSheet (fun (w1 : ((0 : Int) ≤ v0 ∧ (v0 : Int) ≤ 3)) => ?_) (fun (w1 : ¬ ((0 : Int) ≤ v0 ∧ (v0 : Int) ≤ 3)) => ?_)
  ·
    refine ⟨fun c => absurd c (show (¬ ((1 : Int) = 0)) from by decide), fun _ => ?_⟩
    refine s_X12_within (fun (w2 : ((0 : Int) ≤ v1 ∧ (v1 : Int) ≤ 10)) => ?_) (fun (w2 : ¬ ((0 : Int) ≤ v1 ∧ (v1 : Int) ≤ 10)) => ?_)
    ·
      refine ⟨fun c => absurd c (show (¬ ((1 : Int) = 0)) from by decide), fun _ => ?_⟩
      refine s_X12_within (fun (w3 : ((1 : Int) ≤ v2 ∧ (v2 : Int) ≤ 999)) => ?_) (fun (w3 : ¬ ((1 : Int) ≤ v2 ∧ (v2 : Int) ≤ 999)) => ?_)
      ·
        refine ⟨fun _ => ?_, fun c => absurd c (show (¬ (1 : Int) = 0) from by decide)⟩
        refine ⟨_, rfl, (by decide), ?_⟩
        refine fun w0 hw0 => ?_; obtain rfl : w0 = some 250 := hw0.symm.trans (FS.g hF rfl)
        refine ⟨_, rfl, (by decide), (by first | omega | (simp only [wr, wl] at *; omega)), (by first | omega | (simp only [wr, wl] at *; omega)), ?_⟩
        have r4 : (I 250 (Int.toNat v0)) = 0 := (FXm_r hX 250 0 0 3 rfl rfl v0 (by first | omega | (simp only [wr, wl] at *; omega)) (by first | omega | (simp only [wr, wl] at *; omega)))
        refine ⟨fun c => absurd (show (((I 250 (Int.toNat v0)) : Int) = 0) from by first | omega | (simp only [wr, wl] at *; omega)) c, fun _ => ?_⟩
        refine ⟨⟨_, rfl, (by decide)⟩, ?_⟩
        refine s_X12_finding hF (v := (-1000002)) (by decide) ?_
        have r5 : (I 238 2) = 0 := (hX.i rfl rfl)
        have e : fx_plates v0 v1 v2 = (-1000002) := by (unfold fx_plates; (repeat' split) <;> first | rfl | omega | (simp only [wr, wl] at *; omega))
        rw [e] at hQ
        exact ⟨rfl, hQ _ _⟩
      ·
        refine ⟨fun c => absurd (show ((0 : Int) = 0) from by decide) c, fun _ => ?_⟩
        refine ⟨⟨_, rfl, (by decide)⟩, ?_⟩
        refine s_X12_finding hF (v := (-1000001)) (by decide) ?_
        have r6 : (I 238 1) = 0 := (hX.i rfl rfl)
        have e : fx_plates v0 v1 v2 = (-1000001) := by (unfold fx_plates; (repeat' split) <;> first | rfl | omega | (simp only [wr, wl] at *; omega))
        rw [e] at hQ
        exact ⟨rfl, hQ _ _⟩
    ·
      refine ⟨fun _ => ?_, fun c => absurd (show ((0 : Int) = 0) from by decide) c⟩
      refine ⟨⟨_, rfl, (by decide)⟩, ?_⟩
      refine s_X12_finding hF (v := (-1000001)) (by decide) ?_
      have r7 : (I 238 1) = 0 := (hX.i rfl rfl)
      have e : fx_plates v0 v1 v2 = (-1000001) := by (unfold fx_plates; (repeat' split) <;> first | rfl | omega | (simp only [wr, wl] at *; omega))
      rw [e] at hQ
      exact ⟨rfl, hQ _ _⟩
  ·
    refine ⟨fun _ => ?_, fun c => absurd (show ((0 : Int) = 0) from by decide) c⟩
    refine ⟨⟨_, rfl, (by decide)⟩, ?_⟩
    refine s_X12_finding hF (v := (-1000001)) (by decide) ?_
    have r8 : (I 238 1) = 0 := (hX.i rfl rfl)
    have e : fx_plates v0 v1 v2 = (-1000001) := by (unfold fx_plates; (repeat' split) <;> first | rfl | omega | (simp only [wr, wl] at *; omega))
    rw [e] at hQ
    exact ⟨rfl, hQ _ _⟩
theorem m_voice (hF : FS F) (hX : FXm I) {v0 v1 v2 : Int} (rv0 : iR v0) (rv1 : iR v1) (rv2 : iR v2) (hQ : ∀ F' I', Q (some (vi ((-1000001)))) F' I') : CallN G (d + 12) kX12_voice [vr 235, vi v0, vi v1, vi v2] NP F I Q := by
  unfold iR at *
  refine Call_wp (lv := [some (vr 235), some (vi v0), some (vi v1), some (vi v2), none]) (by decide) ckX12_voice [] rfl rfl ?_
  refine ⟨⟨_, rfl, (by decide)⟩, ?_⟩
  have r1 : (I 236 0) = 0 := (hX.i rfl rfl)
  refine s_X12_is hF (w := 0) (by decide) (show 0 ≤ (I 236 0) ∧ (I 236 0) < 1000000 from by omega) (fun hw => absurd hw (show ¬ (0 ≤ v0 ∧ v0 < (I 236 0)) from by omega)) (fun _ => ?_)
  refine ⟨fun _ => ?_, fun c => absurd (show ((0 : Int) = 0) from by decide) c⟩
  refine ⟨⟨_, rfl, (by decide)⟩, ?_⟩
  refine s_X12_finding hF (v := (-1000001)) (by decide) ?_
  have r2 : (I 238 1) = 0 := (hX.i rfl rfl)
  have e : (-1000001) = (-1000001) := by (skip; (repeat' split) <;> first | rfl | omega | (simp only [wr, wl] at *; omega))
  rw [e] at hQ
  exact ⟨rfl, hQ _ _⟩
theorem m_body_ (hF : FS F) (hX : FXm I) {v0 : Int} (rv0 : iR v0) (hQ : ∀ F' I', Q (some (vi ((-1000002)))) F' I') : CallN G (d + 12) kX12_body_ [vr 235, vi v0] NP F I Q := by
  unfold iR at *
  refine Call_wp (lv := [some (vr 235), some (vi v0)]) (by decide) ckX12_body_ [] rfl rfl ?_
  refine ⟨_, rfl, (by decide), ?_⟩
  have r1 : (I 235 31) = 0 := (hX.i rfl rfl)
  refine s_X12_within (fun hw => absurd hw (show ¬ ((0 : Int) ≤ v0 ∧ (v0 : Int) ≤ (wr ((I 235 31) - 1))) from by first | omega | (simp only [wr, wl] at *; omega))) (fun _ => ?_)
  refine ⟨fun _ => ?_, fun c => absurd (show ((0 : Int) = 0) from by decide) c⟩
  refine ⟨⟨_, rfl, (by decide)⟩, ?_⟩
  refine s_X12_finding hF (v := (-1000002)) (by decide) ?_
  have r2 : (I 238 2) = 0 := (hX.i rfl rfl)
  have e : (-1000002) = (-1000002) := by (skip; (repeat' split) <;> first | rfl | omega | (simp only [wr, wl] at *; omega))
  rw [e] at hQ
  exact ⟨rfl, hQ _ _⟩
set_option maxRecDepth 100000 in
theorem m_sheet (hF : FS F) (hX : FXm I) {v0 v1 v2 : Int} (rv0 : iR v0) (rv1 : iR v1) (rv2 : iR v2) (hQ : ∀ F' I', Q (some (vi (fx_sheet v0 v1 v2))) F' I') : CallN G (d + 12) kX12_sheet [vr 235, vi v0, vi v1, vi v2] NP F I Q := by
  unfold iR at *
  refine Call_wp (lv := [some (vr 235), some (vi v0), some (vi v1), some (vi v2), none]) (by decide) ckX12_sheet [] rfl rfl ?_
  refine s_X12_isSheet (fun (w1 : ((0 : Int) ≤ v0 ∧ (v0 : Int) ≤ 3)) => ?_) (fun (w1 : ¬ ((0 : Int) ≤ v0 ∧ (v0 : Int) ≤ 3)) => ?_)
  ·
    refine ⟨fun c => absurd c (show (¬ ((1 : Int) = 0)) from by decide), fun _ => ?_⟩
    refine ⟨fun (c2 : ((v1 : Int) = 0)) => ?_, fun (c2 : (¬ ((v1 : Int) = 0))) => ?_⟩
    ·
      refine ⟨fun _ => ?_, fun c => absurd (show ((v1 : Int) = 0) from by first | omega | (simp only [wr, wl] at *; omega)) c⟩
      refine ⟨fun _ => ?_, fun c => absurd (show ((v1 : Int) = 0) from by first | omega | (simp only [wr, wl] at *; omega)) c⟩
      refine ⟨_, rfl, (by decide), ?_⟩
      refine fun w0 hw0 => ?_; obtain rfl : w0 = some 250 := hw0.symm.trans (FS.g hF rfl)
      refine ⟨_, rfl, (by decide), (by first | omega | (simp only [wr, wl] at *; omega)), (by first | omega | (simp only [wr, wl] at *; omega)), ?_⟩
      refine ⟨_, rfl, (by decide), ?_⟩
      refine fun w0 hw0 => ?_; obtain rfl : w0 = some 251 := hw0.symm.trans (FS.g hF rfl)
      refine ⟨fun c => absurd (show ((v1 : Int) = 0) from by first | omega | (simp only [wr, wl] at *; omega)) c, fun _ => ?_⟩
      refine ⟨_, rfl, (by decide), (by first | omega | (simp only [wr, wl] at *; omega)), (by first | omega | (simp only [wr, wl] at *; omega)), ?_⟩
      refine ⟨fun c => absurd c (show (¬ ((24 : Int) ≤ 0)) from by decide), fun _ => ?_⟩
      refine ⟨_, rfl, (by decide), ?_⟩
      refine fun w0 hw0 => ?_; obtain rfl : w0 = some 252 := hw0.symm.trans (FS.g hF rfl)
      have n3 : (wr (24 * v0)) = 24 * v0 := wr_id (show -2147483648 ≤ (24 * v0 : Int) ∧ (24 * v0 : Int) < 2147483648 from by omega)
      have n4 : (wr ((wr (24 * v0)) + 0)) = (wr (24 * v0)) + 0 := wr_id (show -2147483648 ≤ ((wr (24 * v0)) + 0 : Int) ∧ ((wr (24 * v0)) + 0 : Int) < 2147483648 from by omega)
      refine ⟨_, rfl, (by decide), (show (0 : Int) ≤ (wr ((wr (24 * v0)) + 0)) from by first | omega | (simp only [wr, wl] at *; omega)), (show (wr ((wr (24 * v0)) + 0)) < (96 : Int) from by first | omega | (simp only [wr, wl] at *; omega)), ?_⟩
      refine ⟨fun c => absurd c (show (¬ ((24 : Int) ≤ 1)) from by decide), fun _ => ?_⟩
      refine ⟨_, rfl, (by decide), ?_⟩
      refine fun w0 hw0 => ?_; obtain rfl : w0 = some 252 := hw0.symm.trans (FS.g hF rfl)
      have n5 : (wr ((wr (24 * v0)) + 1)) = (wr (24 * v0)) + 1 := wr_id (show -2147483648 ≤ ((wr (24 * v0)) + 1 : Int) ∧ ((wr (24 * v0)) + 1 : Int) < 2147483648 from by omega)
      refine ⟨_, rfl, (by decide), (show (0 : Int) ≤ (wr ((wr (24 * v0)) + 1)) from by first | omega | (simp only [wr, wl] at *; omega)), (show (wr ((wr (24 * v0)) + 1)) < (96 : Int) from by first | omega | (simp only [wr, wl] at *; omega)), ?_⟩
      refine ⟨fun c => absurd c (show (¬ ((24 : Int) ≤ 2)) from by decide), fun _ => ?_⟩
      refine ⟨_, rfl, (by decide), ?_⟩
      refine fun w0 hw0 => ?_; obtain rfl : w0 = some 252 := hw0.symm.trans (FS.g hF rfl)
      have n6 : (wr ((wr (24 * v0)) + 2)) = (wr (24 * v0)) + 2 := wr_id (show -2147483648 ≤ ((wr (24 * v0)) + 2 : Int) ∧ ((wr (24 * v0)) + 2 : Int) < 2147483648 from by omega)
      refine ⟨_, rfl, (by decide), (show (0 : Int) ≤ (wr ((wr (24 * v0)) + 2)) from by first | omega | (simp only [wr, wl] at *; omega)), (show (wr ((wr (24 * v0)) + 2)) < (96 : Int) from by first | omega | (simp only [wr, wl] at *; omega)), ?_⟩
      refine ⟨fun c => absurd c (show (¬ ((24 : Int) ≤ 3)) from by decide), fun _ => ?_⟩
      refine ⟨_, rfl, (by decide), ?_⟩
      refine fun w0 hw0 => ?_; obtain rfl : w0 = some 252 := hw0.symm.trans (FS.g hF rfl)
      have n7 : (wr ((wr (24 * v0)) + 3)) = (wr (24 * v0)) + 3 := wr_id (show -2147483648 ≤ ((wr (24 * v0)) + 3 : Int) ∧ ((wr (24 * v0)) + 3 : Int) < 2147483648 from by omega)
      refine ⟨_, rfl, (by decide), (show (0 : Int) ≤ (wr ((wr (24 * v0)) + 3)) from by first | omega | (simp only [wr, wl] at *; omega)), (show (wr ((wr (24 * v0)) + 3)) < (96 : Int) from by first | omega | (simp only [wr, wl] at *; omega)), ?_⟩
      refine ⟨fun c => absurd c (show (¬ ((24 : Int) ≤ 4)) from by decide), fun _ => ?_⟩
      refine ⟨_, rfl, (by decide), ?_⟩
      refine fun w0 hw0 => ?_; obtain rfl : w0 = some 252 := hw0.symm.trans (FS.g hF rfl)
      have n8 : (wr ((wr (24 * v0)) + 4)) = (wr (24 * v0)) + 4 := wr_id (show -2147483648 ≤ ((wr (24 * v0)) + 4 : Int) ∧ ((wr (24 * v0)) + 4 : Int) < 2147483648 from by omega)
      refine ⟨_, rfl, (by decide), (show (0 : Int) ≤ (wr ((wr (24 * v0)) + 4)) from by first | omega | (simp only [wr, wl] at *; omega)), (show (wr ((wr (24 * v0)) + 4)) < (96 : Int) from by first | omega | (simp only [wr, wl] at *; omega)), ?_⟩
      refine ⟨fun c => absurd c (show (¬ ((24 : Int) ≤ 5)) from by decide), fun _ => ?_⟩
      refine ⟨_, rfl, (by decide), ?_⟩
      refine fun w0 hw0 => ?_; obtain rfl : w0 = some 252 := hw0.symm.trans (FS.g hF rfl)
      have n9 : (wr ((wr (24 * v0)) + 5)) = (wr (24 * v0)) + 5 := wr_id (show -2147483648 ≤ ((wr (24 * v0)) + 5 : Int) ∧ ((wr (24 * v0)) + 5 : Int) < 2147483648 from by omega)
      refine ⟨_, rfl, (by decide), (show (0 : Int) ≤ (wr ((wr (24 * v0)) + 5)) from by first | omega | (simp only [wr, wl] at *; omega)), (show (wr ((wr (24 * v0)) + 5)) < (96 : Int) from by first | omega | (simp only [wr, wl] at *; omega)), ?_⟩
      refine ⟨fun c => absurd c (show (¬ ((24 : Int) ≤ 6)) from by decide), fun _ => ?_⟩
      refine ⟨_, rfl, (by decide), ?_⟩
      refine fun w0 hw0 => ?_; obtain rfl : w0 = some 252 := hw0.symm.trans (FS.g hF rfl)
      have n10 : (wr ((wr (24 * v0)) + 6)) = (wr (24 * v0)) + 6 := wr_id (show -2147483648 ≤ ((wr (24 * v0)) + 6 : Int) ∧ ((wr (24 * v0)) + 6 : Int) < 2147483648 from by omega)
      refine ⟨_, rfl, (by decide), (show (0 : Int) ≤ (wr ((wr (24 * v0)) + 6)) from by first | omega | (simp only [wr, wl] at *; omega)), (show (wr ((wr (24 * v0)) + 6)) < (96 : Int) from by first | omega | (simp only [wr, wl] at *; omega)), ?_⟩
      refine ⟨fun c => absurd c (show (¬ ((24 : Int) ≤ 7)) from by decide), fun _ => ?_⟩
      refine ⟨_, rfl, (by decide), ?_⟩
      refine fun w0 hw0 => ?_; obtain rfl : w0 = some 252 := hw0.symm.trans (FS.g hF rfl)
      have n11 : (wr ((wr (24 * v0)) + 7)) = (wr (24 * v0)) + 7 := wr_id (show -2147483648 ≤ ((wr (24 * v0)) + 7 : Int) ∧ ((wr (24 * v0)) + 7 : Int) < 2147483648 from by omega)
      refine ⟨_, rfl, (by decide), (show (0 : Int) ≤ (wr ((wr (24 * v0)) + 7)) from by first | omega | (simp only [wr, wl] at *; omega)), (show (wr ((wr (24 * v0)) + 7)) < (96 : Int) from by first | omega | (simp only [wr, wl] at *; omega)), ?_⟩
      refine ⟨fun c => absurd c (show (¬ ((24 : Int) ≤ 8)) from by decide), fun _ => ?_⟩
      refine ⟨_, rfl, (by decide), ?_⟩
      refine fun w0 hw0 => ?_; obtain rfl : w0 = some 252 := hw0.symm.trans (FS.g hF rfl)
      have n12 : (wr ((wr (24 * v0)) + 8)) = (wr (24 * v0)) + 8 := wr_id (show -2147483648 ≤ ((wr (24 * v0)) + 8 : Int) ∧ ((wr (24 * v0)) + 8 : Int) < 2147483648 from by omega)
      refine ⟨_, rfl, (by decide), (show (0 : Int) ≤ (wr ((wr (24 * v0)) + 8)) from by first | omega | (simp only [wr, wl] at *; omega)), (show (wr ((wr (24 * v0)) + 8)) < (96 : Int) from by first | omega | (simp only [wr, wl] at *; omega)), ?_⟩
      refine ⟨fun c => absurd c (show (¬ ((24 : Int) ≤ 9)) from by decide), fun _ => ?_⟩
      refine ⟨_, rfl, (by decide), ?_⟩
      refine fun w0 hw0 => ?_; obtain rfl : w0 = some 252 := hw0.symm.trans (FS.g hF rfl)
      have n13 : (wr ((wr (24 * v0)) + 9)) = (wr (24 * v0)) + 9 := wr_id (show -2147483648 ≤ ((wr (24 * v0)) + 9 : Int) ∧ ((wr (24 * v0)) + 9 : Int) < 2147483648 from by omega)
      refine ⟨_, rfl, (by decide), (show (0 : Int) ≤ (wr ((wr (24 * v0)) + 9)) from by first | omega | (simp only [wr, wl] at *; omega)), (show (wr ((wr (24 * v0)) + 9)) < (96 : Int) from by first | omega | (simp only [wr, wl] at *; omega)), ?_⟩
      refine ⟨fun c => absurd c (show (¬ ((24 : Int) ≤ 10)) from by decide), fun _ => ?_⟩
      refine ⟨_, rfl, (by decide), ?_⟩
      refine fun w0 hw0 => ?_; obtain rfl : w0 = some 252 := hw0.symm.trans (FS.g hF rfl)
      have n14 : (wr ((wr (24 * v0)) + 10)) = (wr (24 * v0)) + 10 := wr_id (show -2147483648 ≤ ((wr (24 * v0)) + 10 : Int) ∧ ((wr (24 * v0)) + 10 : Int) < 2147483648 from by omega)
      refine ⟨_, rfl, (by decide), (show (0 : Int) ≤ (wr ((wr (24 * v0)) + 10)) from by first | omega | (simp only [wr, wl] at *; omega)), (show (wr ((wr (24 * v0)) + 10)) < (96 : Int) from by first | omega | (simp only [wr, wl] at *; omega)), ?_⟩
      refine ⟨fun c => absurd c (show (¬ ((24 : Int) ≤ 11)) from by decide), fun _ => ?_⟩
      refine ⟨_, rfl, (by decide), ?_⟩
      refine fun w0 hw0 => ?_; obtain rfl : w0 = some 252 := hw0.symm.trans (FS.g hF rfl)
      have n15 : (wr ((wr (24 * v0)) + 11)) = (wr (24 * v0)) + 11 := wr_id (show -2147483648 ≤ ((wr (24 * v0)) + 11 : Int) ∧ ((wr (24 * v0)) + 11 : Int) < 2147483648 from by omega)
      refine ⟨_, rfl, (by decide), (show (0 : Int) ≤ (wr ((wr (24 * v0)) + 11)) from by first | omega | (simp only [wr, wl] at *; omega)), (show (wr ((wr (24 * v0)) + 11)) < (96 : Int) from by first | omega | (simp only [wr, wl] at *; omega)), ?_⟩
      refine ⟨fun c => absurd c (show (¬ ((24 : Int) ≤ 12)) from by decide), fun _ => ?_⟩
      refine ⟨_, rfl, (by decide), ?_⟩
      refine fun w0 hw0 => ?_; obtain rfl : w0 = some 252 := hw0.symm.trans (FS.g hF rfl)
      have n16 : (wr ((wr (24 * v0)) + 12)) = (wr (24 * v0)) + 12 := wr_id (show -2147483648 ≤ ((wr (24 * v0)) + 12 : Int) ∧ ((wr (24 * v0)) + 12 : Int) < 2147483648 from by omega)
      refine ⟨_, rfl, (by decide), (show (0 : Int) ≤ (wr ((wr (24 * v0)) + 12)) from by first | omega | (simp only [wr, wl] at *; omega)), (show (wr ((wr (24 * v0)) + 12)) < (96 : Int) from by first | omega | (simp only [wr, wl] at *; omega)), ?_⟩
      refine ⟨fun c => absurd c (show (¬ ((24 : Int) ≤ 13)) from by decide), fun _ => ?_⟩
      refine ⟨_, rfl, (by decide), ?_⟩
      refine fun w0 hw0 => ?_; obtain rfl : w0 = some 252 := hw0.symm.trans (FS.g hF rfl)
      have n17 : (wr ((wr (24 * v0)) + 13)) = (wr (24 * v0)) + 13 := wr_id (show -2147483648 ≤ ((wr (24 * v0)) + 13 : Int) ∧ ((wr (24 * v0)) + 13 : Int) < 2147483648 from by omega)
      refine ⟨_, rfl, (by decide), (show (0 : Int) ≤ (wr ((wr (24 * v0)) + 13)) from by first | omega | (simp only [wr, wl] at *; omega)), (show (wr ((wr (24 * v0)) + 13)) < (96 : Int) from by first | omega | (simp only [wr, wl] at *; omega)), ?_⟩
      refine ⟨fun c => absurd c (show (¬ ((24 : Int) ≤ 14)) from by decide), fun _ => ?_⟩
      refine ⟨_, rfl, (by decide), ?_⟩
      refine fun w0 hw0 => ?_; obtain rfl : w0 = some 252 := hw0.symm.trans (FS.g hF rfl)
      have n18 : (wr ((wr (24 * v0)) + 14)) = (wr (24 * v0)) + 14 := wr_id (show -2147483648 ≤ ((wr (24 * v0)) + 14 : Int) ∧ ((wr (24 * v0)) + 14 : Int) < 2147483648 from by omega)
      refine ⟨_, rfl, (by decide), (show (0 : Int) ≤ (wr ((wr (24 * v0)) + 14)) from by first | omega | (simp only [wr, wl] at *; omega)), (show (wr ((wr (24 * v0)) + 14)) < (96 : Int) from by first | omega | (simp only [wr, wl] at *; omega)), ?_⟩
      refine ⟨fun c => absurd c (show (¬ ((24 : Int) ≤ 15)) from by decide), fun _ => ?_⟩
      refine ⟨_, rfl, (by decide), ?_⟩
      refine fun w0 hw0 => ?_; obtain rfl : w0 = some 252 := hw0.symm.trans (FS.g hF rfl)
      have n19 : (wr ((wr (24 * v0)) + 15)) = (wr (24 * v0)) + 15 := wr_id (show -2147483648 ≤ ((wr (24 * v0)) + 15 : Int) ∧ ((wr (24 * v0)) + 15 : Int) < 2147483648 from by omega)
      refine ⟨_, rfl, (by decide), (show (0 : Int) ≤ (wr ((wr (24 * v0)) + 15)) from by first | omega | (simp only [wr, wl] at *; omega)), (show (wr ((wr (24 * v0)) + 15)) < (96 : Int) from by first | omega | (simp only [wr, wl] at *; omega)), ?_⟩
      refine ⟨fun c => absurd c (show (¬ ((24 : Int) ≤ 16)) from by decide), fun _ => ?_⟩
      refine ⟨_, rfl, (by decide), ?_⟩
      refine fun w0 hw0 => ?_; obtain rfl : w0 = some 252 := hw0.symm.trans (FS.g hF rfl)
      have n20 : (wr ((wr (24 * v0)) + 16)) = (wr (24 * v0)) + 16 := wr_id (show -2147483648 ≤ ((wr (24 * v0)) + 16 : Int) ∧ ((wr (24 * v0)) + 16 : Int) < 2147483648 from by omega)
      refine ⟨_, rfl, (by decide), (show (0 : Int) ≤ (wr ((wr (24 * v0)) + 16)) from by first | omega | (simp only [wr, wl] at *; omega)), (show (wr ((wr (24 * v0)) + 16)) < (96 : Int) from by first | omega | (simp only [wr, wl] at *; omega)), ?_⟩
      refine ⟨fun c => absurd c (show (¬ ((24 : Int) ≤ 17)) from by decide), fun _ => ?_⟩
      refine ⟨_, rfl, (by decide), ?_⟩
      refine fun w0 hw0 => ?_; obtain rfl : w0 = some 252 := hw0.symm.trans (FS.g hF rfl)
      have n21 : (wr ((wr (24 * v0)) + 17)) = (wr (24 * v0)) + 17 := wr_id (show -2147483648 ≤ ((wr (24 * v0)) + 17 : Int) ∧ ((wr (24 * v0)) + 17 : Int) < 2147483648 from by omega)
      refine ⟨_, rfl, (by decide), (show (0 : Int) ≤ (wr ((wr (24 * v0)) + 17)) from by first | omega | (simp only [wr, wl] at *; omega)), (show (wr ((wr (24 * v0)) + 17)) < (96 : Int) from by first | omega | (simp only [wr, wl] at *; omega)), ?_⟩
      refine ⟨fun c => absurd c (show (¬ ((24 : Int) ≤ 18)) from by decide), fun _ => ?_⟩
      refine ⟨_, rfl, (by decide), ?_⟩
      refine fun w0 hw0 => ?_; obtain rfl : w0 = some 252 := hw0.symm.trans (FS.g hF rfl)
      have n22 : (wr ((wr (24 * v0)) + 18)) = (wr (24 * v0)) + 18 := wr_id (show -2147483648 ≤ ((wr (24 * v0)) + 18 : Int) ∧ ((wr (24 * v0)) + 18 : Int) < 2147483648 from by omega)
      refine ⟨_, rfl, (by decide), (show (0 : Int) ≤ (wr ((wr (24 * v0)) + 18)) from by first | omega | (simp only [wr, wl] at *; omega)), (show (wr ((wr (24 * v0)) + 18)) < (96 : Int) from by first | omega | (simp only [wr, wl] at *; omega)), ?_⟩
      refine ⟨fun c => absurd c (show (¬ ((24 : Int) ≤ 19)) from by decide), fun _ => ?_⟩
      refine ⟨_, rfl, (by decide), ?_⟩
      refine fun w0 hw0 => ?_; obtain rfl : w0 = some 252 := hw0.symm.trans (FS.g hF rfl)
      have n23 : (wr ((wr (24 * v0)) + 19)) = (wr (24 * v0)) + 19 := wr_id (show -2147483648 ≤ ((wr (24 * v0)) + 19 : Int) ∧ ((wr (24 * v0)) + 19 : Int) < 2147483648 from by omega)
      refine ⟨_, rfl, (by decide), (show (0 : Int) ≤ (wr ((wr (24 * v0)) + 19)) from by first | omega | (simp only [wr, wl] at *; omega)), (show (wr ((wr (24 * v0)) + 19)) < (96 : Int) from by first | omega | (simp only [wr, wl] at *; omega)), ?_⟩
      refine ⟨fun c => absurd c (show (¬ ((24 : Int) ≤ 20)) from by decide), fun _ => ?_⟩
      refine ⟨_, rfl, (by decide), ?_⟩
      refine fun w0 hw0 => ?_; obtain rfl : w0 = some 252 := hw0.symm.trans (FS.g hF rfl)
      have n24 : (wr ((wr (24 * v0)) + 20)) = (wr (24 * v0)) + 20 := wr_id (show -2147483648 ≤ ((wr (24 * v0)) + 20 : Int) ∧ ((wr (24 * v0)) + 20 : Int) < 2147483648 from by omega)
      refine ⟨_, rfl, (by decide), (show (0 : Int) ≤ (wr ((wr (24 * v0)) + 20)) from by first | omega | (simp only [wr, wl] at *; omega)), (show (wr ((wr (24 * v0)) + 20)) < (96 : Int) from by first | omega | (simp only [wr, wl] at *; omega)), ?_⟩
      refine ⟨fun c => absurd c (show (¬ ((24 : Int) ≤ 21)) from by decide), fun _ => ?_⟩
      refine ⟨_, rfl, (by decide), ?_⟩
      refine fun w0 hw0 => ?_; obtain rfl : w0 = some 252 := hw0.symm.trans (FS.g hF rfl)
      have n25 : (wr ((wr (24 * v0)) + 21)) = (wr (24 * v0)) + 21 := wr_id (show -2147483648 ≤ ((wr (24 * v0)) + 21 : Int) ∧ ((wr (24 * v0)) + 21 : Int) < 2147483648 from by omega)
      refine ⟨_, rfl, (by decide), (show (0 : Int) ≤ (wr ((wr (24 * v0)) + 21)) from by first | omega | (simp only [wr, wl] at *; omega)), (show (wr ((wr (24 * v0)) + 21)) < (96 : Int) from by first | omega | (simp only [wr, wl] at *; omega)), ?_⟩
      refine ⟨fun c => absurd c (show (¬ ((24 : Int) ≤ 22)) from by decide), fun _ => ?_⟩
      refine ⟨_, rfl, (by decide), ?_⟩
      refine fun w0 hw0 => ?_; obtain rfl : w0 = some 252 := hw0.symm.trans (FS.g hF rfl)
      have n26 : (wr ((wr (24 * v0)) + 22)) = (wr (24 * v0)) + 22 := wr_id (show -2147483648 ≤ ((wr (24 * v0)) + 22 : Int) ∧ ((wr (24 * v0)) + 22 : Int) < 2147483648 from by omega)
      refine ⟨_, rfl, (by decide), (show (0 : Int) ≤ (wr ((wr (24 * v0)) + 22)) from by first | omega | (simp only [wr, wl] at *; omega)), (show (wr ((wr (24 * v0)) + 22)) < (96 : Int) from by first | omega | (simp only [wr, wl] at *; omega)), ?_⟩
      refine ⟨fun c => absurd c (show (¬ ((24 : Int) ≤ 23)) from by decide), fun _ => ?_⟩
      refine ⟨_, rfl, (by decide), ?_⟩
      refine fun w0 hw0 => ?_; obtain rfl : w0 = some 252 := hw0.symm.trans (FS.g hF rfl)
      have n27 : (wr ((wr (24 * v0)) + 23)) = (wr (24 * v0)) + 23 := wr_id (show -2147483648 ≤ ((wr (24 * v0)) + 23 : Int) ∧ ((wr (24 * v0)) + 23 : Int) < 2147483648 from by omega)
      refine ⟨_, rfl, (by decide), (show (0 : Int) ≤ (wr ((wr (24 * v0)) + 23)) from by first | omega | (simp only [wr, wl] at *; omega)), (show (wr ((wr (24 * v0)) + 23)) < (96 : Int) from by first | omega | (simp only [wr, wl] at *; omega)), ?_⟩
      refine ⟨fun _ => ?_, fun c => absurd (show ((24 : Int) ≤ 24) from by decide) c⟩
      have e : fx_sheet v0 v1 v2 = 1 := by (unfold fx_sheet; (repeat' split) <;> first | rfl | omega | (simp only [wr, wl] at *; omega))
      rw [e] at hQ
      exact ⟨rfl, hQ _ _⟩
    ·
      refine ⟨fun (c28 : ((v1 : Int) = 8)) => ?_, fun (c28 : (¬ ((v1 : Int) = 8))) => ?_⟩
      ·
        refine ⟨fun c => absurd c (show (¬ ((v1 : Int) = 0)) from by first | omega | (simp only [wr, wl] at *; omega)), fun _ => ?_⟩
        refine ⟨fun (c29 : ((0 : Int) ≤ v2)) => ?_, fun (c29 : (¬ ((0 : Int) ≤ v2))) => ?_⟩
        ·
          refine ⟨fun c => absurd c (show (¬ ((v1 : Int) = 0)) from by first | omega | (simp only [wr, wl] at *; omega)), fun _ => ?_⟩
          refine ⟨fun (c30 : ((v2 : Int) ≤ 24)) => ?_, fun (c30 : (¬ ((v2 : Int) ≤ 24))) => ?_⟩
          ·
            refine ⟨_, rfl, (by decide), ?_⟩
            refine fun w0 hw0 => ?_; obtain rfl : w0 = some 250 := hw0.symm.trans (FS.g hF rfl)
            refine ⟨_, rfl, (by decide), (by first | omega | (simp only [wr, wl] at *; omega)), (by first | omega | (simp only [wr, wl] at *; omega)), ?_⟩
            refine ⟨_, rfl, (by decide), ?_⟩
            refine fun w0 hw0 => ?_; obtain rfl : w0 = some 251 := hw0.symm.trans (FS.g hF rfl)
            refine ⟨fun _ => ?_, fun c => absurd c (show (¬ (v1 : Int) = 0) from by first | omega | (simp only [wr, wl] at *; omega))⟩
            refine ⟨_, rfl, (by decide), (by first | omega | (simp only [wr, wl] at *; omega)), (by first | omega | (simp only [wr, wl] at *; omega)), ?_⟩
            refine ⟨fun c => absurd c (show (¬ ((24 : Int) ≤ 0)) from by decide), fun _ => ?_⟩
            refine ⟨_, rfl, (by decide), ?_⟩
            refine fun w0 hw0 => ?_; obtain rfl : w0 = some 252 := hw0.symm.trans (FS.g hF rfl)
            have n31 : (wr (24 * v0)) = 24 * v0 := wr_id (show -2147483648 ≤ (24 * v0 : Int) ∧ (24 * v0 : Int) < 2147483648 from by omega)
            have n32 : (wr ((wr (24 * v0)) + 0)) = (wr (24 * v0)) + 0 := wr_id (show -2147483648 ≤ ((wr (24 * v0)) + 0 : Int) ∧ ((wr (24 * v0)) + 0 : Int) < 2147483648 from by omega)
            refine ⟨_, rfl, (by decide), (show (0 : Int) ≤ (wr ((wr (24 * v0)) + 0)) from by first | omega | (simp only [wr, wl] at *; omega)), (show (wr ((wr (24 * v0)) + 0)) < (96 : Int) from by first | omega | (simp only [wr, wl] at *; omega)), ?_⟩
            refine ⟨fun c => absurd c (show (¬ ((24 : Int) ≤ 1)) from by decide), fun _ => ?_⟩
            refine ⟨_, rfl, (by decide), ?_⟩
            refine fun w0 hw0 => ?_; obtain rfl : w0 = some 252 := hw0.symm.trans (FS.g hF rfl)
            have n33 : (wr ((wr (24 * v0)) + 1)) = (wr (24 * v0)) + 1 := wr_id (show -2147483648 ≤ ((wr (24 * v0)) + 1 : Int) ∧ ((wr (24 * v0)) + 1 : Int) < 2147483648 from by omega)
            refine ⟨_, rfl, (by decide), (show (0 : Int) ≤ (wr ((wr (24 * v0)) + 1)) from by first | omega | (simp only [wr, wl] at *; omega)), (show (wr ((wr (24 * v0)) + 1)) < (96 : Int) from by first | omega | (simp only [wr, wl] at *; omega)), ?_⟩
            refine ⟨fun c => absurd c (show (¬ ((24 : Int) ≤ 2)) from by decide), fun _ => ?_⟩
            refine ⟨_, rfl, (by decide), ?_⟩
            refine fun w0 hw0 => ?_; obtain rfl : w0 = some 252 := hw0.symm.trans (FS.g hF rfl)
            have n34 : (wr ((wr (24 * v0)) + 2)) = (wr (24 * v0)) + 2 := wr_id (show -2147483648 ≤ ((wr (24 * v0)) + 2 : Int) ∧ ((wr (24 * v0)) + 2 : Int) < 2147483648 from by omega)
            refine ⟨_, rfl, (by decide), (show (0 : Int) ≤ (wr ((wr (24 * v0)) + 2)) from by first | omega | (simp only [wr, wl] at *; omega)), (show (wr ((wr (24 * v0)) + 2)) < (96 : Int) from by first | omega | (simp only [wr, wl] at *; omega)), ?_⟩
            refine ⟨fun c => absurd c (show (¬ ((24 : Int) ≤ 3)) from by decide), fun _ => ?_⟩
            refine ⟨_, rfl, (by decide), ?_⟩
            refine fun w0 hw0 => ?_; obtain rfl : w0 = some 252 := hw0.symm.trans (FS.g hF rfl)
            have n35 : (wr ((wr (24 * v0)) + 3)) = (wr (24 * v0)) + 3 := wr_id (show -2147483648 ≤ ((wr (24 * v0)) + 3 : Int) ∧ ((wr (24 * v0)) + 3 : Int) < 2147483648 from by omega)
            refine ⟨_, rfl, (by decide), (show (0 : Int) ≤ (wr ((wr (24 * v0)) + 3)) from by first | omega | (simp only [wr, wl] at *; omega)), (show (wr ((wr (24 * v0)) + 3)) < (96 : Int) from by first | omega | (simp only [wr, wl] at *; omega)), ?_⟩
            refine ⟨fun c => absurd c (show (¬ ((24 : Int) ≤ 4)) from by decide), fun _ => ?_⟩
            refine ⟨_, rfl, (by decide), ?_⟩
            refine fun w0 hw0 => ?_; obtain rfl : w0 = some 252 := hw0.symm.trans (FS.g hF rfl)
            have n36 : (wr ((wr (24 * v0)) + 4)) = (wr (24 * v0)) + 4 := wr_id (show -2147483648 ≤ ((wr (24 * v0)) + 4 : Int) ∧ ((wr (24 * v0)) + 4 : Int) < 2147483648 from by omega)
            refine ⟨_, rfl, (by decide), (show (0 : Int) ≤ (wr ((wr (24 * v0)) + 4)) from by first | omega | (simp only [wr, wl] at *; omega)), (show (wr ((wr (24 * v0)) + 4)) < (96 : Int) from by first | omega | (simp only [wr, wl] at *; omega)), ?_⟩
            refine ⟨fun c => absurd c (show (¬ ((24 : Int) ≤ 5)) from by decide), fun _ => ?_⟩
            refine ⟨_, rfl, (by decide), ?_⟩
            refine fun w0 hw0 => ?_; obtain rfl : w0 = some 252 := hw0.symm.trans (FS.g hF rfl)
            have n37 : (wr ((wr (24 * v0)) + 5)) = (wr (24 * v0)) + 5 := wr_id (show -2147483648 ≤ ((wr (24 * v0)) + 5 : Int) ∧ ((wr (24 * v0)) + 5 : Int) < 2147483648 from by omega)
            refine ⟨_, rfl, (by decide), (show (0 : Int) ≤ (wr ((wr (24 * v0)) + 5)) from by first | omega | (simp only [wr, wl] at *; omega)), (show (wr ((wr (24 * v0)) + 5)) < (96 : Int) from by first | omega | (simp only [wr, wl] at *; omega)), ?_⟩
            refine ⟨fun c => absurd c (show (¬ ((24 : Int) ≤ 6)) from by decide), fun _ => ?_⟩
            refine ⟨_, rfl, (by decide), ?_⟩
            refine fun w0 hw0 => ?_; obtain rfl : w0 = some 252 := hw0.symm.trans (FS.g hF rfl)
            have n38 : (wr ((wr (24 * v0)) + 6)) = (wr (24 * v0)) + 6 := wr_id (show -2147483648 ≤ ((wr (24 * v0)) + 6 : Int) ∧ ((wr (24 * v0)) + 6 : Int) < 2147483648 from by omega)
            refine ⟨_, rfl, (by decide), (show (0 : Int) ≤ (wr ((wr (24 * v0)) + 6)) from by first | omega | (simp only [wr, wl] at *; omega)), (show (wr ((wr (24 * v0)) + 6)) < (96 : Int) from by first | omega | (simp only [wr, wl] at *; omega)), ?_⟩
            refine ⟨fun c => absurd c (show (¬ ((24 : Int) ≤ 7)) from by decide), fun _ => ?_⟩
            refine ⟨_, rfl, (by decide), ?_⟩
            refine fun w0 hw0 => ?_; obtain rfl : w0 = some 252 := hw0.symm.trans (FS.g hF rfl)
            have n39 : (wr ((wr (24 * v0)) + 7)) = (wr (24 * v0)) + 7 := wr_id (show -2147483648 ≤ ((wr (24 * v0)) + 7 : Int) ∧ ((wr (24 * v0)) + 7 : Int) < 2147483648 from by omega)
            refine ⟨_, rfl, (by decide), (show (0 : Int) ≤ (wr ((wr (24 * v0)) + 7)) from by first | omega | (simp only [wr, wl] at *; omega)), (show (wr ((wr (24 * v0)) + 7)) < (96 : Int) from by first | omega | (simp only [wr, wl] at *; omega)), ?_⟩
            refine ⟨fun c => absurd c (show (¬ ((24 : Int) ≤ 8)) from by decide), fun _ => ?_⟩
            refine ⟨_, rfl, (by decide), ?_⟩
            refine fun w0 hw0 => ?_; obtain rfl : w0 = some 252 := hw0.symm.trans (FS.g hF rfl)
            have n40 : (wr ((wr (24 * v0)) + 8)) = (wr (24 * v0)) + 8 := wr_id (show -2147483648 ≤ ((wr (24 * v0)) + 8 : Int) ∧ ((wr (24 * v0)) + 8 : Int) < 2147483648 from by omega)
            refine ⟨_, rfl, (by decide), (show (0 : Int) ≤ (wr ((wr (24 * v0)) + 8)) from by first | omega | (simp only [wr, wl] at *; omega)), (show (wr ((wr (24 * v0)) + 8)) < (96 : Int) from by first | omega | (simp only [wr, wl] at *; omega)), ?_⟩
            refine ⟨fun c => absurd c (show (¬ ((24 : Int) ≤ 9)) from by decide), fun _ => ?_⟩
            refine ⟨_, rfl, (by decide), ?_⟩
            refine fun w0 hw0 => ?_; obtain rfl : w0 = some 252 := hw0.symm.trans (FS.g hF rfl)
            have n41 : (wr ((wr (24 * v0)) + 9)) = (wr (24 * v0)) + 9 := wr_id (show -2147483648 ≤ ((wr (24 * v0)) + 9 : Int) ∧ ((wr (24 * v0)) + 9 : Int) < 2147483648 from by omega)
            refine ⟨_, rfl, (by decide), (show (0 : Int) ≤ (wr ((wr (24 * v0)) + 9)) from by first | omega | (simp only [wr, wl] at *; omega)), (show (wr ((wr (24 * v0)) + 9)) < (96 : Int) from by first | omega | (simp only [wr, wl] at *; omega)), ?_⟩
            refine ⟨fun c => absurd c (show (¬ ((24 : Int) ≤ 10)) from by decide), fun _ => ?_⟩
            refine ⟨_, rfl, (by decide), ?_⟩
            refine fun w0 hw0 => ?_; obtain rfl : w0 = some 252 := hw0.symm.trans (FS.g hF rfl)
            have n42 : (wr ((wr (24 * v0)) + 10)) = (wr (24 * v0)) + 10 := wr_id (show -2147483648 ≤ ((wr (24 * v0)) + 10 : Int) ∧ ((wr (24 * v0)) + 10 : Int) < 2147483648 from by omega)
            refine ⟨_, rfl, (by decide), (show (0 : Int) ≤ (wr ((wr (24 * v0)) + 10)) from by first | omega | (simp only [wr, wl] at *; omega)), (show (wr ((wr (24 * v0)) + 10)) < (96 : Int) from by first | omega | (simp only [wr, wl] at *; omega)), ?_⟩
            refine ⟨fun c => absurd c (show (¬ ((24 : Int) ≤ 11)) from by decide), fun _ => ?_⟩
            refine ⟨_, rfl, (by decide), ?_⟩
            refine fun w0 hw0 => ?_; obtain rfl : w0 = some 252 := hw0.symm.trans (FS.g hF rfl)
            have n43 : (wr ((wr (24 * v0)) + 11)) = (wr (24 * v0)) + 11 := wr_id (show -2147483648 ≤ ((wr (24 * v0)) + 11 : Int) ∧ ((wr (24 * v0)) + 11 : Int) < 2147483648 from by omega)
            refine ⟨_, rfl, (by decide), (show (0 : Int) ≤ (wr ((wr (24 * v0)) + 11)) from by first | omega | (simp only [wr, wl] at *; omega)), (show (wr ((wr (24 * v0)) + 11)) < (96 : Int) from by first | omega | (simp only [wr, wl] at *; omega)), ?_⟩
            refine ⟨fun c => absurd c (show (¬ ((24 : Int) ≤ 12)) from by decide), fun _ => ?_⟩
            refine ⟨_, rfl, (by decide), ?_⟩
            refine fun w0 hw0 => ?_; obtain rfl : w0 = some 252 := hw0.symm.trans (FS.g hF rfl)
            have n44 : (wr ((wr (24 * v0)) + 12)) = (wr (24 * v0)) + 12 := wr_id (show -2147483648 ≤ ((wr (24 * v0)) + 12 : Int) ∧ ((wr (24 * v0)) + 12 : Int) < 2147483648 from by omega)
            refine ⟨_, rfl, (by decide), (show (0 : Int) ≤ (wr ((wr (24 * v0)) + 12)) from by first | omega | (simp only [wr, wl] at *; omega)), (show (wr ((wr (24 * v0)) + 12)) < (96 : Int) from by first | omega | (simp only [wr, wl] at *; omega)), ?_⟩
            refine ⟨fun c => absurd c (show (¬ ((24 : Int) ≤ 13)) from by decide), fun _ => ?_⟩
            refine ⟨_, rfl, (by decide), ?_⟩
            refine fun w0 hw0 => ?_; obtain rfl : w0 = some 252 := hw0.symm.trans (FS.g hF rfl)
            have n45 : (wr ((wr (24 * v0)) + 13)) = (wr (24 * v0)) + 13 := wr_id (show -2147483648 ≤ ((wr (24 * v0)) + 13 : Int) ∧ ((wr (24 * v0)) + 13 : Int) < 2147483648 from by omega)
            refine ⟨_, rfl, (by decide), (show (0 : Int) ≤ (wr ((wr (24 * v0)) + 13)) from by first | omega | (simp only [wr, wl] at *; omega)), (show (wr ((wr (24 * v0)) + 13)) < (96 : Int) from by first | omega | (simp only [wr, wl] at *; omega)), ?_⟩
            refine ⟨fun c => absurd c (show (¬ ((24 : Int) ≤ 14)) from by decide), fun _ => ?_⟩
            refine ⟨_, rfl, (by decide), ?_⟩
            refine fun w0 hw0 => ?_; obtain rfl : w0 = some 252 := hw0.symm.trans (FS.g hF rfl)
            have n46 : (wr ((wr (24 * v0)) + 14)) = (wr (24 * v0)) + 14 := wr_id (show -2147483648 ≤ ((wr (24 * v0)) + 14 : Int) ∧ ((wr (24 * v0)) + 14 : Int) < 2147483648 from by omega)
            refine ⟨_, rfl, (by decide), (show (0 : Int) ≤ (wr ((wr (24 * v0)) + 14)) from by first | omega | (simp only [wr, wl] at *; omega)), (show (wr ((wr (24 * v0)) + 14)) < (96 : Int) from by first | omega | (simp only [wr, wl] at *; omega)), ?_⟩
            refine ⟨fun c => absurd c (show (¬ ((24 : Int) ≤ 15)) from by decide), fun _ => ?_⟩
            refine ⟨_, rfl, (by decide), ?_⟩
            refine fun w0 hw0 => ?_; obtain rfl : w0 = some 252 := hw0.symm.trans (FS.g hF rfl)
            have n47 : (wr ((wr (24 * v0)) + 15)) = (wr (24 * v0)) + 15 := wr_id (show -2147483648 ≤ ((wr (24 * v0)) + 15 : Int) ∧ ((wr (24 * v0)) + 15 : Int) < 2147483648 from by omega)
            refine ⟨_, rfl, (by decide), (show (0 : Int) ≤ (wr ((wr (24 * v0)) + 15)) from by first | omega | (simp only [wr, wl] at *; omega)), (show (wr ((wr (24 * v0)) + 15)) < (96 : Int) from by first | omega | (simp only [wr, wl] at *; omega)), ?_⟩
            refine ⟨fun c => absurd c (show (¬ ((24 : Int) ≤ 16)) from by decide), fun _ => ?_⟩
            refine ⟨_, rfl, (by decide), ?_⟩
            refine fun w0 hw0 => ?_; obtain rfl : w0 = some 252 := hw0.symm.trans (FS.g hF rfl)
            have n48 : (wr ((wr (24 * v0)) + 16)) = (wr (24 * v0)) + 16 := wr_id (show -2147483648 ≤ ((wr (24 * v0)) + 16 : Int) ∧ ((wr (24 * v0)) + 16 : Int) < 2147483648 from by omega)
            refine ⟨_, rfl, (by decide), (show (0 : Int) ≤ (wr ((wr (24 * v0)) + 16)) from by first | omega | (simp only [wr, wl] at *; omega)), (show (wr ((wr (24 * v0)) + 16)) < (96 : Int) from by first | omega | (simp only [wr, wl] at *; omega)), ?_⟩
            refine ⟨fun c => absurd c (show (¬ ((24 : Int) ≤ 17)) from by decide), fun _ => ?_⟩
            refine ⟨_, rfl, (by decide), ?_⟩
            refine fun w0 hw0 => ?_; obtain rfl : w0 = some 252 := hw0.symm.trans (FS.g hF rfl)
            have n49 : (wr ((wr (24 * v0)) + 17)) = (wr (24 * v0)) + 17 := wr_id (show -2147483648 ≤ ((wr (24 * v0)) + 17 : Int) ∧ ((wr (24 * v0)) + 17 : Int) < 2147483648 from by omega)
            refine ⟨_, rfl, (by decide), (show (0 : Int) ≤ (wr ((wr (24 * v0)) + 17)) from by first | omega | (simp only [wr, wl] at *; omega)), (show (wr ((wr (24 * v0)) + 17)) < (96 : Int) from by first | omega | (simp only [wr, wl] at *; omega)), ?_⟩
            refine ⟨fun c => absurd c (show (¬ ((24 : Int) ≤ 18)) from by decide), fun _ => ?_⟩
            refine ⟨_, rfl, (by decide), ?_⟩
            refine fun w0 hw0 => ?_; obtain rfl : w0 = some 252 := hw0.symm.trans (FS.g hF rfl)
            have n50 : (wr ((wr (24 * v0)) + 18)) = (wr (24 * v0)) + 18 := wr_id (show -2147483648 ≤ ((wr (24 * v0)) + 18 : Int) ∧ ((wr (24 * v0)) + 18 : Int) < 2147483648 from by omega)
            refine ⟨_, rfl, (by decide), (show (0 : Int) ≤ (wr ((wr (24 * v0)) + 18)) from by first | omega | (simp only [wr, wl] at *; omega)), (show (wr ((wr (24 * v0)) + 18)) < (96 : Int) from by first | omega | (simp only [wr, wl] at *; omega)), ?_⟩
            refine ⟨fun c => absurd c (show (¬ ((24 : Int) ≤ 19)) from by decide), fun _ => ?_⟩
            refine ⟨_, rfl, (by decide), ?_⟩
            refine fun w0 hw0 => ?_; obtain rfl : w0 = some 252 := hw0.symm.trans (FS.g hF rfl)
            have n51 : (wr ((wr (24 * v0)) + 19)) = (wr (24 * v0)) + 19 := wr_id (show -2147483648 ≤ ((wr (24 * v0)) + 19 : Int) ∧ ((wr (24 * v0)) + 19 : Int) < 2147483648 from by omega)
            refine ⟨_, rfl, (by decide), (show (0 : Int) ≤ (wr ((wr (24 * v0)) + 19)) from by first | omega | (simp only [wr, wl] at *; omega)), (show (wr ((wr (24 * v0)) + 19)) < (96 : Int) from by first | omega | (simp only [wr, wl] at *; omega)), ?_⟩
            refine ⟨fun c => absurd c (show (¬ ((24 : Int) ≤ 20)) from by decide), fun _ => ?_⟩
            refine ⟨_, rfl, (by decide), ?_⟩
            refine fun w0 hw0 => ?_; obtain rfl : w0 = some 252 := hw0.symm.trans (FS.g hF rfl)
            have n52 : (wr ((wr (24 * v0)) + 20)) = (wr (24 * v0)) + 20 := wr_id (show -2147483648 ≤ ((wr (24 * v0)) + 20 : Int) ∧ ((wr (24 * v0)) + 20 : Int) < 2147483648 from by omega)
            refine ⟨_, rfl, (by decide), (show (0 : Int) ≤ (wr ((wr (24 * v0)) + 20)) from by first | omega | (simp only [wr, wl] at *; omega)), (show (wr ((wr (24 * v0)) + 20)) < (96 : Int) from by first | omega | (simp only [wr, wl] at *; omega)), ?_⟩
            refine ⟨fun c => absurd c (show (¬ ((24 : Int) ≤ 21)) from by decide), fun _ => ?_⟩
            refine ⟨_, rfl, (by decide), ?_⟩
            refine fun w0 hw0 => ?_; obtain rfl : w0 = some 252 := hw0.symm.trans (FS.g hF rfl)
            have n53 : (wr ((wr (24 * v0)) + 21)) = (wr (24 * v0)) + 21 := wr_id (show -2147483648 ≤ ((wr (24 * v0)) + 21 : Int) ∧ ((wr (24 * v0)) + 21 : Int) < 2147483648 from by omega)
            refine ⟨_, rfl, (by decide), (show (0 : Int) ≤ (wr ((wr (24 * v0)) + 21)) from by first | omega | (simp only [wr, wl] at *; omega)), (show (wr ((wr (24 * v0)) + 21)) < (96 : Int) from by first | omega | (simp only [wr, wl] at *; omega)), ?_⟩
            refine ⟨fun c => absurd c (show (¬ ((24 : Int) ≤ 22)) from by decide), fun _ => ?_⟩
            refine ⟨_, rfl, (by decide), ?_⟩
            refine fun w0 hw0 => ?_; obtain rfl : w0 = some 252 := hw0.symm.trans (FS.g hF rfl)
            have n54 : (wr ((wr (24 * v0)) + 22)) = (wr (24 * v0)) + 22 := wr_id (show -2147483648 ≤ ((wr (24 * v0)) + 22 : Int) ∧ ((wr (24 * v0)) + 22 : Int) < 2147483648 from by omega)
            refine ⟨_, rfl, (by decide), (show (0 : Int) ≤ (wr ((wr (24 * v0)) + 22)) from by first | omega | (simp only [wr, wl] at *; omega)), (show (wr ((wr (24 * v0)) + 22)) < (96 : Int) from by first | omega | (simp only [wr, wl] at *; omega)), ?_⟩
            refine ⟨fun c => absurd c (show (¬ ((24 : Int) ≤ 23)) from by decide), fun _ => ?_⟩
            refine ⟨_, rfl, (by decide), ?_⟩
            refine fun w0 hw0 => ?_; obtain rfl : w0 = some 252 := hw0.symm.trans (FS.g hF rfl)
            have n55 : (wr ((wr (24 * v0)) + 23)) = (wr (24 * v0)) + 23 := wr_id (show -2147483648 ≤ ((wr (24 * v0)) + 23 : Int) ∧ ((wr (24 * v0)) + 23 : Int) < 2147483648 from by omega)
            refine ⟨_, rfl, (by decide), (show (0 : Int) ≤ (wr ((wr (24 * v0)) + 23)) from by first | omega | (simp only [wr, wl] at *; omega)), (show (wr ((wr (24 * v0)) + 23)) < (96 : Int) from by first | omega | (simp only [wr, wl] at *; omega)), ?_⟩
            refine ⟨fun _ => ?_, fun c => absurd (show ((24 : Int) ≤ 24) from by decide) c⟩
            have e : fx_sheet v0 v1 v2 = 1 := by (unfold fx_sheet; (repeat' split) <;> first | rfl | omega | (simp only [wr, wl] at *; omega))
            rw [e] at hQ
            exact ⟨rfl, hQ _ _⟩
          ·
            refine ⟨⟨_, rfl, (by decide)⟩, ?_⟩
            refine s_X12_finding hF (v := (-1000001)) (by decide) ?_
            have r56 : (I 238 1) = 0 := (hX.i rfl rfl)
            have e : fx_sheet v0 v1 v2 = (-1000001) := by (unfold fx_sheet; (repeat' split) <;> first | rfl | omega | (simp only [wr, wl] at *; omega))
            rw [e] at hQ
            exact ⟨rfl, hQ _ _⟩
        ·
          refine ⟨⟨_, rfl, (by decide)⟩, ?_⟩
          refine s_X12_finding hF (v := (-1000003)) (by decide) ?_
          have r57 : (I 238 3) = 0 := (hX.i rfl rfl)
          have e : fx_sheet v0 v1 v2 = (-1000003) := by (unfold fx_sheet; (repeat' split) <;> first | rfl | omega | (simp only [wr, wl] at *; omega))
          rw [e] at hQ
          exact ⟨rfl, hQ _ _⟩
      ·
        refine ⟨fun (c58 : ((v1 : Int) = 16)) => ?_, fun (c58 : (¬ ((v1 : Int) = 16))) => ?_⟩
        ·
          refine ⟨fun c => absurd c (show (¬ ((v1 : Int) = 0)) from by first | omega | (simp only [wr, wl] at *; omega)), fun _ => ?_⟩
          refine ⟨fun (c59 : ((0 : Int) ≤ v2)) => ?_, fun (c59 : (¬ ((0 : Int) ≤ v2))) => ?_⟩
          ·
            refine ⟨fun c => absurd c (show (¬ ((v1 : Int) = 0)) from by first | omega | (simp only [wr, wl] at *; omega)), fun _ => ?_⟩
            refine ⟨fun (c60 : ((v2 : Int) ≤ 24)) => ?_, fun (c60 : (¬ ((v2 : Int) ≤ 24))) => ?_⟩
            ·
              refine ⟨_, rfl, (by decide), ?_⟩
              refine fun w0 hw0 => ?_; obtain rfl : w0 = some 250 := hw0.symm.trans (FS.g hF rfl)
              refine ⟨_, rfl, (by decide), (by first | omega | (simp only [wr, wl] at *; omega)), (by first | omega | (simp only [wr, wl] at *; omega)), ?_⟩
              refine ⟨_, rfl, (by decide), ?_⟩
              refine fun w0 hw0 => ?_; obtain rfl : w0 = some 251 := hw0.symm.trans (FS.g hF rfl)
              refine ⟨fun _ => ?_, fun c => absurd c (show (¬ (v1 : Int) = 0) from by first | omega | (simp only [wr, wl] at *; omega))⟩
              refine ⟨_, rfl, (by decide), (by first | omega | (simp only [wr, wl] at *; omega)), (by first | omega | (simp only [wr, wl] at *; omega)), ?_⟩
              refine ⟨fun c => absurd c (show (¬ ((24 : Int) ≤ 0)) from by decide), fun _ => ?_⟩
              refine ⟨_, rfl, (by decide), ?_⟩
              refine fun w0 hw0 => ?_; obtain rfl : w0 = some 252 := hw0.symm.trans (FS.g hF rfl)
              have n61 : (wr (24 * v0)) = 24 * v0 := wr_id (show -2147483648 ≤ (24 * v0 : Int) ∧ (24 * v0 : Int) < 2147483648 from by omega)
              have n62 : (wr ((wr (24 * v0)) + 0)) = (wr (24 * v0)) + 0 := wr_id (show -2147483648 ≤ ((wr (24 * v0)) + 0 : Int) ∧ ((wr (24 * v0)) + 0 : Int) < 2147483648 from by omega)
              refine ⟨_, rfl, (by decide), (show (0 : Int) ≤ (wr ((wr (24 * v0)) + 0)) from by first | omega | (simp only [wr, wl] at *; omega)), (show (wr ((wr (24 * v0)) + 0)) < (96 : Int) from by first | omega | (simp only [wr, wl] at *; omega)), ?_⟩
              refine ⟨fun c => absurd c (show (¬ ((24 : Int) ≤ 1)) from by decide), fun _ => ?_⟩
              refine ⟨_, rfl, (by decide), ?_⟩
              refine fun w0 hw0 => ?_; obtain rfl : w0 = some 252 := hw0.symm.trans (FS.g hF rfl)
              have n63 : (wr ((wr (24 * v0)) + 1)) = (wr (24 * v0)) + 1 := wr_id (show -2147483648 ≤ ((wr (24 * v0)) + 1 : Int) ∧ ((wr (24 * v0)) + 1 : Int) < 2147483648 from by omega)
              refine ⟨_, rfl, (by decide), (show (0 : Int) ≤ (wr ((wr (24 * v0)) + 1)) from by first | omega | (simp only [wr, wl] at *; omega)), (show (wr ((wr (24 * v0)) + 1)) < (96 : Int) from by first | omega | (simp only [wr, wl] at *; omega)), ?_⟩
              refine ⟨fun c => absurd c (show (¬ ((24 : Int) ≤ 2)) from by decide), fun _ => ?_⟩
              refine ⟨_, rfl, (by decide), ?_⟩
              refine fun w0 hw0 => ?_; obtain rfl : w0 = some 252 := hw0.symm.trans (FS.g hF rfl)
              have n64 : (wr ((wr (24 * v0)) + 2)) = (wr (24 * v0)) + 2 := wr_id (show -2147483648 ≤ ((wr (24 * v0)) + 2 : Int) ∧ ((wr (24 * v0)) + 2 : Int) < 2147483648 from by omega)
              refine ⟨_, rfl, (by decide), (show (0 : Int) ≤ (wr ((wr (24 * v0)) + 2)) from by first | omega | (simp only [wr, wl] at *; omega)), (show (wr ((wr (24 * v0)) + 2)) < (96 : Int) from by first | omega | (simp only [wr, wl] at *; omega)), ?_⟩
              refine ⟨fun c => absurd c (show (¬ ((24 : Int) ≤ 3)) from by decide), fun _ => ?_⟩
              refine ⟨_, rfl, (by decide), ?_⟩
              refine fun w0 hw0 => ?_; obtain rfl : w0 = some 252 := hw0.symm.trans (FS.g hF rfl)
              have n65 : (wr ((wr (24 * v0)) + 3)) = (wr (24 * v0)) + 3 := wr_id (show -2147483648 ≤ ((wr (24 * v0)) + 3 : Int) ∧ ((wr (24 * v0)) + 3 : Int) < 2147483648 from by omega)
              refine ⟨_, rfl, (by decide), (show (0 : Int) ≤ (wr ((wr (24 * v0)) + 3)) from by first | omega | (simp only [wr, wl] at *; omega)), (show (wr ((wr (24 * v0)) + 3)) < (96 : Int) from by first | omega | (simp only [wr, wl] at *; omega)), ?_⟩
              refine ⟨fun c => absurd c (show (¬ ((24 : Int) ≤ 4)) from by decide), fun _ => ?_⟩
              refine ⟨_, rfl, (by decide), ?_⟩
              refine fun w0 hw0 => ?_; obtain rfl : w0 = some 252 := hw0.symm.trans (FS.g hF rfl)
              have n66 : (wr ((wr (24 * v0)) + 4)) = (wr (24 * v0)) + 4 := wr_id (show -2147483648 ≤ ((wr (24 * v0)) + 4 : Int) ∧ ((wr (24 * v0)) + 4 : Int) < 2147483648 from by omega)
              refine ⟨_, rfl, (by decide), (show (0 : Int) ≤ (wr ((wr (24 * v0)) + 4)) from by first | omega | (simp only [wr, wl] at *; omega)), (show (wr ((wr (24 * v0)) + 4)) < (96 : Int) from by first | omega | (simp only [wr, wl] at *; omega)), ?_⟩
              refine ⟨fun c => absurd c (show (¬ ((24 : Int) ≤ 5)) from by decide), fun _ => ?_⟩
              refine ⟨_, rfl, (by decide), ?_⟩
              refine fun w0 hw0 => ?_; obtain rfl : w0 = some 252 := hw0.symm.trans (FS.g hF rfl)
              have n67 : (wr ((wr (24 * v0)) + 5)) = (wr (24 * v0)) + 5 := wr_id (show -2147483648 ≤ ((wr (24 * v0)) + 5 : Int) ∧ ((wr (24 * v0)) + 5 : Int) < 2147483648 from by omega)
              refine ⟨_, rfl, (by decide), (show (0 : Int) ≤ (wr ((wr (24 * v0)) + 5)) from by first | omega | (simp only [wr, wl] at *; omega)), (show (wr ((wr (24 * v0)) + 5)) < (96 : Int) from by first | omega | (simp only [wr, wl] at *; omega)), ?_⟩
              refine ⟨fun c => absurd c (show (¬ ((24 : Int) ≤ 6)) from by decide), fun _ => ?_⟩
              refine ⟨_, rfl, (by decide), ?_⟩
              refine fun w0 hw0 => ?_; obtain rfl : w0 = some 252 := hw0.symm.trans (FS.g hF rfl)
              have n68 : (wr ((wr (24 * v0)) + 6)) = (wr (24 * v0)) + 6 := wr_id (show -2147483648 ≤ ((wr (24 * v0)) + 6 : Int) ∧ ((wr (24 * v0)) + 6 : Int) < 2147483648 from by omega)
              refine ⟨_, rfl, (by decide), (show (0 : Int) ≤ (wr ((wr (24 * v0)) + 6)) from by first | omega | (simp only [wr, wl] at *; omega)), (show (wr ((wr (24 * v0)) + 6)) < (96 : Int) from by first | omega | (simp only [wr, wl] at *; omega)), ?_⟩
              refine ⟨fun c => absurd c (show (¬ ((24 : Int) ≤ 7)) from by decide), fun _ => ?_⟩
              refine ⟨_, rfl, (by decide), ?_⟩
              refine fun w0 hw0 => ?_; obtain rfl : w0 = some 252 := hw0.symm.trans (FS.g hF rfl)
              have n69 : (wr ((wr (24 * v0)) + 7)) = (wr (24 * v0)) + 7 := wr_id (show -2147483648 ≤ ((wr (24 * v0)) + 7 : Int) ∧ ((wr (24 * v0)) + 7 : Int) < 2147483648 from by omega)
              refine ⟨_, rfl, (by decide), (show (0 : Int) ≤ (wr ((wr (24 * v0)) + 7)) from by first | omega | (simp only [wr, wl] at *; omega)), (show (wr ((wr (24 * v0)) + 7)) < (96 : Int) from by first | omega | (simp only [wr, wl] at *; omega)), ?_⟩
              refine ⟨fun c => absurd c (show (¬ ((24 : Int) ≤ 8)) from by decide), fun _ => ?_⟩
              refine ⟨_, rfl, (by decide), ?_⟩
              refine fun w0 hw0 => ?_; obtain rfl : w0 = some 252 := hw0.symm.trans (FS.g hF rfl)
              have n70 : (wr ((wr (24 * v0)) + 8)) = (wr (24 * v0)) + 8 := wr_id (show -2147483648 ≤ ((wr (24 * v0)) + 8 : Int) ∧ ((wr (24 * v0)) + 8 : Int) < 2147483648 from by omega)
              refine ⟨_, rfl, (by decide), (show (0 : Int) ≤ (wr ((wr (24 * v0)) + 8)) from by first | omega | (simp only [wr, wl] at *; omega)), (show (wr ((wr (24 * v0)) + 8)) < (96 : Int) from by first | omega | (simp only [wr, wl] at *; omega)), ?_⟩
              refine ⟨fun c => absurd c (show (¬ ((24 : Int) ≤ 9)) from by decide), fun _ => ?_⟩
              refine ⟨_, rfl, (by decide), ?_⟩
              refine fun w0 hw0 => ?_; obtain rfl : w0 = some 252 := hw0.symm.trans (FS.g hF rfl)
              have n71 : (wr ((wr (24 * v0)) + 9)) = (wr (24 * v0)) + 9 := wr_id (show -2147483648 ≤ ((wr (24 * v0)) + 9 : Int) ∧ ((wr (24 * v0)) + 9 : Int) < 2147483648 from by omega)
              refine ⟨_, rfl, (by decide), (show (0 : Int) ≤ (wr ((wr (24 * v0)) + 9)) from by first | omega | (simp only [wr, wl] at *; omega)), (show (wr ((wr (24 * v0)) + 9)) < (96 : Int) from by first | omega | (simp only [wr, wl] at *; omega)), ?_⟩
              refine ⟨fun c => absurd c (show (¬ ((24 : Int) ≤ 10)) from by decide), fun _ => ?_⟩
              refine ⟨_, rfl, (by decide), ?_⟩
              refine fun w0 hw0 => ?_; obtain rfl : w0 = some 252 := hw0.symm.trans (FS.g hF rfl)
              have n72 : (wr ((wr (24 * v0)) + 10)) = (wr (24 * v0)) + 10 := wr_id (show -2147483648 ≤ ((wr (24 * v0)) + 10 : Int) ∧ ((wr (24 * v0)) + 10 : Int) < 2147483648 from by omega)
              refine ⟨_, rfl, (by decide), (show (0 : Int) ≤ (wr ((wr (24 * v0)) + 10)) from by first | omega | (simp only [wr, wl] at *; omega)), (show (wr ((wr (24 * v0)) + 10)) < (96 : Int) from by first | omega | (simp only [wr, wl] at *; omega)), ?_⟩
              refine ⟨fun c => absurd c (show (¬ ((24 : Int) ≤ 11)) from by decide), fun _ => ?_⟩
              refine ⟨_, rfl, (by decide), ?_⟩
              refine fun w0 hw0 => ?_; obtain rfl : w0 = some 252 := hw0.symm.trans (FS.g hF rfl)
              have n73 : (wr ((wr (24 * v0)) + 11)) = (wr (24 * v0)) + 11 := wr_id (show -2147483648 ≤ ((wr (24 * v0)) + 11 : Int) ∧ ((wr (24 * v0)) + 11 : Int) < 2147483648 from by omega)
              refine ⟨_, rfl, (by decide), (show (0 : Int) ≤ (wr ((wr (24 * v0)) + 11)) from by first | omega | (simp only [wr, wl] at *; omega)), (show (wr ((wr (24 * v0)) + 11)) < (96 : Int) from by first | omega | (simp only [wr, wl] at *; omega)), ?_⟩
              refine ⟨fun c => absurd c (show (¬ ((24 : Int) ≤ 12)) from by decide), fun _ => ?_⟩
              refine ⟨_, rfl, (by decide), ?_⟩
              refine fun w0 hw0 => ?_; obtain rfl : w0 = some 252 := hw0.symm.trans (FS.g hF rfl)
              have n74 : (wr ((wr (24 * v0)) + 12)) = (wr (24 * v0)) + 12 := wr_id (show -2147483648 ≤ ((wr (24 * v0)) + 12 : Int) ∧ ((wr (24 * v0)) + 12 : Int) < 2147483648 from by omega)
              refine ⟨_, rfl, (by decide), (show (0 : Int) ≤ (wr ((wr (24 * v0)) + 12)) from by first | omega | (simp only [wr, wl] at *; omega)), (show (wr ((wr (24 * v0)) + 12)) < (96 : Int) from by first | omega | (simp only [wr, wl] at *; omega)), ?_⟩
              refine ⟨fun c => absurd c (show (¬ ((24 : Int) ≤ 13)) from by decide), fun _ => ?_⟩
              refine ⟨_, rfl, (by decide), ?_⟩
              refine fun w0 hw0 => ?_; obtain rfl : w0 = some 252 := hw0.symm.trans (FS.g hF rfl)
              have n75 : (wr ((wr (24 * v0)) + 13)) = (wr (24 * v0)) + 13 := wr_id (show -2147483648 ≤ ((wr (24 * v0)) + 13 : Int) ∧ ((wr (24 * v0)) + 13 : Int) < 2147483648 from by omega)
              refine ⟨_, rfl, (by decide), (show (0 : Int) ≤ (wr ((wr (24 * v0)) + 13)) from by first | omega | (simp only [wr, wl] at *; omega)), (show (wr ((wr (24 * v0)) + 13)) < (96 : Int) from by first | omega | (simp only [wr, wl] at *; omega)), ?_⟩
              refine ⟨fun c => absurd c (show (¬ ((24 : Int) ≤ 14)) from by decide), fun _ => ?_⟩
              refine ⟨_, rfl, (by decide), ?_⟩
              refine fun w0 hw0 => ?_; obtain rfl : w0 = some 252 := hw0.symm.trans (FS.g hF rfl)
              have n76 : (wr ((wr (24 * v0)) + 14)) = (wr (24 * v0)) + 14 := wr_id (show -2147483648 ≤ ((wr (24 * v0)) + 14 : Int) ∧ ((wr (24 * v0)) + 14 : Int) < 2147483648 from by omega)
              refine ⟨_, rfl, (by decide), (show (0 : Int) ≤ (wr ((wr (24 * v0)) + 14)) from by first | omega | (simp only [wr, wl] at *; omega)), (show (wr ((wr (24 * v0)) + 14)) < (96 : Int) from by first | omega | (simp only [wr, wl] at *; omega)), ?_⟩
              refine ⟨fun c => absurd c (show (¬ ((24 : Int) ≤ 15)) from by decide), fun _ => ?_⟩
              refine ⟨_, rfl, (by decide), ?_⟩
              refine fun w0 hw0 => ?_; obtain rfl : w0 = some 252 := hw0.symm.trans (FS.g hF rfl)
              have n77 : (wr ((wr (24 * v0)) + 15)) = (wr (24 * v0)) + 15 := wr_id (show -2147483648 ≤ ((wr (24 * v0)) + 15 : Int) ∧ ((wr (24 * v0)) + 15 : Int) < 2147483648 from by omega)
              refine ⟨_, rfl, (by decide), (show (0 : Int) ≤ (wr ((wr (24 * v0)) + 15)) from by first | omega | (simp only [wr, wl] at *; omega)), (show (wr ((wr (24 * v0)) + 15)) < (96 : Int) from by first | omega | (simp only [wr, wl] at *; omega)), ?_⟩
              refine ⟨fun c => absurd c (show (¬ ((24 : Int) ≤ 16)) from by decide), fun _ => ?_⟩
              refine ⟨_, rfl, (by decide), ?_⟩
              refine fun w0 hw0 => ?_; obtain rfl : w0 = some 252 := hw0.symm.trans (FS.g hF rfl)
              have n78 : (wr ((wr (24 * v0)) + 16)) = (wr (24 * v0)) + 16 := wr_id (show -2147483648 ≤ ((wr (24 * v0)) + 16 : Int) ∧ ((wr (24 * v0)) + 16 : Int) < 2147483648 from by omega)
              refine ⟨_, rfl, (by decide), (show (0 : Int) ≤ (wr ((wr (24 * v0)) + 16)) from by first | omega | (simp only [wr, wl] at *; omega)), (show (wr ((wr (24 * v0)) + 16)) < (96 : Int) from by first | omega | (simp only [wr, wl] at *; omega)), ?_⟩
              refine ⟨fun c => absurd c (show (¬ ((24 : Int) ≤ 17)) from by decide), fun _ => ?_⟩
              refine ⟨_, rfl, (by decide), ?_⟩
              refine fun w0 hw0 => ?_; obtain rfl : w0 = some 252 := hw0.symm.trans (FS.g hF rfl)
              have n79 : (wr ((wr (24 * v0)) + 17)) = (wr (24 * v0)) + 17 := wr_id (show -2147483648 ≤ ((wr (24 * v0)) + 17 : Int) ∧ ((wr (24 * v0)) + 17 : Int) < 2147483648 from by omega)
              refine ⟨_, rfl, (by decide), (show (0 : Int) ≤ (wr ((wr (24 * v0)) + 17)) from by first | omega | (simp only [wr, wl] at *; omega)), (show (wr ((wr (24 * v0)) + 17)) < (96 : Int) from by first | omega | (simp only [wr, wl] at *; omega)), ?_⟩
              refine ⟨fun c => absurd c (show (¬ ((24 : Int) ≤ 18)) from by decide), fun _ => ?_⟩
              refine ⟨_, rfl, (by decide), ?_⟩
              refine fun w0 hw0 => ?_; obtain rfl : w0 = some 252 := hw0.symm.trans (FS.g hF rfl)
              have n80 : (wr ((wr (24 * v0)) + 18)) = (wr (24 * v0)) + 18 := wr_id (show -2147483648 ≤ ((wr (24 * v0)) + 18 : Int) ∧ ((wr (24 * v0)) + 18 : Int) < 2147483648 from by omega)
              refine ⟨_, rfl, (by decide), (show (0 : Int) ≤ (wr ((wr (24 * v0)) + 18)) from by first | omega | (simp only [wr, wl] at *; omega)), (show (wr ((wr (24 * v0)) + 18)) < (96 : Int) from by first | omega | (simp only [wr, wl] at *; omega)), ?_⟩
              refine ⟨fun c => absurd c (show (¬ ((24 : Int) ≤ 19)) from by decide), fun _ => ?_⟩
              refine ⟨_, rfl, (by decide), ?_⟩
              refine fun w0 hw0 => ?_; obtain rfl : w0 = some 252 := hw0.symm.trans (FS.g hF rfl)
              have n81 : (wr ((wr (24 * v0)) + 19)) = (wr (24 * v0)) + 19 := wr_id (show -2147483648 ≤ ((wr (24 * v0)) + 19 : Int) ∧ ((wr (24 * v0)) + 19 : Int) < 2147483648 from by omega)
              refine ⟨_, rfl, (by decide), (show (0 : Int) ≤ (wr ((wr (24 * v0)) + 19)) from by first | omega | (simp only [wr, wl] at *; omega)), (show (wr ((wr (24 * v0)) + 19)) < (96 : Int) from by first | omega | (simp only [wr, wl] at *; omega)), ?_⟩
              refine ⟨fun c => absurd c (show (¬ ((24 : Int) ≤ 20)) from by decide), fun _ => ?_⟩
              refine ⟨_, rfl, (by decide), ?_⟩
              refine fun w0 hw0 => ?_; obtain rfl : w0 = some 252 := hw0.symm.trans (FS.g hF rfl)
              have n82 : (wr ((wr (24 * v0)) + 20)) = (wr (24 * v0)) + 20 := wr_id (show -2147483648 ≤ ((wr (24 * v0)) + 20 : Int) ∧ ((wr (24 * v0)) + 20 : Int) < 2147483648 from by omega)
              refine ⟨_, rfl, (by decide), (show (0 : Int) ≤ (wr ((wr (24 * v0)) + 20)) from by first | omega | (simp only [wr, wl] at *; omega)), (show (wr ((wr (24 * v0)) + 20)) < (96 : Int) from by first | omega | (simp only [wr, wl] at *; omega)), ?_⟩
              refine ⟨fun c => absurd c (show (¬ ((24 : Int) ≤ 21)) from by decide), fun _ => ?_⟩
              refine ⟨_, rfl, (by decide), ?_⟩
              refine fun w0 hw0 => ?_; obtain rfl : w0 = some 252 := hw0.symm.trans (FS.g hF rfl)
              have n83 : (wr ((wr (24 * v0)) + 21)) = (wr (24 * v0)) + 21 := wr_id (show -2147483648 ≤ ((wr (24 * v0)) + 21 : Int) ∧ ((wr (24 * v0)) + 21 : Int) < 2147483648 from by omega)
              refine ⟨_, rfl, (by decide), (show (0 : Int) ≤ (wr ((wr (24 * v0)) + 21)) from by first | omega | (simp only [wr, wl] at *; omega)), (show (wr ((wr (24 * v0)) + 21)) < (96 : Int) from by first | omega | (simp only [wr, wl] at *; omega)), ?_⟩
              refine ⟨fun c => absurd c (show (¬ ((24 : Int) ≤ 22)) from by decide), fun _ => ?_⟩
              refine ⟨_, rfl, (by decide), ?_⟩
              refine fun w0 hw0 => ?_; obtain rfl : w0 = some 252 := hw0.symm.trans (FS.g hF rfl)
              have n84 : (wr ((wr (24 * v0)) + 22)) = (wr (24 * v0)) + 22 := wr_id (show -2147483648 ≤ ((wr (24 * v0)) + 22 : Int) ∧ ((wr (24 * v0)) + 22 : Int) < 2147483648 from by omega)
              refine ⟨_, rfl, (by decide), (show (0 : Int) ≤ (wr ((wr (24 * v0)) + 22)) from by first | omega | (simp only [wr, wl] at *; omega)), (show (wr ((wr (24 * v0)) + 22)) < (96 : Int) from by first | omega | (simp only [wr, wl] at *; omega)), ?_⟩
              refine ⟨fun c => absurd c (show (¬ ((24 : Int) ≤ 23)) from by decide), fun _ => ?_⟩
              refine ⟨_, rfl, (by decide), ?_⟩
              refine fun w0 hw0 => ?_; obtain rfl : w0 = some 252 := hw0.symm.trans (FS.g hF rfl)
              have n85 : (wr ((wr (24 * v0)) + 23)) = (wr (24 * v0)) + 23 := wr_id (show -2147483648 ≤ ((wr (24 * v0)) + 23 : Int) ∧ ((wr (24 * v0)) + 23 : Int) < 2147483648 from by omega)
              refine ⟨_, rfl, (by decide), (show (0 : Int) ≤ (wr ((wr (24 * v0)) + 23)) from by first | omega | (simp only [wr, wl] at *; omega)), (show (wr ((wr (24 * v0)) + 23)) < (96 : Int) from by first | omega | (simp only [wr, wl] at *; omega)), ?_⟩
              refine ⟨fun _ => ?_, fun c => absurd (show ((24 : Int) ≤ 24) from by decide) c⟩
              have e : fx_sheet v0 v1 v2 = 1 := by (unfold fx_sheet; (repeat' split) <;> first | rfl | omega | (simp only [wr, wl] at *; omega))
              rw [e] at hQ
              exact ⟨rfl, hQ _ _⟩
            ·
              refine ⟨⟨_, rfl, (by decide)⟩, ?_⟩
              refine s_X12_finding hF (v := (-1000001)) (by decide) ?_
              have r86 : (I 238 1) = 0 := (hX.i rfl rfl)
              have e : fx_sheet v0 v1 v2 = (-1000001) := by (unfold fx_sheet; (repeat' split) <;> first | rfl | omega | (simp only [wr, wl] at *; omega))
              rw [e] at hQ
              exact ⟨rfl, hQ _ _⟩
          ·
            refine ⟨⟨_, rfl, (by decide)⟩, ?_⟩
            refine s_X12_finding hF (v := (-1000003)) (by decide) ?_
            have r87 : (I 238 3) = 0 := (hX.i rfl rfl)
            have e : fx_sheet v0 v1 v2 = (-1000003) := by (unfold fx_sheet; (repeat' split) <;> first | rfl | omega | (simp only [wr, wl] at *; omega))
            rw [e] at hQ
            exact ⟨rfl, hQ _ _⟩
        ·
          refine ⟨fun (c88 : ((v1 : Int) = 32)) => ?_, fun (c88 : (¬ ((v1 : Int) = 32))) => ?_⟩
          ·
            refine ⟨fun c => absurd c (show (¬ ((v1 : Int) = 0)) from by first | omega | (simp only [wr, wl] at *; omega)), fun _ => ?_⟩
            refine ⟨fun (c89 : ((0 : Int) ≤ v2)) => ?_, fun (c89 : (¬ ((0 : Int) ≤ v2))) => ?_⟩
            ·
              refine ⟨fun c => absurd c (show (¬ ((v1 : Int) = 0)) from by first | omega | (simp only [wr, wl] at *; omega)), fun _ => ?_⟩
              refine ⟨fun (c90 : ((v2 : Int) ≤ 24)) => ?_, fun (c90 : (¬ ((v2 : Int) ≤ 24))) => ?_⟩
              ·
                refine ⟨_, rfl, (by decide), ?_⟩
                refine fun w0 hw0 => ?_; obtain rfl : w0 = some 250 := hw0.symm.trans (FS.g hF rfl)
                refine ⟨_, rfl, (by decide), (by first | omega | (simp only [wr, wl] at *; omega)), (by first | omega | (simp only [wr, wl] at *; omega)), ?_⟩
                refine ⟨_, rfl, (by decide), ?_⟩
                refine fun w0 hw0 => ?_; obtain rfl : w0 = some 251 := hw0.symm.trans (FS.g hF rfl)
                refine ⟨fun _ => ?_, fun c => absurd c (show (¬ (v1 : Int) = 0) from by first | omega | (simp only [wr, wl] at *; omega))⟩
                refine ⟨_, rfl, (by decide), (by first | omega | (simp only [wr, wl] at *; omega)), (by first | omega | (simp only [wr, wl] at *; omega)), ?_⟩
                refine ⟨fun c => absurd c (show (¬ ((24 : Int) ≤ 0)) from by decide), fun _ => ?_⟩
                refine ⟨_, rfl, (by decide), ?_⟩
                refine fun w0 hw0 => ?_; obtain rfl : w0 = some 252 := hw0.symm.trans (FS.g hF rfl)
                have n91 : (wr (24 * v0)) = 24 * v0 := wr_id (show -2147483648 ≤ (24 * v0 : Int) ∧ (24 * v0 : Int) < 2147483648 from by omega)
                have n92 : (wr ((wr (24 * v0)) + 0)) = (wr (24 * v0)) + 0 := wr_id (show -2147483648 ≤ ((wr (24 * v0)) + 0 : Int) ∧ ((wr (24 * v0)) + 0 : Int) < 2147483648 from by omega)
                refine ⟨_, rfl, (by decide), (show (0 : Int) ≤ (wr ((wr (24 * v0)) + 0)) from by first | omega | (simp only [wr, wl] at *; omega)), (show (wr ((wr (24 * v0)) + 0)) < (96 : Int) from by first | omega | (simp only [wr, wl] at *; omega)), ?_⟩
                refine ⟨fun c => absurd c (show (¬ ((24 : Int) ≤ 1)) from by decide), fun _ => ?_⟩
                refine ⟨_, rfl, (by decide), ?_⟩
                refine fun w0 hw0 => ?_; obtain rfl : w0 = some 252 := hw0.symm.trans (FS.g hF rfl)
                have n93 : (wr ((wr (24 * v0)) + 1)) = (wr (24 * v0)) + 1 := wr_id (show -2147483648 ≤ ((wr (24 * v0)) + 1 : Int) ∧ ((wr (24 * v0)) + 1 : Int) < 2147483648 from by omega)
                refine ⟨_, rfl, (by decide), (show (0 : Int) ≤ (wr ((wr (24 * v0)) + 1)) from by first | omega | (simp only [wr, wl] at *; omega)), (show (wr ((wr (24 * v0)) + 1)) < (96 : Int) from by first | omega | (simp only [wr, wl] at *; omega)), ?_⟩
                refine ⟨fun c => absurd c (show (¬ ((24 : Int) ≤ 2)) from by decide), fun _ => ?_⟩
                refine ⟨_, rfl, (by decide), ?_⟩
                refine fun w0 hw0 => ?_; obtain rfl : w0 = some 252 := hw0.symm.trans (FS.g hF rfl)
                have n94 : (wr ((wr (24 * v0)) + 2)) = (wr (24 * v0)) + 2 := wr_id (show -2147483648 ≤ ((wr (24 * v0)) + 2 : Int) ∧ ((wr (24 * v0)) + 2 : Int) < 2147483648 from by omega)
                refine ⟨_, rfl, (by decide), (show (0 : Int) ≤ (wr ((wr (24 * v0)) + 2)) from by first | omega | (simp only [wr, wl] at *; omega)), (show (wr ((wr (24 * v0)) + 2)) < (96 : Int) from by first | omega | (simp only [wr, wl] at *; omega)), ?_⟩
                refine ⟨fun c => absurd c (show (¬ ((24 : Int) ≤ 3)) from by decide), fun _ => ?_⟩
                refine ⟨_, rfl, (by decide), ?_⟩
                refine fun w0 hw0 => ?_; obtain rfl : w0 = some 252 := hw0.symm.trans (FS.g hF rfl)
                have n95 : (wr ((wr (24 * v0)) + 3)) = (wr (24 * v0)) + 3 := wr_id (show -2147483648 ≤ ((wr (24 * v0)) + 3 : Int) ∧ ((wr (24 * v0)) + 3 : Int) < 2147483648 from by omega)
                refine ⟨_, rfl, (by decide), (show (0 : Int) ≤ (wr ((wr (24 * v0)) + 3)) from by first | omega | (simp only [wr, wl] at *; omega)), (show (wr ((wr (24 * v0)) + 3)) < (96 : Int) from by first | omega | (simp only [wr, wl] at *; omega)), ?_⟩
                refine ⟨fun c => absurd c (show (¬ ((24 : Int) ≤ 4)) from by decide), fun _ => ?_⟩
                refine ⟨_, rfl, (by decide), ?_⟩
                refine fun w0 hw0 => ?_; obtain rfl : w0 = some 252 := hw0.symm.trans (FS.g hF rfl)
                have n96 : (wr ((wr (24 * v0)) + 4)) = (wr (24 * v0)) + 4 := wr_id (show -2147483648 ≤ ((wr (24 * v0)) + 4 : Int) ∧ ((wr (24 * v0)) + 4 : Int) < 2147483648 from by omega)
                refine ⟨_, rfl, (by decide), (show (0 : Int) ≤ (wr ((wr (24 * v0)) + 4)) from by first | omega | (simp only [wr, wl] at *; omega)), (show (wr ((wr (24 * v0)) + 4)) < (96 : Int) from by first | omega | (simp only [wr, wl] at *; omega)), ?_⟩
                refine ⟨fun c => absurd c (show (¬ ((24 : Int) ≤ 5)) from by decide), fun _ => ?_⟩
                refine ⟨_, rfl, (by decide), ?_⟩
                refine fun w0 hw0 => ?_; obtain rfl : w0 = some 252 := hw0.symm.trans (FS.g hF rfl)
                have n97 : (wr ((wr (24 * v0)) + 5)) = (wr (24 * v0)) + 5 := wr_id (show -2147483648 ≤ ((wr (24 * v0)) + 5 : Int) ∧ ((wr (24 * v0)) + 5 : Int) < 2147483648 from by omega)
                refine ⟨_, rfl, (by decide), (show (0 : Int) ≤ (wr ((wr (24 * v0)) + 5)) from by first | omega | (simp only [wr, wl] at *; omega)), (show (wr ((wr (24 * v0)) + 5)) < (96 : Int) from by first | omega | (simp only [wr, wl] at *; omega)), ?_⟩
                refine ⟨fun c => absurd c (show (¬ ((24 : Int) ≤ 6)) from by decide), fun _ => ?_⟩
                refine ⟨_, rfl, (by decide), ?_⟩
                refine fun w0 hw0 => ?_; obtain rfl : w0 = some 252 := hw0.symm.trans (FS.g hF rfl)
                have n98 : (wr ((wr (24 * v0)) + 6)) = (wr (24 * v0)) + 6 := wr_id (show -2147483648 ≤ ((wr (24 * v0)) + 6 : Int) ∧ ((wr (24 * v0)) + 6 : Int) < 2147483648 from by omega)
                refine ⟨_, rfl, (by decide), (show (0 : Int) ≤ (wr ((wr (24 * v0)) + 6)) from by first | omega | (simp only [wr, wl] at *; omega)), (show (wr ((wr (24 * v0)) + 6)) < (96 : Int) from by first | omega | (simp only [wr, wl] at *; omega)), ?_⟩
                refine ⟨fun c => absurd c (show (¬ ((24 : Int) ≤ 7)) from by decide), fun _ => ?_⟩
                refine ⟨_, rfl, (by decide), ?_⟩
                refine fun w0 hw0 => ?_; obtain rfl : w0 = some 252 := hw0.symm.trans (FS.g hF rfl)
                have n99 : (wr ((wr (24 * v0)) + 7)) = (wr (24 * v0)) + 7 := wr_id (show -2147483648 ≤ ((wr (24 * v0)) + 7 : Int) ∧ ((wr (24 * v0)) + 7 : Int) < 2147483648 from by omega)
                refine ⟨_, rfl, (by decide), (show (0 : Int) ≤ (wr ((wr (24 * v0)) + 7)) from by first | omega | (simp only [wr, wl] at *; omega)), (show (wr ((wr (24 * v0)) + 7)) < (96 : Int) from by first | omega | (simp only [wr, wl] at *; omega)), ?_⟩
                refine ⟨fun c => absurd c (show (¬ ((24 : Int) ≤ 8)) from by decide), fun _ => ?_⟩
                refine ⟨_, rfl, (by decide), ?_⟩
                refine fun w0 hw0 => ?_; obtain rfl : w0 = some 252 := hw0.symm.trans (FS.g hF rfl)
                have n100 : (wr ((wr (24 * v0)) + 8)) = (wr (24 * v0)) + 8 := wr_id (show -2147483648 ≤ ((wr (24 * v0)) + 8 : Int) ∧ ((wr (24 * v0)) + 8 : Int) < 2147483648 from by omega)
                refine ⟨_, rfl, (by decide), (show (0 : Int) ≤ (wr ((wr (24 * v0)) + 8)) from by first | omega | (simp only [wr, wl] at *; omega)), (show (wr ((wr (24 * v0)) + 8)) < (96 : Int) from by first | omega | (simp only [wr, wl] at *; omega)), ?_⟩
                refine ⟨fun c => absurd c (show (¬ ((24 : Int) ≤ 9)) from by decide), fun _ => ?_⟩
                refine ⟨_, rfl, (by decide), ?_⟩
                refine fun w0 hw0 => ?_; obtain rfl : w0 = some 252 := hw0.symm.trans (FS.g hF rfl)
                have n101 : (wr ((wr (24 * v0)) + 9)) = (wr (24 * v0)) + 9 := wr_id (show -2147483648 ≤ ((wr (24 * v0)) + 9 : Int) ∧ ((wr (24 * v0)) + 9 : Int) < 2147483648 from by omega)
                refine ⟨_, rfl, (by decide), (show (0 : Int) ≤ (wr ((wr (24 * v0)) + 9)) from by first | omega | (simp only [wr, wl] at *; omega)), (show (wr ((wr (24 * v0)) + 9)) < (96 : Int) from by first | omega | (simp only [wr, wl] at *; omega)), ?_⟩
                refine ⟨fun c => absurd c (show (¬ ((24 : Int) ≤ 10)) from by decide), fun _ => ?_⟩
                refine ⟨_, rfl, (by decide), ?_⟩
                refine fun w0 hw0 => ?_; obtain rfl : w0 = some 252 := hw0.symm.trans (FS.g hF rfl)
                have n102 : (wr ((wr (24 * v0)) + 10)) = (wr (24 * v0)) + 10 := wr_id (show -2147483648 ≤ ((wr (24 * v0)) + 10 : Int) ∧ ((wr (24 * v0)) + 10 : Int) < 2147483648 from by omega)
                refine ⟨_, rfl, (by decide), (show (0 : Int) ≤ (wr ((wr (24 * v0)) + 10)) from by first | omega | (simp only [wr, wl] at *; omega)), (show (wr ((wr (24 * v0)) + 10)) < (96 : Int) from by first | omega | (simp only [wr, wl] at *; omega)), ?_⟩
                refine ⟨fun c => absurd c (show (¬ ((24 : Int) ≤ 11)) from by decide), fun _ => ?_⟩
                refine ⟨_, rfl, (by decide), ?_⟩
                refine fun w0 hw0 => ?_; obtain rfl : w0 = some 252 := hw0.symm.trans (FS.g hF rfl)
                have n103 : (wr ((wr (24 * v0)) + 11)) = (wr (24 * v0)) + 11 := wr_id (show -2147483648 ≤ ((wr (24 * v0)) + 11 : Int) ∧ ((wr (24 * v0)) + 11 : Int) < 2147483648 from by omega)
                refine ⟨_, rfl, (by decide), (show (0 : Int) ≤ (wr ((wr (24 * v0)) + 11)) from by first | omega | (simp only [wr, wl] at *; omega)), (show (wr ((wr (24 * v0)) + 11)) < (96 : Int) from by first | omega | (simp only [wr, wl] at *; omega)), ?_⟩
                refine ⟨fun c => absurd c (show (¬ ((24 : Int) ≤ 12)) from by decide), fun _ => ?_⟩
                refine ⟨_, rfl, (by decide), ?_⟩
                refine fun w0 hw0 => ?_; obtain rfl : w0 = some 252 := hw0.symm.trans (FS.g hF rfl)
                have n104 : (wr ((wr (24 * v0)) + 12)) = (wr (24 * v0)) + 12 := wr_id (show -2147483648 ≤ ((wr (24 * v0)) + 12 : Int) ∧ ((wr (24 * v0)) + 12 : Int) < 2147483648 from by omega)
                refine ⟨_, rfl, (by decide), (show (0 : Int) ≤ (wr ((wr (24 * v0)) + 12)) from by first | omega | (simp only [wr, wl] at *; omega)), (show (wr ((wr (24 * v0)) + 12)) < (96 : Int) from by first | omega | (simp only [wr, wl] at *; omega)), ?_⟩
                refine ⟨fun c => absurd c (show (¬ ((24 : Int) ≤ 13)) from by decide), fun _ => ?_⟩
                refine ⟨_, rfl, (by decide), ?_⟩
                refine fun w0 hw0 => ?_; obtain rfl : w0 = some 252 := hw0.symm.trans (FS.g hF rfl)
                have n105 : (wr ((wr (24 * v0)) + 13)) = (wr (24 * v0)) + 13 := wr_id (show -2147483648 ≤ ((wr (24 * v0)) + 13 : Int) ∧ ((wr (24 * v0)) + 13 : Int) < 2147483648 from by omega)
                refine ⟨_, rfl, (by decide), (show (0 : Int) ≤ (wr ((wr (24 * v0)) + 13)) from by first | omega | (simp only [wr, wl] at *; omega)), (show (wr ((wr (24 * v0)) + 13)) < (96 : Int) from by first | omega | (simp only [wr, wl] at *; omega)), ?_⟩
                refine ⟨fun c => absurd c (show (¬ ((24 : Int) ≤ 14)) from by decide), fun _ => ?_⟩
                refine ⟨_, rfl, (by decide), ?_⟩
                refine fun w0 hw0 => ?_; obtain rfl : w0 = some 252 := hw0.symm.trans (FS.g hF rfl)
                have n106 : (wr ((wr (24 * v0)) + 14)) = (wr (24 * v0)) + 14 := wr_id (show -2147483648 ≤ ((wr (24 * v0)) + 14 : Int) ∧ ((wr (24 * v0)) + 14 : Int) < 2147483648 from by omega)
                refine ⟨_, rfl, (by decide), (show (0 : Int) ≤ (wr ((wr (24 * v0)) + 14)) from by first | omega | (simp only [wr, wl] at *; omega)), (show (wr ((wr (24 * v0)) + 14)) < (96 : Int) from by first | omega | (simp only [wr, wl] at *; omega)), ?_⟩
                refine ⟨fun c => absurd c (show (¬ ((24 : Int) ≤ 15)) from by decide), fun _ => ?_⟩
                refine ⟨_, rfl, (by decide), ?_⟩
                refine fun w0 hw0 => ?_; obtain rfl : w0 = some 252 := hw0.symm.trans (FS.g hF rfl)
                have n107 : (wr ((wr (24 * v0)) + 15)) = (wr (24 * v0)) + 15 := wr_id (show -2147483648 ≤ ((wr (24 * v0)) + 15 : Int) ∧ ((wr (24 * v0)) + 15 : Int) < 2147483648 from by omega)
                refine ⟨_, rfl, (by decide), (show (0 : Int) ≤ (wr ((wr (24 * v0)) + 15)) from by first | omega | (simp only [wr, wl] at *; omega)), (show (wr ((wr (24 * v0)) + 15)) < (96 : Int) from by first | omega | (simp only [wr, wl] at *; omega)), ?_⟩
                refine ⟨fun c => absurd c (show (¬ ((24 : Int) ≤ 16)) from by decide), fun _ => ?_⟩
                refine ⟨_, rfl, (by decide), ?_⟩
                refine fun w0 hw0 => ?_; obtain rfl : w0 = some 252 := hw0.symm.trans (FS.g hF rfl)
                have n108 : (wr ((wr (24 * v0)) + 16)) = (wr (24 * v0)) + 16 := wr_id (show -2147483648 ≤ ((wr (24 * v0)) + 16 : Int) ∧ ((wr (24 * v0)) + 16 : Int) < 2147483648 from by omega)
                refine ⟨_, rfl, (by decide), (show (0 : Int) ≤ (wr ((wr (24 * v0)) + 16)) from by first | omega | (simp only [wr, wl] at *; omega)), (show (wr ((wr (24 * v0)) + 16)) < (96 : Int) from by first | omega | (simp only [wr, wl] at *; omega)), ?_⟩
                refine ⟨fun c => absurd c (show (¬ ((24 : Int) ≤ 17)) from by decide), fun _ => ?_⟩
                refine ⟨_, rfl, (by decide), ?_⟩
                refine fun w0 hw0 => ?_; obtain rfl : w0 = some 252 := hw0.symm.trans (FS.g hF rfl)
                have n109 : (wr ((wr (24 * v0)) + 17)) = (wr (24 * v0)) + 17 := wr_id (show -2147483648 ≤ ((wr (24 * v0)) + 17 : Int) ∧ ((wr (24 * v0)) + 17 : Int) < 2147483648 from by omega)
                refine ⟨_, rfl, (by decide), (show (0 : Int) ≤ (wr ((wr (24 * v0)) + 17)) from by first | omega | (simp only [wr, wl] at *; omega)), (show (wr ((wr (24 * v0)) + 17)) < (96 : Int) from by first | omega | (simp only [wr, wl] at *; omega)), ?_⟩
                refine ⟨fun c => absurd c (show (¬ ((24 : Int) ≤ 18)) from by decide), fun _ => ?_⟩
                refine ⟨_, rfl, (by decide), ?_⟩
                refine fun w0 hw0 => ?_; obtain rfl : w0 = some 252 := hw0.symm.trans (FS.g hF rfl)
                have n110 : (wr ((wr (24 * v0)) + 18)) = (wr (24 * v0)) + 18 := wr_id (show -2147483648 ≤ ((wr (24 * v0)) + 18 : Int) ∧ ((wr (24 * v0)) + 18 : Int) < 2147483648 from by omega)
                refine ⟨_, rfl, (by decide), (show (0 : Int) ≤ (wr ((wr (24 * v0)) + 18)) from by first | omega | (simp only [wr, wl] at *; omega)), (show (wr ((wr (24 * v0)) + 18)) < (96 : Int) from by first | omega | (simp only [wr, wl] at *; omega)), ?_⟩
                refine ⟨fun c => absurd c (show (¬ ((24 : Int) ≤ 19)) from by decide), fun _ => ?_⟩
                refine ⟨_, rfl, (by decide), ?_⟩
                refine fun w0 hw0 => ?_; obtain rfl : w0 = some 252 := hw0.symm.trans (FS.g hF rfl)
                have n111 : (wr ((wr (24 * v0)) + 19)) = (wr (24 * v0)) + 19 := wr_id (show -2147483648 ≤ ((wr (24 * v0)) + 19 : Int) ∧ ((wr (24 * v0)) + 19 : Int) < 2147483648 from by omega)
                refine ⟨_, rfl, (by decide), (show (0 : Int) ≤ (wr ((wr (24 * v0)) + 19)) from by first | omega | (simp only [wr, wl] at *; omega)), (show (wr ((wr (24 * v0)) + 19)) < (96 : Int) from by first | omega | (simp only [wr, wl] at *; omega)), ?_⟩
                refine ⟨fun c => absurd c (show (¬ ((24 : Int) ≤ 20)) from by decide), fun _ => ?_⟩
                refine ⟨_, rfl, (by decide), ?_⟩
                refine fun w0 hw0 => ?_; obtain rfl : w0 = some 252 := hw0.symm.trans (FS.g hF rfl)
                have n112 : (wr ((wr (24 * v0)) + 20)) = (wr (24 * v0)) + 20 := wr_id (show -2147483648 ≤ ((wr (24 * v0)) + 20 : Int) ∧ ((wr (24 * v0)) + 20 : Int) < 2147483648 from by omega)
                refine ⟨_, rfl, (by decide), (show (0 : Int) ≤ (wr ((wr (24 * v0)) + 20)) from by first | omega | (simp only [wr, wl] at *; omega)), (show (wr ((wr (24 * v0)) + 20)) < (96 : Int) from by first | omega | (simp only [wr, wl] at *; omega)), ?_⟩
                refine ⟨fun c => absurd c (show (¬ ((24 : Int) ≤ 21)) from by decide), fun _ => ?_⟩
                refine ⟨_, rfl, (by decide), ?_⟩
                refine fun w0 hw0 => ?_; obtain rfl : w0 = some 252 := hw0.symm.trans (FS.g hF rfl)
                have n113 : (wr ((wr (24 * v0)) + 21)) = (wr (24 * v0)) + 21 := wr_id (show -2147483648 ≤ ((wr (24 * v0)) + 21 : Int) ∧ ((wr (24 * v0)) + 21 : Int) < 2147483648 from by omega)
                refine ⟨_, rfl, (by decide), (show (0 : Int) ≤ (wr ((wr (24 * v0)) + 21)) from by first | omega | (simp only [wr, wl] at *; omega)), (show (wr ((wr (24 * v0)) + 21)) < (96 : Int) from by first | omega | (simp only [wr, wl] at *; omega)), ?_⟩
                refine ⟨fun c => absurd c (show (¬ ((24 : Int) ≤ 22)) from by decide), fun _ => ?_⟩
                refine ⟨_, rfl, (by decide), ?_⟩
                refine fun w0 hw0 => ?_; obtain rfl : w0 = some 252 := hw0.symm.trans (FS.g hF rfl)
                have n114 : (wr ((wr (24 * v0)) + 22)) = (wr (24 * v0)) + 22 := wr_id (show -2147483648 ≤ ((wr (24 * v0)) + 22 : Int) ∧ ((wr (24 * v0)) + 22 : Int) < 2147483648 from by omega)
                refine ⟨_, rfl, (by decide), (show (0 : Int) ≤ (wr ((wr (24 * v0)) + 22)) from by first | omega | (simp only [wr, wl] at *; omega)), (show (wr ((wr (24 * v0)) + 22)) < (96 : Int) from by first | omega | (simp only [wr, wl] at *; omega)), ?_⟩
                refine ⟨fun c => absurd c (show (¬ ((24 : Int) ≤ 23)) from by decide), fun _ => ?_⟩
                refine ⟨_, rfl, (by decide), ?_⟩
                refine fun w0 hw0 => ?_; obtain rfl : w0 = some 252 := hw0.symm.trans (FS.g hF rfl)
                have n115 : (wr ((wr (24 * v0)) + 23)) = (wr (24 * v0)) + 23 := wr_id (show -2147483648 ≤ ((wr (24 * v0)) + 23 : Int) ∧ ((wr (24 * v0)) + 23 : Int) < 2147483648 from by omega)
                refine ⟨_, rfl, (by decide), (show (0 : Int) ≤ (wr ((wr (24 * v0)) + 23)) from by first | omega | (simp only [wr, wl] at *; omega)), (show (wr ((wr (24 * v0)) + 23)) < (96 : Int) from by first | omega | (simp only [wr, wl] at *; omega)), ?_⟩
                refine ⟨fun _ => ?_, fun c => absurd (show ((24 : Int) ≤ 24) from by decide) c⟩
                have e : fx_sheet v0 v1 v2 = 1 := by (unfold fx_sheet; (repeat' split) <;> first | rfl | omega | (simp only [wr, wl] at *; omega))
                rw [e] at hQ
                exact ⟨rfl, hQ _ _⟩
              ·
                refine ⟨⟨_, rfl, (by decide)⟩, ?_⟩
                refine s_X12_finding hF (v := (-1000001)) (by decide) ?_
                have r116 : (I 238 1) = 0 := (hX.i rfl rfl)
                have e : fx_sheet v0 v1 v2 = (-1000001) := by (unfold fx_sheet; (repeat' split) <;> first | rfl | omega | (simp only [wr, wl] at *; omega))
                rw [e] at hQ
                exact ⟨rfl, hQ _ _⟩
            ·
              refine ⟨⟨_, rfl, (by decide)⟩, ?_⟩
              refine s_X12_finding hF (v := (-1000003)) (by decide) ?_
              have r117 : (I 238 3) = 0 := (hX.i rfl rfl)
              have e : fx_sheet v0 v1 v2 = (-1000003) := by (unfold fx_sheet; (repeat' split) <;> first | rfl | omega | (simp only [wr, wl] at *; omega))
              rw [e] at hQ
              exact ⟨rfl, hQ _ _⟩
          ·
            refine ⟨⟨_, rfl, (by decide)⟩, ?_⟩
            refine s_X12_finding hF (v := (-1000001)) (by decide) ?_
            have r118 : (I 238 1) = 0 := (hX.i rfl rfl)
            have e : fx_sheet v0 v1 v2 = (-1000001) := by (unfold fx_sheet; (repeat' split) <;> first | rfl | omega | (simp only [wr, wl] at *; omega))
            rw [e] at hQ
            exact ⟨rfl, hQ _ _⟩
  ·
    refine ⟨fun _ => ?_, fun c => absurd (show ((0 : Int) = 0) from by decide) c⟩
    refine ⟨⟨_, rfl, (by decide)⟩, ?_⟩
    refine s_X12_finding hF (v := (-1000001)) (by decide) ?_
    have r119 : (I 238 1) = 0 := (hX.i rfl rfl)
    have e : fx_sheet v0 v1 v2 = (-1000001) := by (unfold fx_sheet; (repeat' split) <;> first | rfl | omega | (simp only [wr, wl] at *; omega))
    rw [e] at hQ
    exact ⟨rfl, hQ _ _⟩
theorem m_put (hF : FS F) (hX : FXm I) {v0 v1 v2 : Int} (rv0 : iR v0) (rv1 : iR v1) (rv2 : iR v2) (hQ : ∀ F' I', Q (some (vi (fx_put v0))) F' I') : CallN G (d + 12) kX12_put [vr 235, vi v0, vi v1, vi v2] NP F I Q := by
  unfold iR at *
  refine Call_wp (lv := [some (vr 235), some (vi v0), some (vi v1), some (vi v2)]) (by decide) ckX12_put [] rfl rfl ?_
  refine s_X12_isSheet (fun (w1 : ((0 : Int) ≤ v0 ∧ (v0 : Int) ≤ 3)) => ?_) (fun (w1 : ¬ ((0 : Int) ≤ v0 ∧ (v0 : Int) ≤ 3)) => ?_)
  ·
    refine ⟨fun _ => ?_, fun c => absurd c (show (¬ (1 : Int) = 0) from by decide)⟩
    refine ⟨_, rfl, (by decide), ?_⟩
    refine fun w0 hw0 => ?_; obtain rfl : w0 = some 250 := hw0.symm.trans (FS.g hF rfl)
    refine ⟨_, rfl, (by decide), (by first | omega | (simp only [wr, wl] at *; omega)), (by first | omega | (simp only [wr, wl] at *; omega)), ?_⟩
    have r2 : (I 250 (Int.toNat v0)) = 0 := (FXm_r hX 250 0 0 3 rfl rfl v0 (by first | omega | (simp only [wr, wl] at *; omega)) (by first | omega | (simp only [wr, wl] at *; omega)))
    refine ⟨fun c => absurd (show (((I 250 (Int.toNat v0)) : Int) = 0) from by first | omega | (simp only [wr, wl] at *; omega)) c, fun _ => ?_⟩
    refine ⟨⟨_, rfl, (by decide)⟩, ?_⟩
    refine s_X12_finding hF (v := (-1000002)) (by decide) ?_
    have r3 : (I 238 2) = 0 := (hX.i rfl rfl)
    have e : fx_put v0 = (-1000002) := by (unfold fx_put; (repeat' split) <;> first | rfl | omega | (simp only [wr, wl] at *; omega))
    rw [e] at hQ
    exact ⟨rfl, hQ _ _⟩
  ·
    refine ⟨fun c => absurd (show ((0 : Int) = 0) from by decide) c, fun _ => ?_⟩
    refine ⟨⟨_, rfl, (by decide)⟩, ?_⟩
    refine s_X12_finding hF (v := (-1000001)) (by decide) ?_
    have r4 : (I 238 1) = 0 := (hX.i rfl rfl)
    have e : fx_put v0 = (-1000001) := by (unfold fx_put; (repeat' split) <;> first | rfl | omega | (simp only [wr, wl] at *; omega))
    rw [e] at hQ
    exact ⟨rfl, hQ _ _⟩
theorem m_move (hF : FS F) (hX : FXm I) {v0 v1 v2 v3 v4 : Int} (rv0 : iR v0) (rv1 : iR v1) (rv2 : iR v2) (rv3 : iR v3) (rv4 : iR v4) (hQ : ∀ F' I', Q (some (vi (fx_move v0 v2))) F' I') : CallN G (d + 12) kX12_move [vr 235, vi v0, vi v1, vi v2, vi v3, vi v4] NP F I Q := by
  unfold iR at *
  refine Call_wp (lv := [some (vr 235), some (vi v0), some (vi v1), some (vi v2), some (vi v3), some (vi v4), none]) (by decide) ckX12_move [] rfl rfl ?_
  refine s_X12_isSheet (fun (w1 : ((0 : Int) ≤ v0 ∧ (v0 : Int) ≤ 3)) => ?_) (fun (w1 : ¬ ((0 : Int) ≤ v0 ∧ (v0 : Int) ≤ 3)) => ?_)
  ·
    refine ⟨fun c => absurd c (show (¬ ((1 : Int) = 0)) from by decide), fun _ => ?_⟩
    refine s_X12_isSheet (fun (w2 : ((0 : Int) ≤ v2 ∧ (v2 : Int) ≤ 3)) => ?_) (fun (w2 : ¬ ((0 : Int) ≤ v2 ∧ (v2 : Int) ≤ 3)) => ?_)
    ·
      refine ⟨fun _ => ?_, fun c => absurd c (show (¬ (1 : Int) = 0) from by decide)⟩
      refine ⟨_, rfl, (by decide), ?_⟩
      refine fun w0 hw0 => ?_; obtain rfl : w0 = some 250 := hw0.symm.trans (FS.g hF rfl)
      refine ⟨_, rfl, (by decide), (by first | omega | (simp only [wr, wl] at *; omega)), (by first | omega | (simp only [wr, wl] at *; omega)), ?_⟩
      have r3 : (I 250 (Int.toNat v0)) = 0 := (FXm_r hX 250 0 0 3 rfl rfl v0 (by first | omega | (simp only [wr, wl] at *; omega)) (by first | omega | (simp only [wr, wl] at *; omega)))
      refine ⟨fun _ => ?_, fun c => absurd (show (((I 250 (Int.toNat v0)) : Int) = 0) from by first | omega | (simp only [wr, wl] at *; omega)) c⟩
      refine ⟨⟨_, rfl, (by decide)⟩, ?_⟩
      refine s_X12_finding hF (v := (-1000002)) (by decide) ?_
      have r4 : (I 238 2) = 0 := (hX.i rfl rfl)
      have e : fx_move v0 v2 = (-1000002) := by (unfold fx_move; (repeat' split) <;> first | rfl | omega | (simp only [wr, wl] at *; omega))
      rw [e] at hQ
      exact ⟨rfl, hQ _ _⟩
    ·
      refine ⟨fun c => absurd (show ((0 : Int) = 0) from by decide) c, fun _ => ?_⟩
      refine ⟨⟨_, rfl, (by decide)⟩, ?_⟩
      refine s_X12_finding hF (v := (-1000001)) (by decide) ?_
      have r5 : (I 238 1) = 0 := (hX.i rfl rfl)
      have e : fx_move v0 v2 = (-1000001) := by (unfold fx_move; (repeat' split) <;> first | rfl | omega | (simp only [wr, wl] at *; omega))
      rw [e] at hQ
      exact ⟨rfl, hQ _ _⟩
  ·
    refine ⟨fun _ => ?_, fun c => absurd (show ((0 : Int) = 0) from by decide) c⟩
    refine ⟨⟨_, rfl, (by decide)⟩, ?_⟩
    refine s_X12_finding hF (v := (-1000001)) (by decide) ?_
    have r6 : (I 238 1) = 0 := (hX.i rfl rfl)
    have e : fx_move v0 v2 = (-1000001) := by (unfold fx_move; (repeat' split) <;> first | rfl | omega | (simp only [wr, wl] at *; omega))
    rw [e] at hQ
    exact ⟨rfl, hQ _ _⟩
theorem m_restore (hF : FS F) (hX : FXm I) (hQ : ∀ F' I', Q (some (vi ((-1000002)))) F' I') : CallN G (d + 12) kX12_restore [vr 235] NP F I Q := by
  refine Call_wp (lv := [some (vr 235)]) (by decide) ckX12_restore [] rfl rfl ?_
  refine ⟨_, rfl, (by decide), ?_⟩
  have r1 : (I 235 2) = 0 := (hX.i rfl rfl)
  refine ⟨fun c => absurd (show (((I 235 2) : Int) = 0) from by first | omega | (simp only [wr, wl] at *; omega)) c, fun _ => ?_⟩
  refine ⟨⟨_, rfl, (by decide)⟩, ?_⟩
  refine s_X12_finding hF (v := (-1000002)) (by decide) ?_
  have r2 : (I 238 2) = 0 := (hX.i rfl rfl)
  have e : (-1000002) = (-1000002) := by (skip; (repeat' split) <;> first | rfl | omega | (simp only [wr, wl] at *; omega))
  rw [e] at hQ
  exact ⟨rfl, hQ _ _⟩
theorem m_tell (hF : FS F) (hX : FXm I) {v0 : Int} (rv0 : iR v0) (hQ : ∀ F' I', Q (some (vi (1))) F' I') : CallN G (d + 12) kX12_tell [vr 235, vi v0] NP F I Q := by
  unfold iR at *
  refine Call_wp (lv := [some (vr 235), some (vi v0)]) (by decide) ckX12_tell [] rfl rfl ?_
  refine ⟨_, rfl, (by decide), ?_⟩
  refine fun w0 hw0 => ?_; obtain rfl : w0 = some 236 := hw0.symm.trans (FS.g hF rfl)
  refine ⟨_, rfl, (by decide), (by decide), (by decide), ?_⟩
  have r1 : (I 236 3) = 0 := (hX.i rfl rfl)
  refine ⟨fun _ => ?_, fun c => absurd c (show (¬ ((I 236 3) : Int) = 48) from by first | omega | (simp only [wr, wl] at *; omega))⟩
  refine ⟨_, rfl, (by decide), ?_⟩
  refine fun w0 hw0 => ?_; obtain rfl : w0 = some 236 := hw0.symm.trans (FS.g hF rfl)
  refine ⟨_, rfl, (by decide), ?_⟩
  refine fun w0 hw0 => ?_; obtain rfl : w0 = some 236 := hw0.symm.trans (FS.g hF rfl)
  refine ⟨_, rfl, (by decide), (by decide), (by decide), ?_⟩
  have n2 : (wr (1292 + (I 236 3))) = 1292 + (I 236 3) := wr_id (show -2147483648 ≤ (1292 + (I 236 3) : Int) ∧ (1292 + (I 236 3) : Int) < 2147483648 from by omega)
  refine ⟨_, rfl, (by decide), (show (0 : Int) ≤ (wr (1292 + (I 236 3))) from by first | omega | (simp only [wr, wl] at *; omega)), (show (wr (1292 + (I 236 3))) < (1340 : Int) from by first | omega | (simp only [wr, wl] at *; omega)), ?_⟩
  refine ⟨_, rfl, (by decide), ?_⟩
  refine fun w0 hw0 => ?_; obtain rfl : w0 = some 236 := hw0.symm.trans (FS.g hF rfl)
  refine ⟨_, rfl, (by decide), (by decide), (by decide), ?_⟩
  have u3 : ((uI I 236 (Int.toNat (wr (1292 + (I 236 3)))) v0) 236 3) = (I 236 3) := uJ_ne (by omega)
  refine ⟨_, rfl, (by decide), (by decide), (by decide), ?_⟩
  refine ⟨_, rfl, (by decide), ?_⟩
  refine fun w0 hw0 => ?_; obtain rfl : w0 = some 236 := hw0.symm.trans (FS.g hF rfl)
  refine ⟨_, rfl, (by decide), (by decide), (by decide), ?_⟩
  have e : 1 = (wr (((uI I 236 (Int.toNat (wr (1292 + (I 236 3)))) v0) 236 3) + 1)) := by (skip; (repeat' split) <;> first | rfl | omega | (simp only [wr, wl] at *; omega))
  rw [e] at hQ
  exact ⟨rfl, hQ _ _⟩
theorem m_check (hF : FS F) (hX : FXm I) {v0 v1 : Int} (rv0 : iR v0) (rv1 : iR v1) (hQ : ∀ F' I', Q (some (vi ((-1000001)))) F' I') : CallN G (d + 12) kX12_check [vr 235, vi v0, vi v1] NP F I Q := by
  unfold iR at *
  refine Call_wp (lv := [some (vr 235), some (vi v0), some (vi v1), none, none, none]) (by decide) ckX12_check [] rfl rfl ?_
  refine ⟨_, rfl, (by decide), ?_⟩
  refine fun w0 hw0 => ?_; obtain rfl : w0 = some 236 := hw0.symm.trans (FS.g hF rfl)
  refine ⟨_, rfl, (by decide), (by decide), (by decide), ?_⟩
  have r1 : (I 236 3) = 0 := (hX.i rfl rfl)
  refine ⟨_, rfl, (by decide), ?_⟩
  refine fun w0 hw0 => ?_; obtain rfl : w0 = some 236 := hw0.symm.trans (FS.g hF rfl)
  refine ⟨_, rfl, (by decide), (by decide), (by decide), ?_⟩
  refine ⟨⟨_, rfl, (by decide)⟩, ?_⟩
  refine s_X12_isProgram (fun (w2 : ((0 : Int) ≤ v0 ∧ (v0 : Int) ≤ 3)) => ?_) (fun (w2 : ¬ ((0 : Int) ≤ v0 ∧ (v0 : Int) ≤ 3)) => ?_)
  ·
    refine ⟨fun c => absurd c (show (¬ ((1 : Int) = 0)) from by decide), fun _ => ?_⟩
    refine ⟨⟨_, rfl, (by decide)⟩, ?_⟩
    have r3 : (I 236 0) = 0 := (hX.i rfl rfl)
    refine s_X12_is hF (w := 0) (by decide) (show 0 ≤ (I 236 0) ∧ (I 236 0) < 1000000 from by omega) (fun hw => absurd hw (show ¬ (0 ≤ v1 ∧ v1 < (I 236 0)) from by omega)) (fun _ => ?_)
    refine ⟨fun c => absurd (show ((0 : Int) = 0) from by decide) c, fun _ => ?_⟩
    refine ⟨⟨_, rfl, (by decide)⟩, ?_⟩
    refine s_X12_finding hF (v := (-1000001)) (by decide) ?_
    have r4 : (I 238 1) = 0 := (hX.i rfl rfl)
    have e : (-1000001) = (-1000001) := by (skip; (repeat' split) <;> first | rfl | omega | (simp only [wr, wl] at *; omega))
    rw [e] at hQ
    exact ⟨rfl, hQ _ _⟩
  ·
    refine ⟨fun _ => ?_, fun c => absurd (show ((0 : Int) = 0) from by decide) c⟩
    refine ⟨⟨_, rfl, (by decide)⟩, ?_⟩
    refine s_X12_finding hF (v := (-1000001)) (by decide) ?_
    have r5 : (I 238 1) = 0 := (hX.i rfl rfl)
    have e : (-1000001) = (-1000001) := by (skip; (repeat' split) <;> first | rfl | omega | (simp only [wr, wl] at *; omega))
    rw [e] at hQ
    exact ⟨rfl, hQ _ _⟩
theorem m_count (hF : FS F) (hX : FXm I) {v0 : Int} (rv0 : iR v0) (hQ : ∀ F' I', Q (some (vi (fx_count v0))) F' I') : CallN G (d + 12) kX12_count [vr 235, vi v0] NP F I Q := by
  unfold iR at *
  refine Call_wp (lv := [some (vr 235), some (vi v0), none, none]) (by decide) ckX12_count [] rfl rfl ?_
  refine ⟨fun (c1 : ((v0 : Int) = 0)) => ?_, fun (c1 : (¬ ((v0 : Int) = 0))) => ?_⟩
  ·
    refine ⟨_, rfl, (by decide), ?_⟩
    refine fun w0 hw0 => ?_; obtain rfl : w0 = some 236 := hw0.symm.trans (FS.g hF rfl)
    refine ⟨_, rfl, (by decide), (by decide), (by decide), ?_⟩
    have r2 : (I 236 0) = 0 := (hX.i rfl rfl)
    have e : fx_count v0 = (I 236 0) := by (unfold fx_count; (repeat' split) <;> first | rfl | omega | (simp only [wr, wl] at *; omega))
    rw [e] at hQ
    exact ⟨rfl, hQ _ _⟩
  ·
    refine ⟨fun (c3 : ((v0 : Int) = 1)) => ?_, fun (c3 : (¬ ((v0 : Int) = 1))) => ?_⟩
    ·
      refine ⟨_, rfl, (by decide), ?_⟩
      refine fun w0 hw0 => ?_; obtain rfl : w0 = some 236 := hw0.symm.trans (FS.g hF rfl)
      refine ⟨_, rfl, (by decide), (by decide), (by decide), ?_⟩
      have r4 : (I 236 1) = 0 := (hX.i rfl rfl)
      have e : fx_count v0 = (I 236 1) := by (unfold fx_count; (repeat' split) <;> first | rfl | omega | (simp only [wr, wl] at *; omega))
      rw [e] at hQ
      exact ⟨rfl, hQ _ _⟩
    ·
      refine ⟨fun (c5 : ((v0 : Int) = 2)) => ?_, fun (c5 : (¬ ((v0 : Int) = 2))) => ?_⟩
      ·
        refine ⟨_, rfl, (by decide), ?_⟩
        refine fun w0 hw0 => ?_; obtain rfl : w0 = some 236 := hw0.symm.trans (FS.g hF rfl)
        refine ⟨_, rfl, (by decide), (by decide), (by decide), ?_⟩
        have r6 : (I 236 1) = 0 := (hX.i rfl rfl)
        refine ⟨fun _ => ?_, fun c => absurd (show (((I 236 1) : Int) ≤ 0) from by first | omega | (simp only [wr, wl] at *; omega)) c⟩
        have e : fx_count v0 = 0 := by (unfold fx_count; (repeat' split) <;> first | rfl | omega | (simp only [wr, wl] at *; omega))
        rw [e] at hQ
        exact ⟨rfl, hQ _ _⟩
      ·
        refine ⟨fun (c7 : ((v0 : Int) = 3)) => ?_, fun (c7 : (¬ ((v0 : Int) = 3))) => ?_⟩
        ·
          refine ⟨fun c => absurd c (show (¬ ((4 : Int) ≤ 0)) from by decide), fun _ => ?_⟩
          refine ⟨⟨_, rfl, (by decide)⟩, ?_⟩
          refine Call_wp (lv := [some (vr 235), some (vi 0)]) (by decide) ckX12_hasProgram [] rfl rfl ?_
          refine ⟨_, rfl, (by decide), ?_⟩
          refine fun w0 hw0 => ?_; obtain rfl : w0 = some 236 := hw0.symm.trans (FS.g hF rfl)
          refine ⟨_, rfl, (by decide), (by decide), (by decide), ?_⟩
          have r8 : (I 236 40) = 0 := (hX.i rfl rfl)
          refine ⟨fun _ => ?_, fun c => absurd (show (((I 236 40) : Int) ≤ 0) from by first | omega | (simp only [wr, wl] at *; omega)) c⟩
          refine ⟨rfl, (by decide), ?_⟩
          refine ⟨fun _ => ?_, fun c => absurd (show ((0 : Int) = 0) from by decide) c⟩
          refine ⟨fun c => absurd c (show (¬ ((4 : Int) ≤ 1)) from by decide), fun _ => ?_⟩
          refine ⟨⟨_, rfl, (by decide)⟩, ?_⟩
          refine Call_wp (lv := [some (vr 235), some (vi 1)]) (by decide) ckX12_hasProgram [] rfl rfl ?_
          refine ⟨_, rfl, (by decide), ?_⟩
          refine fun w0 hw0 => ?_; obtain rfl : w0 = some 236 := hw0.symm.trans (FS.g hF rfl)
          refine ⟨_, rfl, (by decide), (by decide), (by decide), ?_⟩
          have r9 : (I 236 76) = 0 := (hX.i rfl rfl)
          refine ⟨fun _ => ?_, fun c => absurd (show (((I 236 76) : Int) ≤ 0) from by first | omega | (simp only [wr, wl] at *; omega)) c⟩
          refine ⟨rfl, (by decide), ?_⟩
          refine ⟨fun _ => ?_, fun c => absurd (show ((0 : Int) = 0) from by decide) c⟩
          refine ⟨fun c => absurd c (show (¬ ((4 : Int) ≤ 2)) from by decide), fun _ => ?_⟩
          refine ⟨⟨_, rfl, (by decide)⟩, ?_⟩
          refine Call_wp (lv := [some (vr 235), some (vi 2)]) (by decide) ckX12_hasProgram [] rfl rfl ?_
          refine ⟨_, rfl, (by decide), ?_⟩
          refine fun w0 hw0 => ?_; obtain rfl : w0 = some 236 := hw0.symm.trans (FS.g hF rfl)
          refine ⟨_, rfl, (by decide), (by decide), (by decide), ?_⟩
          have r10 : (I 236 112) = 0 := (hX.i rfl rfl)
          refine ⟨fun _ => ?_, fun c => absurd (show (((I 236 112) : Int) ≤ 0) from by first | omega | (simp only [wr, wl] at *; omega)) c⟩
          refine ⟨rfl, (by decide), ?_⟩
          refine ⟨fun _ => ?_, fun c => absurd (show ((0 : Int) = 0) from by decide) c⟩
          refine ⟨fun c => absurd c (show (¬ ((4 : Int) ≤ 3)) from by decide), fun _ => ?_⟩
          refine ⟨⟨_, rfl, (by decide)⟩, ?_⟩
          refine Call_wp (lv := [some (vr 235), some (vi 3)]) (by decide) ckX12_hasProgram [] rfl rfl ?_
          refine ⟨_, rfl, (by decide), ?_⟩
          refine fun w0 hw0 => ?_; obtain rfl : w0 = some 236 := hw0.symm.trans (FS.g hF rfl)
          refine ⟨_, rfl, (by decide), (by decide), (by decide), ?_⟩
          have r11 : (I 236 148) = 0 := (hX.i rfl rfl)
          refine ⟨fun _ => ?_, fun c => absurd (show (((I 236 148) : Int) ≤ 0) from by first | omega | (simp only [wr, wl] at *; omega)) c⟩
          refine ⟨rfl, (by decide), ?_⟩
          refine ⟨fun _ => ?_, fun c => absurd (show ((0 : Int) = 0) from by decide) c⟩
          refine ⟨fun _ => ?_, fun c => absurd (show ((4 : Int) ≤ 4) from by decide) c⟩
          have e : fx_count v0 = 0 := by (unfold fx_count; (repeat' split) <;> first | rfl | omega | (simp only [wr, wl] at *; omega))
          rw [e] at hQ
          exact ⟨rfl, hQ _ _⟩
        ·
          refine ⟨fun (c12 : ((v0 : Int) = 4)) => ?_, fun (c12 : (¬ ((v0 : Int) = 4))) => ?_⟩
          ·
            refine ⟨_, rfl, (by decide), ?_⟩
            refine fun w0 hw0 => ?_; obtain rfl : w0 = some 236 := hw0.symm.trans (FS.g hF rfl)
            refine ⟨_, rfl, (by decide), (by decide), (by decide), ?_⟩
            have r13 : (I 236 2) = 0 := (hX.i rfl rfl)
            have e : fx_count v0 = (I 236 2) := by (unfold fx_count; (repeat' split) <;> first | rfl | omega | (simp only [wr, wl] at *; omega))
            rw [e] at hQ
            exact ⟨rfl, hQ _ _⟩
          ·
            refine ⟨fun (c14 : ((v0 : Int) = 5)) => ?_, fun (c14 : (¬ ((v0 : Int) = 5))) => ?_⟩
            ·
              refine ⟨_, rfl, (by decide), ?_⟩
              refine fun w0 hw0 => ?_; obtain rfl : w0 = some 236 := hw0.symm.trans (FS.g hF rfl)
              refine ⟨_, rfl, (by decide), (by decide), (by decide), ?_⟩
              have r15 : (I 236 3) = 0 := (hX.i rfl rfl)
              have e : fx_count v0 = (I 236 3) := by (unfold fx_count; (repeat' split) <;> first | rfl | omega | (simp only [wr, wl] at *; omega))
              rw [e] at hQ
              exact ⟨rfl, hQ _ _⟩
            ·
              refine ⟨fun (c16 : ((v0 : Int) = 6)) => ?_, fun (c16 : (¬ ((v0 : Int) = 6))) => ?_⟩
              ·
                refine ⟨_, rfl, (by decide), ?_⟩
                have r17 : (I 235 31) = 0 := (hX.i rfl rfl)
                have e : fx_count v0 = (I 235 31) := by (unfold fx_count; (repeat' split) <;> first | rfl | omega | (simp only [wr, wl] at *; omega))
                rw [e] at hQ
                exact ⟨rfl, hQ _ _⟩
              ·
                refine ⟨fun (c18 : ((v0 : Int) = 7)) => ?_, fun (c18 : (¬ ((v0 : Int) = 7))) => ?_⟩
                ·
                  refine ⟨_, rfl, (by decide), ?_⟩
                  refine fun w0 hw0 => ?_; obtain rfl : w0 = some 236 := hw0.symm.trans (FS.g hF rfl)
                  refine ⟨_, rfl, (by decide), (by decide), (by decide), ?_⟩
                  have r19 : (I 236 0) = 0 := (hX.i rfl rfl)
                  refine ⟨fun _ => ?_, fun c => absurd (show (((I 236 0) : Int) ≤ 0) from by first | omega | (simp only [wr, wl] at *; omega)) c⟩
                  have e : fx_count v0 = 0 := by (unfold fx_count; (repeat' split) <;> first | rfl | omega | (simp only [wr, wl] at *; omega))
                  rw [e] at hQ
                  exact ⟨rfl, hQ _ _⟩
                ·
                  refine ⟨⟨_, rfl, (by decide)⟩, ?_⟩
                  refine s_X12_finding hF (v := (-1000001)) (by decide) ?_
                  have r20 : (I 238 1) = 0 := (hX.i rfl rfl)
                  have e : fx_count v0 = (-1000001) := by (unfold fx_count; (repeat' split) <;> first | rfl | omega | (simp only [wr, wl] at *; omega))
                  rw [e] at hQ
                  exact ⟨rfl, hQ _ _⟩
theorem m_told (hF : FS F) (hX : FXm I) {v0 : Int} (rv0 : iR v0) (hQ : ∀ F' I', Q (some (vi (fx_told v0))) F' I') : CallN G (d + 12) kX12_told [vr 235, vi v0] NP F I Q := by
  unfold iR at *
  refine Call_wp (lv := [some (vr 235), some (vi v0)]) (by decide) ckX12_told [] rfl rfl ?_
  refine s_X12_within (fun (w1 : ((1 : Int) ≤ v0 ∧ (v0 : Int) ≤ 6)) => ?_) (fun (w1 : ¬ ((1 : Int) ≤ v0 ∧ (v0 : Int) ≤ 6)) => ?_)
  ·
    refine ⟨fun c => absurd c (show (¬ ((1 : Int) = 0)) from by decide), fun _ => ?_⟩
    refine ⟨_, rfl, (by decide), ?_⟩
    refine fun w0 hw0 => ?_; obtain rfl : w0 = some 238 := hw0.symm.trans (FS.g hF rfl)
    refine ⟨_, rfl, (by decide), (by first | omega | (simp only [wr, wl] at *; omega)), (by first | omega | (simp only [wr, wl] at *; omega)), ?_⟩
    have r2 : (I 238 (Int.toNat v0)) = 0 := (FXm_r hX 238 0 1 6 rfl rfl v0 (by first | omega | (simp only [wr, wl] at *; omega)) (by first | omega | (simp only [wr, wl] at *; omega)))
    have e : fx_told v0 = (I 238 (Int.toNat v0)) := by (unfold fx_told; (repeat' split) <;> first | rfl | omega | (simp only [wr, wl] at *; omega))
    rw [e] at hQ
    exact ⟨rfl, hQ _ _⟩
  ·
    refine ⟨fun _ => ?_, fun c => absurd (show ((0 : Int) = 0) from by decide) c⟩
    refine ⟨⟨_, rfl, (by decide)⟩, ?_⟩
    refine s_X12_finding hF (v := (-1000001)) (by decide) ?_
    have r3 : (I 238 1) = 0 := (hX.i rfl rfl)
    have e : fx_told v0 = (-1000001) := by (unfold fx_told; (repeat' split) <;> first | rfl | omega | (simp only [wr, wl] at *; omega))
    rw [e] at hQ
    exact ⟨rfl, hQ _ _⟩
theorem m_program (hF : FS F) (hX : FXm I) {v0 : Int} (rv0 : iR v0) (hQ : ∀ F' I', Q (some (vi (fx_program v0))) F' I') : CallN G (d + 12) kX12_program [vr 235, vi v0] NP F I Q := by
  unfold iR at *
  refine Call_wp (lv := [some (vr 235), some (vi v0), none, none, none]) (by decide) ckX12_program [] rfl rfl ?_
  refine ⟨⟨_, rfl, (by decide)⟩, ?_⟩
  refine s_X12_isProgram (fun (w1 : ((0 : Int) ≤ v0 ∧ (v0 : Int) ≤ 3)) => ?_) (fun (w1 : ¬ ((0 : Int) ≤ v0 ∧ (v0 : Int) ≤ 3)) => ?_)
  ·
    refine ⟨fun _ => ?_, fun c => absurd c (show (¬ (1 : Int) = 0) from by decide)⟩
    refine ⟨_, rfl, (by decide), ?_⟩
    refine ⟨_, rfl, (by decide), (by decide), ?_⟩
    refine ⟨_, rfl, (by decide), ?_⟩
    refine ⟨⟨_, rfl, (by decide)⟩, ?_⟩
    refine Call_wp (lv := [some (vr 235), none, none]) (by decide) ckX12_goOn [] rfl rfl ?_
    refine ⟨_, rfl, (by decide), ?_⟩
    refine ⟨_, rfl, (by decide), ?_⟩
    refine ⟨_, rfl, (by decide), ?_⟩
    refine ⟨⟨_, rfl, (by decide)⟩, ?_⟩
    refine Call_wp (lv := [some (vr 235), some (vi 0), some (vi 32), some (vi 32)]) (by decide) ckX12_isByte [] rfl rfl ?_
    refine ⟨_, rfl, (by decide), ?_⟩
    refine fun w0 hw0 => ?_; obtain rfl : w0 = some 236 := hw0.symm.trans (FS.g hF rfl)
    refine ⟨_, rfl, (by decide), (by decide), (by decide), ?_⟩
    have r2 : (I 236 2) = 0 := (hX.i rfl rfl)
    refine ⟨fun _ => ?_, fun c => absurd (show (((I 236 2) : Int) ≤ 0) from by first | omega | (simp only [wr, wl] at *; omega)) c⟩
    refine ⟨rfl, (by decide), ?_⟩
    refine ⟨fun _ => ?_, fun c => absurd (show ((0 : Int) = 0) from by decide) c⟩
    refine ⟨_, rfl, (by decide), ?_⟩
    refine ⟨_, rfl, (by decide), ?_⟩
    refine ⟨_, rfl, (by decide), ?_⟩
    refine ⟨⟨_, rfl, (by decide)⟩, ?_⟩
    refine Call_wp (lv := [some (vr 235), some (vi 0), some (vi 97), some (vi 122)]) (by decide) ckX12_isByte [] rfl rfl ?_
    refine ⟨_, rfl, (by decide), ?_⟩
    refine fun w0 hw0 => ?_; obtain rfl : w0 = some 236 := hw0.symm.trans (FS.g hF rfl)
    refine ⟨_, rfl, (by decide), (by decide), (by decide), ?_⟩
    refine ⟨fun _ => ?_, fun c => absurd (show (((I 236 2) : Int) ≤ 0) from by first | omega | (simp only [wr, wl] at *; omega)) c⟩
    refine ⟨rfl, (by decide), ?_⟩
    refine ⟨_, rfl, (by decide), ?_⟩
    refine ⟨⟨_, rfl, (by decide)⟩, ?_⟩
    refine Call_wp (lv := [some (vr 235), some (vi 0), some (vi 48), some (vi 57)]) (by decide) ckX12_isByte [] rfl rfl ?_
    refine ⟨_, rfl, (by decide), ?_⟩
    refine fun w0 hw0 => ?_; obtain rfl : w0 = some 236 := hw0.symm.trans (FS.g hF rfl)
    refine ⟨_, rfl, (by decide), (by decide), (by decide), ?_⟩
    refine ⟨fun _ => ?_, fun c => absurd (show (((I 236 2) : Int) ≤ 0) from by first | omega | (simp only [wr, wl] at *; omega)) c⟩
    refine ⟨rfl, (by decide), ?_⟩
    refine ⟨_, rfl, (by decide), ?_⟩
    refine ⟨_, rfl, (by decide), ?_⟩
    refine ⟨_, rfl, (by decide), ?_⟩
    refine fun w0 hw0 => ?_; obtain rfl : w0 = some 236 := hw0.symm.trans (FS.g hF rfl)
    refine ⟨_, rfl, (by decide), (by decide), (by decide), ?_⟩
    refine ⟨fun _ => ?_, fun c => absurd (show (((I 236 2) : Int) ≤ 0) from by first | omega | (simp only [wr, wl] at *; omega)) c⟩
    refine ⟨_, rfl, (by decide), ?_⟩
    refine ⟨fun _ => ?_, fun c => absurd (show ((0 : Int) = 0) from by decide) c⟩
    refine ⟨fun _ => ?_, fun c => absurd (show ((0 : Int) = 0) from by decide) c⟩
    refine ⟨rfl, ?_⟩
    refine ⟨⟨_, rfl, (by decide)⟩, ?_⟩
    refine Call_wp (lv := [some (vr 235), none, none]) (by decide) ckX12_part [] rfl rfl ?_
    refine ⟨fun c => absurd c (show (¬ ((5 : Int) < 0)) from by decide), fun _ => ?_⟩
    refine ⟨_, rfl, (by decide), ?_⟩
    refine fun w0 hw0 => ?_; obtain rfl : w0 = some 240 := hw0.symm.trans (FS.g hF rfl)
    refine ⟨_, _, (by decide), rfl, (by decide), (by decide), (by decide), ?_⟩
    refine fun w0 hw0 => ?_; obtain rfl : w0 = some 4115 := hw0.symm.trans (FS.g hF rfl)
    refine ⟨⟨_, rfl, (by decide)⟩, ?_⟩
    refine Call_wp (lv := [some (vr 235), some (vr 4115), none, none]) (by decide) ckX12_takes [] rfl rfl ?_
    refine ⟨_, rfl, (by decide), ?_⟩
    refine ⟨fun c => absurd (show ((0 : Int) = 0) from by decide) c, fun _ => ?_⟩
    refine ⟨_, rfl, (by decide), ?_⟩
    refine ⟨_, rfl, (by decide), ?_⟩
    refine ⟨⟨9, (by decide), rfl⟩, ?_⟩
    refine Call_wp (lv := [some (vr 4115)]) (by decide) ckJ0_length_8abf5 [] rfl rfl ?_
    refine ⟨9, (by decide), rfl, ?_⟩
    refine Or.inr (Or.inr ⟨9, (by decide), rfl, ?_⟩)
    refine ⟨⟨9, (by decide), rfl⟩, ?_⟩
    refine Call_wp (lv := [some (vr 4115)]) (by decide) ckJ0_coder_7d493 [] rfl rfl ?_
    refine ⟨fun c => absurd c (show (¬ ((1 : Int) = 0)) from by decide), fun _ => ?_⟩
    refine ⟨9, (by decide), rfl, ?_⟩
    refine ⟨rfl, (by decide), ?_⟩
    refine ⟨rfl, ?_⟩
    refine ⟨fun _ => ?_, fun c => absurd c (show (¬ (0 : Int) = 2) from by decide)⟩
    refine ⟨fun _ => ?_, fun c => absurd (show ((0 : Int) = 0) from by decide) c⟩
    refine ⟨fun _ => ?_, fun c => absurd (show ((0 : Int) = 0) from by decide) c⟩
    refine ⟨rfl, (by decide), ?_⟩
    refine ⟨fun c => absurd (show ((0 : Int) = 0) from by decide) c, fun _ => ?_⟩
    refine ⟨fun c => absurd c (show (¬ ((5 : Int) < 1)) from by decide), fun _ => ?_⟩
    refine ⟨_, rfl, (by decide), ?_⟩
    refine fun w0 hw0 => ?_; obtain rfl : w0 = some 240 := hw0.symm.trans (FS.g hF rfl)
    refine ⟨_, _, (by decide), rfl, (by decide), (by decide), (by decide), ?_⟩
    refine fun w0 hw0 => ?_; obtain rfl : w0 = some 4116 := hw0.symm.trans (FS.g hF rfl)
    refine ⟨⟨_, rfl, (by decide)⟩, ?_⟩
    refine Call_wp (lv := [some (vr 235), some (vr 4116), none, none]) (by decide) ckX12_takes [] rfl rfl ?_
    refine ⟨_, rfl, (by decide), ?_⟩
    refine ⟨fun c => absurd (show ((0 : Int) = 0) from by decide) c, fun _ => ?_⟩
    refine ⟨_, rfl, (by decide), ?_⟩
    refine ⟨_, rfl, (by decide), ?_⟩
    refine ⟨⟨10, (by decide), rfl⟩, ?_⟩
    refine Call_wp (lv := [some (vr 4116)]) (by decide) ckJ0_length_8abf5 [] rfl rfl ?_
    refine ⟨10, (by decide), rfl, ?_⟩
    refine Or.inr (Or.inr ⟨10, (by decide), rfl, ?_⟩)
    refine ⟨⟨10, (by decide), rfl⟩, ?_⟩
    refine Call_wp (lv := [some (vr 4116)]) (by decide) ckJ0_coder_7d493 [] rfl rfl ?_
    refine ⟨fun c => absurd c (show (¬ ((1 : Int) = 0)) from by decide), fun _ => ?_⟩
    refine ⟨10, (by decide), rfl, ?_⟩
    refine ⟨rfl, (by decide), ?_⟩
    refine ⟨rfl, ?_⟩
    refine ⟨fun _ => ?_, fun c => absurd c (show (¬ (0 : Int) = 4) from by decide)⟩
    refine ⟨fun _ => ?_, fun c => absurd (show ((0 : Int) = 0) from by decide) c⟩
    refine ⟨fun _ => ?_, fun c => absurd (show ((0 : Int) = 0) from by decide) c⟩
    refine ⟨rfl, (by decide), ?_⟩
    refine ⟨fun c => absurd (show ((0 : Int) = 0) from by decide) c, fun _ => ?_⟩
    refine ⟨fun c => absurd c (show (¬ ((5 : Int) < 2)) from by decide), fun _ => ?_⟩
    refine ⟨_, rfl, (by decide), ?_⟩
    refine fun w0 hw0 => ?_; obtain rfl : w0 = some 240 := hw0.symm.trans (FS.g hF rfl)
    refine ⟨_, _, (by decide), rfl, (by decide), (by decide), (by decide), ?_⟩
    refine fun w0 hw0 => ?_; obtain rfl : w0 = some 4117 := hw0.symm.trans (FS.g hF rfl)
    refine ⟨⟨_, rfl, (by decide)⟩, ?_⟩
    refine Call_wp (lv := [some (vr 235), some (vr 4117), none, none]) (by decide) ckX12_takes [] rfl rfl ?_
    refine ⟨_, rfl, (by decide), ?_⟩
    refine ⟨fun c => absurd (show ((0 : Int) = 0) from by decide) c, fun _ => ?_⟩
    refine ⟨_, rfl, (by decide), ?_⟩
    refine ⟨_, rfl, (by decide), ?_⟩
    refine ⟨⟨11, (by decide), rfl⟩, ?_⟩
    refine Call_wp (lv := [some (vr 4117)]) (by decide) ckJ0_length_8abf5 [] rfl rfl ?_
    refine ⟨11, (by decide), rfl, ?_⟩
    refine Or.inr (Or.inr ⟨11, (by decide), rfl, ?_⟩)
    refine ⟨⟨11, (by decide), rfl⟩, ?_⟩
    refine Call_wp (lv := [some (vr 4117)]) (by decide) ckJ0_coder_7d493 [] rfl rfl ?_
    refine ⟨fun c => absurd c (show (¬ ((1 : Int) = 0)) from by decide), fun _ => ?_⟩
    refine ⟨11, (by decide), rfl, ?_⟩
    refine ⟨rfl, (by decide), ?_⟩
    refine ⟨rfl, ?_⟩
    refine ⟨fun _ => ?_, fun c => absurd c (show (¬ (0 : Int) = 4) from by decide)⟩
    refine ⟨fun _ => ?_, fun c => absurd (show ((0 : Int) = 0) from by decide) c⟩
    refine ⟨fun _ => ?_, fun c => absurd (show ((0 : Int) = 0) from by decide) c⟩
    refine ⟨rfl, (by decide), ?_⟩
    refine ⟨fun c => absurd (show ((0 : Int) = 0) from by decide) c, fun _ => ?_⟩
    refine ⟨fun c => absurd c (show (¬ ((5 : Int) < 3)) from by decide), fun _ => ?_⟩
    refine ⟨_, rfl, (by decide), ?_⟩
    refine fun w0 hw0 => ?_; obtain rfl : w0 = some 240 := hw0.symm.trans (FS.g hF rfl)
    refine ⟨_, _, (by decide), rfl, (by decide), (by decide), (by decide), ?_⟩
    refine fun w0 hw0 => ?_; obtain rfl : w0 = some 4118 := hw0.symm.trans (FS.g hF rfl)
    refine ⟨⟨_, rfl, (by decide)⟩, ?_⟩
    refine Call_wp (lv := [some (vr 235), some (vr 4118), none, none]) (by decide) ckX12_takes [] rfl rfl ?_
    refine ⟨_, rfl, (by decide), ?_⟩
    refine ⟨fun c => absurd (show ((0 : Int) = 0) from by decide) c, fun _ => ?_⟩
    refine ⟨_, rfl, (by decide), ?_⟩
    refine ⟨_, rfl, (by decide), ?_⟩
    refine ⟨⟨12, (by decide), rfl⟩, ?_⟩
    refine Call_wp (lv := [some (vr 4118)]) (by decide) ckJ0_length_8abf5 [] rfl rfl ?_
    refine ⟨12, (by decide), rfl, ?_⟩
    refine Or.inr (Or.inr ⟨12, (by decide), rfl, ?_⟩)
    refine ⟨⟨12, (by decide), rfl⟩, ?_⟩
    refine Call_wp (lv := [some (vr 4118)]) (by decide) ckJ0_coder_7d493 [] rfl rfl ?_
    refine ⟨fun c => absurd c (show (¬ ((1 : Int) = 0)) from by decide), fun _ => ?_⟩
    refine ⟨12, (by decide), rfl, ?_⟩
    refine ⟨rfl, (by decide), ?_⟩
    refine ⟨rfl, ?_⟩
    refine ⟨fun _ => ?_, fun c => absurd c (show (¬ (0 : Int) = 4) from by decide)⟩
    refine ⟨fun _ => ?_, fun c => absurd (show ((0 : Int) = 0) from by decide) c⟩
    refine ⟨fun _ => ?_, fun c => absurd (show ((0 : Int) = 0) from by decide) c⟩
    refine ⟨rfl, (by decide), ?_⟩
    refine ⟨fun c => absurd (show ((0 : Int) = 0) from by decide) c, fun _ => ?_⟩
    refine ⟨fun c => absurd c (show (¬ ((5 : Int) < 4)) from by decide), fun _ => ?_⟩
    refine ⟨_, rfl, (by decide), ?_⟩
    refine fun w0 hw0 => ?_; obtain rfl : w0 = some 240 := hw0.symm.trans (FS.g hF rfl)
    refine ⟨_, _, (by decide), rfl, (by decide), (by decide), (by decide), ?_⟩
    refine fun w0 hw0 => ?_; obtain rfl : w0 = some 4119 := hw0.symm.trans (FS.g hF rfl)
    refine ⟨⟨_, rfl, (by decide)⟩, ?_⟩
    refine Call_wp (lv := [some (vr 235), some (vr 4119), none, none]) (by decide) ckX12_takes [] rfl rfl ?_
    refine ⟨_, rfl, (by decide), ?_⟩
    refine ⟨fun c => absurd (show ((0 : Int) = 0) from by decide) c, fun _ => ?_⟩
    refine ⟨_, rfl, (by decide), ?_⟩
    refine ⟨_, rfl, (by decide), ?_⟩
    refine ⟨⟨13, (by decide), rfl⟩, ?_⟩
    refine Call_wp (lv := [some (vr 4119)]) (by decide) ckJ0_length_8abf5 [] rfl rfl ?_
    refine ⟨13, (by decide), rfl, ?_⟩
    refine Or.inr (Or.inr ⟨13, (by decide), rfl, ?_⟩)
    refine ⟨⟨13, (by decide), rfl⟩, ?_⟩
    refine Call_wp (lv := [some (vr 4119)]) (by decide) ckJ0_coder_7d493 [] rfl rfl ?_
    refine ⟨fun c => absurd c (show (¬ ((1 : Int) = 0)) from by decide), fun _ => ?_⟩
    refine ⟨13, (by decide), rfl, ?_⟩
    refine ⟨rfl, (by decide), ?_⟩
    refine ⟨rfl, ?_⟩
    refine ⟨fun _ => ?_, fun c => absurd c (show (¬ (0 : Int) = 4) from by decide)⟩
    refine ⟨fun _ => ?_, fun c => absurd (show ((0 : Int) = 0) from by decide) c⟩
    refine ⟨fun _ => ?_, fun c => absurd (show ((0 : Int) = 0) from by decide) c⟩
    refine ⟨rfl, (by decide), ?_⟩
    refine ⟨fun c => absurd (show ((0 : Int) = 0) from by decide) c, fun _ => ?_⟩
    refine ⟨fun c => absurd c (show (¬ ((5 : Int) < 5)) from by decide), fun _ => ?_⟩
    refine ⟨_, rfl, (by decide), ?_⟩
    refine fun w0 hw0 => ?_; obtain rfl : w0 = some 240 := hw0.symm.trans (FS.g hF rfl)
    refine ⟨_, _, (by decide), rfl, (by decide), (by decide), (by decide), ?_⟩
    refine fun w0 hw0 => ?_; obtain rfl : w0 = some 4120 := hw0.symm.trans (FS.g hF rfl)
    refine ⟨⟨_, rfl, (by decide)⟩, ?_⟩
    refine Call_wp (lv := [some (vr 235), some (vr 4120), none, none]) (by decide) ckX12_takes [] rfl rfl ?_
    refine ⟨_, rfl, (by decide), ?_⟩
    refine ⟨fun c => absurd (show ((0 : Int) = 0) from by decide) c, fun _ => ?_⟩
    refine ⟨_, rfl, (by decide), ?_⟩
    refine ⟨_, rfl, (by decide), ?_⟩
    refine ⟨⟨14, (by decide), rfl⟩, ?_⟩
    refine Call_wp (lv := [some (vr 4120)]) (by decide) ckJ0_length_8abf5 [] rfl rfl ?_
    refine ⟨14, (by decide), rfl, ?_⟩
    refine Or.inr (Or.inr ⟨14, (by decide), rfl, ?_⟩)
    refine ⟨⟨14, (by decide), rfl⟩, ?_⟩
    refine Call_wp (lv := [some (vr 4120)]) (by decide) ckJ0_coder_7d493 [] rfl rfl ?_
    refine ⟨fun c => absurd c (show (¬ ((1 : Int) = 0)) from by decide), fun _ => ?_⟩
    refine ⟨14, (by decide), rfl, ?_⟩
    refine ⟨rfl, (by decide), ?_⟩
    refine ⟨rfl, ?_⟩
    refine ⟨fun _ => ?_, fun c => absurd c (show (¬ (0 : Int) = 4) from by decide)⟩
    refine ⟨fun _ => ?_, fun c => absurd (show ((0 : Int) = 0) from by decide) c⟩
    refine ⟨fun _ => ?_, fun c => absurd (show ((0 : Int) = 0) from by decide) c⟩
    refine ⟨rfl, (by decide), ?_⟩
    refine ⟨fun c => absurd (show ((0 : Int) = 0) from by decide) c, fun _ => ?_⟩
    refine ⟨fun _ => ?_, fun c => absurd (show ((5 : Int) < 6) from by decide) c⟩
    refine ⟨_, rfl, (by decide), ?_⟩
    refine ⟨fun c => absurd (show ((0 : Int) = 0) from by decide) c, fun _ => ?_⟩
    refine ⟨fun c => absurd c (show (¬ ((6 : Int) ≤ 5)) from by decide), fun _ => ?_⟩
    refine ⟨_, rfl, (by decide), (by decide), ?_⟩
    refine ⟨_, rfl, (by decide), ?_⟩
    refine ⟨fun _ => ?_, fun c => absurd c (show (¬ (1 : Int) = 0) from by decide)⟩
    refine ⟨_, rfl, (by decide), ?_⟩
    refine ⟨fun _ => ?_, fun c => absurd c (show (¬ (1 : Int) = 0) from by decide)⟩
    refine ⟨rfl, ?_⟩
    refine ⟨fun _ => ?_, fun c => absurd (show ((0 : Int) = 0) from by decide) c⟩
    refine ⟨⟨_, rfl, (by decide)⟩, ?_⟩
    refine Call_wp (lv := [some (vr 235), some (vr 4122), none, none]) (by decide) ckX12_takes [] rfl rfl ?_
    refine ⟨_, rfl, (by decide), ?_⟩
    refine ⟨fun _ => ?_, fun c => absurd c (show (¬ (1 : Int) = 0) from by decide)⟩
    refine ⟨fun _ => ?_, fun c => absurd (show ((0 : Int) = 0) from by decide) c⟩
    refine ⟨fun _ => ?_, fun c => absurd (show ((0 : Int) = 0) from by decide) c⟩
    refine ⟨rfl, (by decide), ?_⟩
    refine ⟨fun _ => ?_, fun c => absurd (show ((0 : Int) = 0) from by decide) c⟩
    refine ⟨_, rfl, (by decide), ?_⟩
    refine ⟨fun _ => ?_, fun c => absurd c (show (¬ (1 : Int) = 0) from by decide)⟩
    refine ⟨_, rfl, (by decide), (by decide), ?_⟩
    refine ⟨_, rfl, (by decide), ?_⟩
    refine fun w0 hw0 => ?_; obtain rfl : w0 = some 236 := hw0.symm.trans (FS.g hF rfl)
    refine ⟨_, rfl, (by decide), (by decide), (by decide), ?_⟩
    refine ⟨_, rfl, (by decide), ?_⟩
    refine ⟨fun c => absurd c (show (¬ ((1 : Int) = 0)) from by decide), fun _ => ?_⟩
    refine ⟨_, rfl, (by decide), ?_⟩
    have e : fx_program v0 = (-10) := by (unfold fx_program; (repeat' split) <;> first | rfl | omega | (simp only [wr, wl] at *; omega))
    rw [e] at hQ
    exact ⟨rfl, hQ _ _⟩
  ·
    refine ⟨fun c => absurd (show ((0 : Int) = 0) from by decide) c, fun _ => ?_⟩
    refine ⟨⟨_, rfl, (by decide)⟩, ?_⟩
    refine s_X12_finding hF (v := (-1000001)) (by decide) ?_
    have r3 : (I 238 1) = 0 := (hX.i rfl rfl)
    have e : fx_program v0 = (-1000001) := by (unfold fx_program; (repeat' split) <;> first | rfl | omega | (simp only [wr, wl] at *; omega))
    rw [e] at hQ
    exact ⟨rfl, hQ _ _⟩
end MC
