/-! calls with loops, on the fresh object. Own work (scripts laid by wip/pm/gen19.py). -/
/-- nothing but the kept state has changed -/
def FR (I I' : pI) : Prop := ∀ k j, (k < 102 ∨ 203 ≤ k) → I' k j = I k j
theorem FR.r {I : pI} : FR I I := fun _ _ _ => rfl
theorem FR.u {I I' : pI} {q b : Nat} {v : Int} (h : FR I I') (hq : 102 ≤ q ∧ q < 203) : FR I (uI I' q b v) := by
  intro k j hk
  unfold uI
  rw [if_neg (by omega)]
  exact h k j hk
theorem FR.c {I I' : pI} {q sp p dp n : Nat} (h : FR I I') (hq : 102 ≤ p ∧ p < 203) : FR I (cI I' q sp p dp n) := by
  intro k j hk
  unfold cI
  rw [if_neg (by omega)]
  exact h k j hk
theorem FR.t {I I' J : pI} (h : FR I I') (g : FR I' J) : FR I J := fun k j hk => (g k j hk).trans (h k j hk)
theorem FR.ms {I I' : pI} (h : FR I I') : MS I I' := fun k j hk => h k j (Or.inr (by omega))
theorem mrow {I : pI} (h : FXm I) {v : Int} (hv : 0 ≤ v ∧ v ≤ 5) : I 236 (Int.toNat (wr ((wr (16 + (wr (4 * v)))) + 0))) = 0 ∧ I 236 (Int.toNat (wr ((wr (16 + (wr (4 * v)))) + 1))) = 1 ∧ I 236 (Int.toNat (wr ((wr (16 + (wr (4 * v)))) + 2))) = 1 ∧ I 236 (Int.toNat (wr ((wr (16 + (wr (4 * v)))) + 3))) = 0 := by
  have : v = 0 ∨ v = 1 ∨ v = 2 ∨ v = 3 ∨ v = 4 ∨ v = 5 := by omega
  rcases this with e | e | e | e | e | e <;> rw [e] <;> exact ⟨h.i rfl rfl, h.i rfl rfl, h.i rfl rfl, h.i rfl rfl⟩
theorem one_id {v a b : Int} (ha : a = 1) (hb : b = 1) (hv : 0 ≤ v ∧ v ≤ 99999) : wl (Int.tdiv (wl (v * a)) b) = v := by
  have h1 : wl v = v := wl_id (by unfold lR; omega)
  rw [ha, hb, Int.mul_one, h1, Int.tdiv_one, h1]
section L
variable {G : pG} {d : Nat} {F : pF} {I : pI} {Q : Option pV → pF → pI → Prop}
theorem m_limit (hF : FS F) (hX : FXm I) {v0 v1 : Int} (rv0 : iR v0) (rv1 : iR v1) (hQ : ∀ F' I', Q (some (vi (fx_limit v0 v1))) F' I') : CallN G (d + 12) kX12_limit [vr 235, vi v0, vi v1] NP F I Q := by
  unfold iR at *
  have hl : 0 ≤ v0 ∧ v0 ≤ 4 → I 236 (Int.toNat (wr (4 + v0))) = lim0 v0 := fun h => by rw [show wr (4 + v0) = v0 + 4 by unfold wr; omega]; exact lim0_m hX h
  have hm : 0 ≤ v0 ∧ v0 ≤ 4 → I 239 (Int.toNat v0) = most0 v0 := fun h => most0_m hX h
  refine Call_wp (lv := [some (vr 235), some (vi v0), some (vi v1)]) (by decide) ckX12_limit [] rfl rfl ?_
  refine s_X12_within (fun (w1 : ((0 : Int) ≤ v0 ∧ (v0 : Int) ≤ 4)) => ?_) (fun (w1 : ¬ ((0 : Int) ≤ v0 ∧ (v0 : Int) ≤ 4)) => ?_)
  ·
    refine ⟨fun c => absurd c (show (¬ ((1 : Int) = 0)) from by decide), fun _ => ?_⟩
    refine ⟨_, rfl, (by decide), ?_⟩
    refine fun w0 hw0 => ?_; obtain rfl : w0 = some 239 := hw0.symm.trans (FS.g hF rfl)
    refine ⟨_, rfl, (by decide), (by first | omega | (simp only [wr, wl] at *; omega)), (by first | omega | (simp only [wr, wl] at *; omega)), ?_⟩
    refine s_X12_within (fun (w2 : ((0 : Int) ≤ v1 ∧ (v1 : Int) ≤ (I 239 (Int.toNat v0)))) => ?_) (fun (w2 : ¬ ((0 : Int) ≤ v1 ∧ (v1 : Int) ≤ (I 239 (Int.toNat v0)))) => ?_)
    ·
      refine ⟨fun c => absurd c (show (¬ ((1 : Int) = 0)) from by decide), fun _ => ?_⟩
      refine ⟨⟨_, rfl, (by decide)⟩, ?_⟩
      refine Call_wp (lv := [some (vr 235), some (vi (wr (4 + v0))), some (vi v1), none]) (by decide) ckX12_become [] rfl rfl ?_
      refine ⟨_, rfl, (by decide), ?_⟩
      refine fun w0 hw0 => ?_; obtain rfl : w0 = some 236 := hw0.symm.trans (FS.g hF rfl)
      have n3 : (wr (4 + v0)) = 4 + v0 := wr_id (show -2147483648 ≤ (4 + v0 : Int) ∧ (4 + v0 : Int) < 2147483648 from by omega)
      refine ⟨_, rfl, (by decide), (show (0 : Int) ≤ (wr (4 + v0)) from by first | omega | (simp only [wr, wl] at *; omega)), (show (wr (4 + v0)) < (1340 : Int) from by first | omega | (simp only [wr, wl] at *; omega)), ?_⟩
      refine ⟨_, rfl, (by decide), ?_⟩
      refine fun w0 hw0 => ?_; obtain rfl : w0 = some 236 := hw0.symm.trans (FS.g hF rfl)
      refine ⟨_, rfl, (by decide), (show (0 : Int) ≤ (wr (4 + v0)) from by first | omega | (simp only [wr, wl] at *; omega)), (show (wr (4 + v0)) < (1340 : Int) from by first | omega | (simp only [wr, wl] at *; omega)), ?_⟩
      refine ⟨rfl, ?_⟩
      have e : fx_limit v0 v1 = (I 236 (Int.toNat (wr (4 + v0)))) := by (unfold fx_limit; (repeat' split) <;> first | rfl | omega | (simp only [wr, wl] at *; omega))
      rw [e] at hQ
      exact ⟨rfl, hQ _ _⟩
    ·
      refine ⟨fun _ => ?_, fun c => absurd (show ((0 : Int) = 0) from by decide) c⟩
      refine ⟨⟨_, rfl, (by decide)⟩, ?_⟩
      refine s_X12_finding hF (v := (-1000001)) (by decide) ?_
      have r4 : (I 238 1) = 0 := (hX.i rfl rfl)
      have e : fx_limit v0 v1 = (-1000001) := by (unfold fx_limit; (repeat' split) <;> first | rfl | omega | (simp only [wr, wl] at *; omega))
      rw [e] at hQ
      exact ⟨rfl, hQ _ _⟩
  ·
    refine ⟨fun _ => ?_, fun c => absurd (show ((0 : Int) = 0) from by decide) c⟩
    refine ⟨⟨_, rfl, (by decide)⟩, ?_⟩
    refine s_X12_finding hF (v := (-1000001)) (by decide) ?_
    have r5 : (I 238 1) = 0 := (hX.i rfl rfl)
    have e : fx_limit v0 v1 = (-1000001) := by (unfold fx_limit; (repeat' split) <;> first | rfl | omega | (simp only [wr, wl] at *; omega))
    rw [e] at hQ
    exact ⟨rfl, hQ _ _⟩
theorem s_X2_ledOnce0 (hF : FS F) {m v : Int} (hu : I 9 (Int.toNat m) = 1) (hd : I 10 (Int.toNat m) = 1) (hm : 1 ≤ m ∧ m ≤ 5) (hv : 0 ≤ v ∧ v ≤ 99999) (hQ : Q (some (vl v)) F I) : CallN G (d + 5) kX2_ledOnce [vr 7, vi m, vl v] NP F I Q := by
  have hx := one_id hu hd hv
  refine Call_wp (lv := [some (vr 7), some (vi m), some (vl v), none]) (by decide) ckX2_ledOnce [] rfl rfl ?_
  refine s_X11_isMeter (fun _ => ?_) (fun hw => absurd (show ((0 : Int) ≤ m ∧ (m : Int) ≤ 5) from by first | omega | (simp only [wr, wl] at *; omega)) hw)
  refine ⟨fun c => absurd c (show (¬ ((1 : Int) = 0)) from by decide), fun _ => ?_⟩
  refine ⟨_, rfl, (by decide), ?_⟩
  refine fun w0 hw0 => ?_; obtain rfl : w0 = some 10 := hw0.symm.trans (FS.g hF rfl)
  refine ⟨_, rfl, (by decide), (by first | omega | (simp only [wr, wl] at *; omega)), (by first | omega | (simp only [wr, wl] at *; omega)), ?_⟩
  have r1 : (I 10 (Int.toNat m)) = 1 := (by omega)
  refine ⟨fun _ => ?_, fun c => absurd (show ((1 : Int) ≤ (I 10 (Int.toNat m))) from by first | omega | (simp only [wr, wl] at *; omega)) c⟩
  refine ⟨_, rfl, (by decide), ?_⟩
  refine fun w0 hw0 => ?_; obtain rfl : w0 = some 9 := hw0.symm.trans (FS.g hF rfl)
  refine ⟨_, rfl, (by decide), (by first | omega | (simp only [wr, wl] at *; omega)), (by first | omega | (simp only [wr, wl] at *; omega)), ?_⟩
  have r2 : (I 9 (Int.toNat m)) = 1 := (by omega)
  refine ⟨_, rfl, (by decide), ?_⟩
  refine fun w0 hw0 => ?_; obtain rfl : w0 = some 10 := hw0.symm.trans (FS.g hF rfl)
  refine ⟨_, rfl, (by decide), (by first | omega | (simp only [wr, wl] at *; omega)), (by first | omega | (simp only [wr, wl] at *; omega)), ?_⟩
  refine ⟨(by first | omega | (simp only [wr, wl] at *; omega)), ?_⟩
  refine Call_wp (lv := [some (vl 2000000000), none, some (vl (wl (Int.tdiv (wl (v * (I 9 (Int.toNat m)))) (I 10 (Int.toNat m))))), none]) (by decide) ckJ9_min_f86c9 [] rfl rfl ?_
  refine ⟨fun _ => ?_, fun c => absurd (lcm_gt.2 (show (((wl (Int.tdiv (wl (v * (I 9 (Int.toNat m)))) (I 10 (Int.toNat m)))) : Int) < 2000000000) from by first | omega | (simp only [wr, wl] at *; omega))) c⟩
  refine ⟨rfl, ?_⟩
  rw [← hx] at hQ
  exact ⟨rfl, hQ⟩
theorem x_led (hF : FS F) (hX : FX I) {v0 v1 v2 : Int} (rv0 : iR v0) (rv1 : iR v1) (rv2 : iR v2) (hQ : ∀ F' I', FS F' → MS I I' → Q (some (vi (fx_led v0 v1 v2))) F' I') : CallN G (d + 12) kX11_led [vr 0, vi v0, vi v1, vi v2] NP F I Q := by
  unfold iR at *
  refine Call_wp (lv := [some (vr 0), some (vi v0), some (vi v1), some (vi v2)]) (by decide) ckX11_led [] rfl rfl ?_
  refine s_X11_isMeter (fun (w1 : ((0 : Int) ≤ v0 ∧ (v0 : Int) ≤ 5)) => ?_) (fun (w1 : ¬ ((0 : Int) ≤ v0 ∧ (v0 : Int) ≤ 5)) => ?_)
  ·
    refine ⟨fun c => absurd c (show (¬ ((1 : Int) = 0)) from by decide), fun _ => ?_⟩
    refine s_X11_within (fun (w2 : ((0 : Int) ≤ v1 ∧ (v1 : Int) ≤ 99999)) => ?_) (fun (w2 : ¬ ((0 : Int) ≤ v1 ∧ (v1 : Int) ≤ 99999)) => ?_)
    ·
      refine ⟨fun c => absurd c (show (¬ ((1 : Int) = 0)) from by decide), fun _ => ?_⟩
      refine s_X11_within (fun (w3 : ((0 : Int) ≤ v2 ∧ (v2 : Int) ≤ 1)) => ?_) (fun (w3 : ¬ ((0 : Int) ≤ v2 ∧ (v2 : Int) ≤ 1)) => ?_)
      ·
        refine ⟨fun _ => ?_, fun c => absurd c (show (¬ (1 : Int) = 0) from by decide)⟩
        refine ⟨fun (c4 : (¬ (v2 : Int) = 0)) => ?_, fun (c4 : ((v2 : Int) = 0)) => ?_⟩
        ·
          refine ⟨_, rfl, (by decide), ?_⟩
          refine fun w0 hw0 => ?_; obtain rfl : w0 = some 1 := hw0.symm.trans (FS.g hF rfl)
          refine ⟨_, rfl, (by decide), ?_⟩
          refine fun w0 hw0 => ?_; obtain rfl : w0 = some 7 := hw0.symm.trans (FS.g hF rfl)
          refine ⟨⟨_, rfl, (by decide)⟩, ?_⟩
          refine Call_wp (lv := [some (vr 7), some (vi v0), none, none, none, none]) (by decide) ckX2_doubtOf [] rfl rfl ?_
          refine ⟨fun c => absurd c (show (¬ ((6 : Int) ≤ 0)) from by decide), fun _ => ?_⟩
          refine ⟨fun (c5 : ((v0 : Int) ≤ 0)) => ?_, fun (c5 : (¬ ((v0 : Int) ≤ 0))) => ?_⟩
          ·
            refine Call_wp (lv := [some (vl 2000000000), none, some (vl 0), none]) (by decide) ckJ9_min_f86c9 [] rfl rfl ?_
            refine ⟨fun _ => ?_, fun c => absurd (show ((0 : Int) < 1) from by decide) c⟩
            refine ⟨rfl, ?_⟩
            refine ⟨rfl, ?_⟩
            have e : fx_led v0 v1 v2 = 0 := by (unfold fx_led; (repeat' split) <;> first | rfl | omega | (simp only [wr, wl] at *; omega))
            rw [e] at hQ
            exact ⟨rfl, hQ _ _ hF MS.r⟩
          ·
            refine s_X11_isMeter (fun _ => ?_) (fun hw => absurd (show ((0 : Int) ≤ v0 ∧ (v0 : Int) ≤ 5) from by first | omega | (simp only [wr, wl] at *; omega)) hw)
            refine ⟨fun c => absurd c (show (¬ ((1 : Int) = 0)) from by decide), fun _ => ?_⟩
            refine ⟨_, rfl, (by decide), ?_⟩
            refine fun w0 hw0 => ?_; obtain rfl : w0 = some 11 := hw0.symm.trans (FS.g hF rfl)
            refine ⟨_, rfl, (by decide), (by first | omega | (simp only [wr, wl] at *; omega)), (by first | omega | (simp only [wr, wl] at *; omega)), ?_⟩
            have r6 : (I 11 (Int.toNat v0)) = 0 := (FX_r hX 11 0 1 5 rfl v0 (by omega) (by omega))
            refine ⟨⟨_, rfl, (by decide)⟩, ?_⟩
            refine Call_wp (lv := [some (vr 7), some (vi v0), some (vi (I 11 (Int.toNat v0))), none, none, none, none]) (by decide) ckX2_ledToHouse [] rfl rfl ?_
            refine ⟨fun c => absurd c (show (¬ ((6 : Int) ≤ 0)) from by decide), fun _ => ?_⟩
            refine ⟨fun c => absurd c (show (¬ ((v0 : Int) ≤ 0)) from by first | omega | (simp only [wr, wl] at *; omega)), fun _ => ?_⟩
            refine ⟨⟨_, rfl, (by decide)⟩, ?_⟩
            have r7 : (I 9 (Int.toNat v0)) = 1 := (FX_r hX 9 1 1 5 rfl v0 (by omega) (by omega))
            have r8 : (I 10 (Int.toNat v0)) = 1 := (FX_r hX 10 1 1 5 rfl v0 (by omega) (by omega))
            refine s_X2_ledOnce0 hF (m := v0) (v := (I 11 (Int.toNat v0))) (by first | omega | assumption) (by first | omega | assumption) (by omega) (by omega) ?_
            refine ⟨⟨_, rfl, (by decide)⟩, ?_⟩
            refine Call_wp (lv := [some (vr 7), some (vi v0)]) (by decide) ckX2_otherOf [] rfl rfl ?_
            refine s_X11_isMeter (fun _ => ?_) (fun hw => absurd (show ((0 : Int) ≤ v0 ∧ (v0 : Int) ≤ 5) from by first | omega | (simp only [wr, wl] at *; omega)) hw)
            refine ⟨fun c => absurd c (show (¬ ((1 : Int) = 0)) from by decide), fun _ => ?_⟩
            refine ⟨_, rfl, (by decide), ?_⟩
            refine fun w0 hw0 => ?_; obtain rfl : w0 = some 8 := hw0.symm.trans (FS.g hF rfl)
            refine ⟨_, rfl, (by decide), (by first | omega | (simp only [wr, wl] at *; omega)), (by first | omega | (simp only [wr, wl] at *; omega)), ?_⟩
            have r9 : (I 8 (Int.toNat v0)) = 0 := (FX_r hX 8 0 1 5 rfl v0 (by omega) (by omega))
            refine ⟨rfl, ?_⟩
            refine ⟨fun c => absurd c (show (¬ ((6 : Int) ≤ 1)) from by decide), fun _ => ?_⟩
            refine ⟨fun _ => ?_, fun c => absurd (show (((I 8 (Int.toNat v0)) : Int) ≤ 0) from by first | omega | (simp only [wr, wl] at *; omega)) c⟩
            refine ⟨rfl, ?_⟩
            refine ⟨⟨_, rfl, (by decide)⟩, ?_⟩
            refine Call_wp (lv := [some (vr 7), some (vi v0)]) (by decide) ckX2_otherOf [] rfl rfl ?_
            refine s_X11_isMeter (fun _ => ?_) (fun hw => absurd (show ((0 : Int) ≤ v0 ∧ (v0 : Int) ≤ 5) from by first | omega | (simp only [wr, wl] at *; omega)) hw)
            refine ⟨fun c => absurd c (show (¬ ((1 : Int) = 0)) from by decide), fun _ => ?_⟩
            refine ⟨_, rfl, (by decide), ?_⟩
            refine fun w0 hw0 => ?_; obtain rfl : w0 = some 8 := hw0.symm.trans (FS.g hF rfl)
            refine ⟨_, rfl, (by decide), (by first | omega | (simp only [wr, wl] at *; omega)), (by first | omega | (simp only [wr, wl] at *; omega)), ?_⟩
            refine ⟨rfl, ?_⟩
            refine ⟨fun c => absurd c (show (¬ ((6 : Int) ≤ 1)) from by decide), fun _ => ?_⟩
            refine ⟨fun _ => ?_, fun c => absurd (show (((I 8 (Int.toNat v0)) : Int) ≤ 0) from by first | omega | (simp only [wr, wl] at *; omega)) c⟩
            refine Call_wp (lv := [some (vl 2000000000), none, some (vl (wl (0 + (wr (I 11 (Int.toNat v0)))))), none]) (by decide) ckJ9_min_f86c9 [] rfl rfl ?_
            have n10 : (wr (I 11 (Int.toNat v0))) = (I 11 (Int.toNat v0)) := wr_id (show -2147483648 ≤ ((I 11 (Int.toNat v0)) : Int) ∧ ((I 11 (Int.toNat v0)) : Int) < 2147483648 from by omega)
            have n11 : (wl (0 + (wr (I 11 (Int.toNat v0))))) = 0 + (wr (I 11 (Int.toNat v0))) := wl_id (show -9223372036854775808 ≤ (0 + (wr (I 11 (Int.toNat v0))) : Int) ∧ (0 + (wr (I 11 (Int.toNat v0))) : Int) < 9223372036854775808 from by omega)
            refine ⟨fun _ => ?_, fun c => absurd (lcm_gt.2 (show (((wl (0 + (wr (I 11 (Int.toNat v0))))) : Int) < 2000000000) from by first | omega | (simp only [wr, wl] at *; omega))) c⟩
            refine ⟨rfl, ?_⟩
            refine ⟨rfl, ?_⟩
            have e : fx_led v0 v1 v2 = (wr (wl (0 + (wr (I 11 (Int.toNat v0)))))) := by (unfold fx_led; (repeat' split) <;> first | rfl | omega | (simp only [wr, wl] at *; omega))
            rw [e] at hQ
            exact ⟨rfl, hQ _ _ hF MS.r⟩
        ·
          refine ⟨_, rfl, (by decide), ?_⟩
          refine fun w0 hw0 => ?_; obtain rfl : w0 = some 1 := hw0.symm.trans (FS.g hF rfl)
          refine ⟨_, rfl, (by decide), ?_⟩
          refine fun w0 hw0 => ?_; obtain rfl : w0 = some 7 := hw0.symm.trans (FS.g hF rfl)
          refine ⟨⟨_, rfl, (by decide)⟩, ?_⟩
          refine Call_wp (lv := [some (vr 7), some (vi v0), some (vi v1), none, none, none, none]) (by decide) ckX2_ledToHouse [] rfl rfl ?_
          refine ⟨fun c => absurd c (show (¬ ((6 : Int) ≤ 0)) from by decide), fun _ => ?_⟩
          refine ⟨fun (c12 : ((v0 : Int) ≤ 0)) => ?_, fun (c12 : (¬ ((v0 : Int) ≤ 0))) => ?_⟩
          ·
            refine ⟨rfl, ?_⟩
            have e : fx_led v0 v1 v2 = (wr v1) := by (unfold fx_led; (repeat' split) <;> first | rfl | omega | (simp only [wr, wl] at *; omega))
            rw [e] at hQ
            exact ⟨rfl, hQ _ _ hF MS.r⟩
          ·
            refine ⟨⟨_, rfl, (by decide)⟩, ?_⟩
            have r13 : (I 9 (Int.toNat v0)) = 1 := (FX_r hX 9 1 1 5 rfl v0 (by omega) (by omega))
            have r14 : (I 10 (Int.toNat v0)) = 1 := (FX_r hX 10 1 1 5 rfl v0 (by omega) (by omega))
            refine s_X2_ledOnce0 hF (m := v0) (v := v1) (by first | omega | assumption) (by first | omega | assumption) (by omega) (by omega) ?_
            refine ⟨⟨_, rfl, (by decide)⟩, ?_⟩
            refine Call_wp (lv := [some (vr 7), some (vi v0)]) (by decide) ckX2_otherOf [] rfl rfl ?_
            refine s_X11_isMeter (fun _ => ?_) (fun hw => absurd (show ((0 : Int) ≤ v0 ∧ (v0 : Int) ≤ 5) from by first | omega | (simp only [wr, wl] at *; omega)) hw)
            refine ⟨fun c => absurd c (show (¬ ((1 : Int) = 0)) from by decide), fun _ => ?_⟩
            refine ⟨_, rfl, (by decide), ?_⟩
            refine fun w0 hw0 => ?_; obtain rfl : w0 = some 8 := hw0.symm.trans (FS.g hF rfl)
            refine ⟨_, rfl, (by decide), (by first | omega | (simp only [wr, wl] at *; omega)), (by first | omega | (simp only [wr, wl] at *; omega)), ?_⟩
            have r15 : (I 8 (Int.toNat v0)) = 0 := (FX_r hX 8 0 1 5 rfl v0 (by omega) (by omega))
            refine ⟨rfl, ?_⟩
            refine ⟨fun c => absurd c (show (¬ ((6 : Int) ≤ 1)) from by decide), fun _ => ?_⟩
            refine ⟨fun _ => ?_, fun c => absurd (show (((I 8 (Int.toNat v0)) : Int) ≤ 0) from by first | omega | (simp only [wr, wl] at *; omega)) c⟩
            refine ⟨rfl, ?_⟩
            have e : fx_led v0 v1 v2 = (wr v1) := by (unfold fx_led; (repeat' split) <;> first | rfl | omega | (simp only [wr, wl] at *; omega))
            rw [e] at hQ
            exact ⟨rfl, hQ _ _ hF MS.r⟩
      ·
        refine ⟨fun c => absurd (show ((0 : Int) = 0) from by decide) c, fun _ => ?_⟩
        refine ⟨⟨_, rfl, (by decide)⟩, ?_⟩
        refine s_X11_refuse hF (e := 1) (by decide) ?_
        have r16 : (I 203 1) = 0 := (hX.i rfl)
        have e : fx_led v0 v1 v2 = (-1000001) := by (unfold fx_led; (repeat' split) <;> first | rfl | omega | (simp only [wr, wl] at *; omega))
        rw [e] at hQ
        exact ⟨rfl, hQ _ _ hF (MS.u MS.r (by decide))⟩
    ·
      refine ⟨fun _ => ?_, fun c => absurd (show ((0 : Int) = 0) from by decide) c⟩
      refine ⟨⟨_, rfl, (by decide)⟩, ?_⟩
      refine s_X11_refuse hF (e := 1) (by decide) ?_
      have r17 : (I 203 1) = 0 := (hX.i rfl)
      have e : fx_led v0 v1 v2 = (-1000001) := by (unfold fx_led; (repeat' split) <;> first | rfl | omega | (simp only [wr, wl] at *; omega))
      rw [e] at hQ
      exact ⟨rfl, hQ _ _ hF (MS.u MS.r (by decide))⟩
  ·
    refine ⟨fun _ => ?_, fun c => absurd (show ((0 : Int) = 0) from by decide) c⟩
    refine ⟨⟨_, rfl, (by decide)⟩, ?_⟩
    refine s_X11_refuse hF (e := 1) (by decide) ?_
    have r18 : (I 203 1) = 0 := (hX.i rfl)
    have e : fx_led v0 v1 v2 = (-1000001) := by (unfold fx_led; (repeat' split) <;> first | rfl | omega | (simp only [wr, wl] at *; omega))
    rw [e] at hQ
    exact ⟨rfl, hQ _ _ hF (MS.u MS.r (by decide))⟩
theorem m_ledOf0 (hF : FS F) (hX : FXm I) {m v : Int} (hm : 0 ≤ m ∧ m ≤ 5) (hv : 0 ≤ v ∧ v ≤ 99999) (hQ : Q (some (vi v)) F I) : CallN G (d + 5) kX12_ledOf [vr 235, vi m, vi v] NP F I Q := by
  have hx := one_id (mrow hX hm).2.1 (mrow hX hm).2.2.1 hv
  refine Call_wp (lv := [some (vr 235), some (vi m), some (vi v), none, none, none]) (by decide) ckX12_ledOf [] rfl rfl ?_
  refine ⟨fun (c1 : ((m : Int) ≤ 0)) => ?_, fun (c1 : (¬ ((m : Int) ≤ 0))) => ?_⟩
  ·
    have e : v = (wr v) := by first | omega | (simp only [wr, wl] at *; omega)
    rw [e] at hQ
    exact ⟨rfl, hQ⟩
  ·
    refine ⟨⟨_, rfl, (by decide)⟩, ?_⟩
    refine Call_wp (lv := [some (vr 235), some (vi m), some (vi 1)]) (by decide) ckX12_meter [] rfl rfl ?_
    refine ⟨_, rfl, (by decide), ?_⟩
    refine fun w0 hw0 => ?_; obtain rfl : w0 = some 236 := hw0.symm.trans (FS.g hF rfl)
    have n2 : (wr (4 * m)) = 4 * m := wr_id (show -2147483648 ≤ (4 * m : Int) ∧ (4 * m : Int) < 2147483648 from by omega)
    have n3 : (wr (16 + (wr (4 * m)))) = 16 + (wr (4 * m)) := wr_id (show -2147483648 ≤ (16 + (wr (4 * m)) : Int) ∧ (16 + (wr (4 * m)) : Int) < 2147483648 from by omega)
    have n4 : (wr ((wr (16 + (wr (4 * m)))) + 1)) = (wr (16 + (wr (4 * m)))) + 1 := wr_id (show -2147483648 ≤ ((wr (16 + (wr (4 * m)))) + 1 : Int) ∧ ((wr (16 + (wr (4 * m)))) + 1 : Int) < 2147483648 from by omega)
    refine ⟨_, rfl, (by decide), (show (0 : Int) ≤ (wr ((wr (16 + (wr (4 * m)))) + 1)) from by first | omega | (simp only [wr, wl] at *; omega)), (show (wr ((wr (16 + (wr (4 * m)))) + 1)) < (1340 : Int) from by first | omega | (simp only [wr, wl] at *; omega)), ?_⟩
    have r5 : (I 236 (Int.toNat (wr ((wr (16 + (wr (4 * m)))) + 1)))) = 1 := (mrow hX (by omega)).2.1
    refine ⟨rfl, ?_⟩
    refine ⟨⟨_, rfl, (by decide)⟩, ?_⟩
    refine Call_wp (lv := [some (vr 235), some (vi m), some (vi 2)]) (by decide) ckX12_meter [] rfl rfl ?_
    refine ⟨_, rfl, (by decide), ?_⟩
    refine fun w0 hw0 => ?_; obtain rfl : w0 = some 236 := hw0.symm.trans (FS.g hF rfl)
    have n6 : (wr ((wr (16 + (wr (4 * m)))) + 2)) = (wr (16 + (wr (4 * m)))) + 2 := wr_id (show -2147483648 ≤ ((wr (16 + (wr (4 * m)))) + 2 : Int) ∧ ((wr (16 + (wr (4 * m)))) + 2 : Int) < 2147483648 from by omega)
    refine ⟨_, rfl, (by decide), (show (0 : Int) ≤ (wr ((wr (16 + (wr (4 * m)))) + 2)) from by first | omega | (simp only [wr, wl] at *; omega)), (show (wr ((wr (16 + (wr (4 * m)))) + 2)) < (1340 : Int) from by first | omega | (simp only [wr, wl] at *; omega)), ?_⟩
    have r7 : (I 236 (Int.toNat (wr ((wr (16 + (wr (4 * m)))) + 2)))) = 1 := (mrow hX (by omega)).2.2.1
    refine ⟨rfl, ?_⟩
    refine ⟨(by first | omega | (simp only [wr, wl] at *; omega)), ?_⟩
    refine Call_wp (lv := [some (vl 2000000000), none, some (vl (wl (Int.tdiv (wl (v * (I 236 (Int.toNat (wr ((wr (16 + (wr (4 * m)))) + 1)))))) (I 236 (Int.toNat (wr ((wr (16 + (wr (4 * m)))) + 2))))))), none]) (by decide) ckJ9_min_f86c9 [] rfl rfl ?_
    refine ⟨fun _ => ?_, fun c => absurd (lcm_gt.2 (show (((wl (Int.tdiv (wl (v * (I 236 (Int.toNat (wr ((wr (16 + (wr (4 * m)))) + 1)))))) (I 236 (Int.toNat (wr ((wr (16 + (wr (4 * m)))) + 2)))))) : Int) < 2000000000) from by first | omega | (simp only [wr, wl] at *; omega))) c⟩
    refine ⟨rfl, ?_⟩
    refine ⟨⟨_, rfl, (by decide)⟩, ?_⟩
    refine Call_wp (lv := [some (vr 235), some (vi m), some (vi 0)]) (by decide) ckX12_meter [] rfl rfl ?_
    refine ⟨_, rfl, (by decide), ?_⟩
    refine fun w0 hw0 => ?_; obtain rfl : w0 = some 236 := hw0.symm.trans (FS.g hF rfl)
    have n8 : (wr ((wr (16 + (wr (4 * m)))) + 0)) = (wr (16 + (wr (4 * m)))) + 0 := wr_id (show -2147483648 ≤ ((wr (16 + (wr (4 * m)))) + 0 : Int) ∧ ((wr (16 + (wr (4 * m)))) + 0 : Int) < 2147483648 from by omega)
    refine ⟨_, rfl, (by decide), (show (0 : Int) ≤ (wr ((wr (16 + (wr (4 * m)))) + 0)) from by first | omega | (simp only [wr, wl] at *; omega)), (show (wr ((wr (16 + (wr (4 * m)))) + 0)) < (1340 : Int) from by first | omega | (simp only [wr, wl] at *; omega)), ?_⟩
    have r9 : (I 236 (Int.toNat (wr ((wr (16 + (wr (4 * m)))) + 0)))) = 0 := (mrow hX (by omega)).1
    refine ⟨rfl, ?_⟩
    refine ⟨fun _ => ?_, fun c => absurd (show (((I 236 (Int.toNat (wr ((wr (16 + (wr (4 * m)))) + 0)))) : Int) ≤ 0) from by first | omega | (simp only [wr, wl] at *; omega)) c⟩
    have e : v = (wr (wl (Int.tdiv (wl (v * (I 236 (Int.toNat (wr ((wr (16 + (wr (4 * m)))) + 1)))))) (I 236 (Int.toNat (wr ((wr (16 + (wr (4 * m)))) + 2))))))) := by first | omega | (simp only [wr, wl] at *; omega)
    rw [e] at hQ
    exact ⟨rfl, hQ⟩
theorem m_led (hF : FS F) (hX : FXm I) {v0 v1 v2 : Int} (rv0 : iR v0) (rv1 : iR v1) (rv2 : iR v2) (hQ : ∀ F' I', Q (some (vi (fx_led v0 v1 v2))) F' I') : CallN G (d + 12) kX12_led [vr 235, vi v0, vi v1, vi v2] NP F I Q := by
  unfold iR at *
  refine Call_wp (lv := [some (vr 235), some (vi v0), some (vi v1), some (vi v2), none, none, none]) (by decide) ckX12_led [] rfl rfl ?_
  refine s_X12_isMeter (fun (w1 : ((0 : Int) ≤ v0 ∧ (v0 : Int) ≤ 5)) => ?_) (fun (w1 : ¬ ((0 : Int) ≤ v0 ∧ (v0 : Int) ≤ 5)) => ?_)
  ·
    refine ⟨fun c => absurd c (show (¬ ((1 : Int) = 0)) from by decide), fun _ => ?_⟩
    refine s_X12_within (fun (w2 : ((0 : Int) ≤ v1 ∧ (v1 : Int) ≤ 99999)) => ?_) (fun (w2 : ¬ ((0 : Int) ≤ v1 ∧ (v1 : Int) ≤ 99999)) => ?_)
    ·
      refine ⟨fun c => absurd c (show (¬ ((1 : Int) = 0)) from by decide), fun _ => ?_⟩
      refine s_X12_within (fun (w3 : ((0 : Int) ≤ v2 ∧ (v2 : Int) ≤ 1)) => ?_) (fun (w3 : ¬ ((0 : Int) ≤ v2 ∧ (v2 : Int) ≤ 1)) => ?_)
      ·
        refine ⟨fun _ => ?_, fun c => absurd c (show (¬ (1 : Int) = 0) from by decide)⟩
        refine ⟨fun (c4 : ((v0 : Int) ≤ 0)) => ?_, fun (c4 : (¬ ((v0 : Int) ≤ 0))) => ?_⟩
        ·
          refine ⟨fun (c5 : (¬ (v2 : Int) = 0)) => ?_, fun (c5 : ((v2 : Int) = 0)) => ?_⟩
          ·
            refine Call_wp (lv := [some (vl 2000000000), none, some (vl 0), none]) (by decide) ckJ9_min_f86c9 [] rfl rfl ?_
            refine ⟨fun _ => ?_, fun c => absurd (show ((0 : Int) < 1) from by decide) c⟩
            refine ⟨rfl, ?_⟩
            have e : fx_led v0 v1 v2 = 0 := by (unfold fx_led; (repeat' split) <;> first | rfl | omega | (simp only [wr, wl] at *; omega))
            rw [e] at hQ
            exact ⟨rfl, hQ _ _⟩
          ·
            refine ⟨⟨_, rfl, (by decide)⟩, ?_⟩
            refine m_ledOf0 hF hX (m := v0) (v := v1) (by omega) (by omega) ?_
            have e : fx_led v0 v1 v2 = v1 := by (unfold fx_led; (repeat' split) <;> first | rfl | omega | (simp only [wr, wl] at *; omega))
            rw [e] at hQ
            exact ⟨rfl, hQ _ _⟩
        ·
          refine ⟨⟨_, rfl, (by decide)⟩, ?_⟩
          refine Call_wp (lv := [some (vr 235), some (vi v0), some (vi 3)]) (by decide) ckX12_meter [] rfl rfl ?_
          refine ⟨_, rfl, (by decide), ?_⟩
          refine fun w0 hw0 => ?_; obtain rfl : w0 = some 236 := hw0.symm.trans (FS.g hF rfl)
          have n6 : (wr (4 * v0)) = 4 * v0 := wr_id (show -2147483648 ≤ (4 * v0 : Int) ∧ (4 * v0 : Int) < 2147483648 from by omega)
          have n7 : (wr (16 + (wr (4 * v0)))) = 16 + (wr (4 * v0)) := wr_id (show -2147483648 ≤ (16 + (wr (4 * v0)) : Int) ∧ (16 + (wr (4 * v0)) : Int) < 2147483648 from by omega)
          have n8 : (wr ((wr (16 + (wr (4 * v0)))) + 3)) = (wr (16 + (wr (4 * v0)))) + 3 := wr_id (show -2147483648 ≤ ((wr (16 + (wr (4 * v0)))) + 3 : Int) ∧ ((wr (16 + (wr (4 * v0)))) + 3 : Int) < 2147483648 from by omega)
          refine ⟨_, rfl, (by decide), (show (0 : Int) ≤ (wr ((wr (16 + (wr (4 * v0)))) + 3)) from by first | omega | (simp only [wr, wl] at *; omega)), (show (wr ((wr (16 + (wr (4 * v0)))) + 3)) < (1340 : Int) from by first | omega | (simp only [wr, wl] at *; omega)), ?_⟩
          have r9 : (I 236 (Int.toNat (wr ((wr (16 + (wr (4 * v0)))) + 3)))) = 0 := (mrow hX (by omega)).2.2.2
          refine ⟨rfl, ?_⟩
          refine ⟨⟨_, rfl, (by decide)⟩, ?_⟩
          refine m_ledOf0 hF hX (m := v0) (v := (I 236 (Int.toNat (wr ((wr (16 + (wr (4 * v0)))) + 3))))) (by omega) (by omega) ?_
          refine ⟨⟨_, rfl, (by decide)⟩, ?_⟩
          refine Call_wp (lv := [some (vr 235), some (vi v0), some (vi 0)]) (by decide) ckX12_meter [] rfl rfl ?_
          refine ⟨_, rfl, (by decide), ?_⟩
          refine fun w0 hw0 => ?_; obtain rfl : w0 = some 236 := hw0.symm.trans (FS.g hF rfl)
          have n10 : (wr ((wr (16 + (wr (4 * v0)))) + 0)) = (wr (16 + (wr (4 * v0)))) + 0 := wr_id (show -2147483648 ≤ ((wr (16 + (wr (4 * v0)))) + 0 : Int) ∧ ((wr (16 + (wr (4 * v0)))) + 0 : Int) < 2147483648 from by omega)
          refine ⟨_, rfl, (by decide), (show (0 : Int) ≤ (wr ((wr (16 + (wr (4 * v0)))) + 0)) from by first | omega | (simp only [wr, wl] at *; omega)), (show (wr ((wr (16 + (wr (4 * v0)))) + 0)) < (1340 : Int) from by first | omega | (simp only [wr, wl] at *; omega)), ?_⟩
          have r11 : (I 236 (Int.toNat (wr ((wr (16 + (wr (4 * v0)))) + 0)))) = 0 := (mrow hX (by omega)).1
          refine ⟨rfl, ?_⟩
          refine ⟨fun _ => ?_, fun c => absurd (show (((I 236 (Int.toNat (wr ((wr (16 + (wr (4 * v0)))) + 0)))) : Int) ≤ 0) from by first | omega | (simp only [wr, wl] at *; omega)) c⟩
          refine ⟨fun (c12 : (¬ (v2 : Int) = 0)) => ?_, fun (c12 : ((v2 : Int) = 0)) => ?_⟩
          ·
            refine Call_wp (lv := [some (vl 2000000000), none, some (vl (wl (0 + (I 236 (Int.toNat (wr ((wr (16 + (wr (4 * v0)))) + 3))))))), none]) (by decide) ckJ9_min_f86c9 [] rfl rfl ?_
            have n13 : (wl (0 + (I 236 (Int.toNat (wr ((wr (16 + (wr (4 * v0)))) + 3)))))) = 0 + (I 236 (Int.toNat (wr ((wr (16 + (wr (4 * v0)))) + 3)))) := wl_id (show -9223372036854775808 ≤ (0 + (I 236 (Int.toNat (wr ((wr (16 + (wr (4 * v0)))) + 3)))) : Int) ∧ (0 + (I 236 (Int.toNat (wr ((wr (16 + (wr (4 * v0)))) + 3)))) : Int) < 9223372036854775808 from by omega)
            refine ⟨fun _ => ?_, fun c => absurd (lcm_gt.2 (show (((wl (0 + (I 236 (Int.toNat (wr ((wr (16 + (wr (4 * v0)))) + 3)))))) : Int) < 2000000000) from by first | omega | (simp only [wr, wl] at *; omega))) c⟩
            refine ⟨rfl, ?_⟩
            have e : fx_led v0 v1 v2 = (wr (wl (0 + (I 236 (Int.toNat (wr ((wr (16 + (wr (4 * v0)))) + 3))))))) := by (unfold fx_led; (repeat' split) <;> first | rfl | omega | (simp only [wr, wl] at *; omega))
            rw [e] at hQ
            exact ⟨rfl, hQ _ _⟩
          ·
            refine ⟨⟨_, rfl, (by decide)⟩, ?_⟩
            refine m_ledOf0 hF hX (m := v0) (v := v1) (by omega) (by omega) ?_
            have e : fx_led v0 v1 v2 = v1 := by (unfold fx_led; (repeat' split) <;> first | rfl | omega | (simp only [wr, wl] at *; omega))
            rw [e] at hQ
            exact ⟨rfl, hQ _ _⟩
      ·
        refine ⟨fun c => absurd (show ((0 : Int) = 0) from by decide) c, fun _ => ?_⟩
        refine ⟨⟨_, rfl, (by decide)⟩, ?_⟩
        refine s_X12_finding hF (v := (-1000001)) (by decide) ?_
        have r14 : (I 238 1) = 0 := (hX.i rfl rfl)
        have e : fx_led v0 v1 v2 = (-1000001) := by (unfold fx_led; (repeat' split) <;> first | rfl | omega | (simp only [wr, wl] at *; omega))
        rw [e] at hQ
        exact ⟨rfl, hQ _ _⟩
    ·
      refine ⟨fun _ => ?_, fun c => absurd (show ((0 : Int) = 0) from by decide) c⟩
      refine ⟨⟨_, rfl, (by decide)⟩, ?_⟩
      refine s_X12_finding hF (v := (-1000001)) (by decide) ?_
      have r15 : (I 238 1) = 0 := (hX.i rfl rfl)
      have e : fx_led v0 v1 v2 = (-1000001) := by (unfold fx_led; (repeat' split) <;> first | rfl | omega | (simp only [wr, wl] at *; omega))
      rw [e] at hQ
      exact ⟨rfl, hQ _ _⟩
  ·
    refine ⟨fun _ => ?_, fun c => absurd (show ((0 : Int) = 0) from by decide) c⟩
    refine ⟨⟨_, rfl, (by decide)⟩, ?_⟩
    refine s_X12_finding hF (v := (-1000001)) (by decide) ?_
    have r16 : (I 238 1) = 0 := (hX.i rfl rfl)
    have e : fx_led v0 v1 v2 = (-1000001) := by (unfold fx_led; (repeat' split) <;> first | rfl | omega | (simp only [wr, wl] at *; omega))
    rw [e] at hQ
    exact ⟨rfl, hQ _ _⟩
set_option maxRecDepth 100000 in
theorem s_X7_become0 {q : Nat} (h1 : lay q = (7, 3)) (h2 : lay (q + 1) = (100, 24)) (h3 : F q 2 = some (q + 1)) (hq : q + 1 < 235) {b n : Int} (hQ : ∀ I', MS I I' → Q none F I') : CallN G (d + 5) kX7_become [vr q, vi b, vi n] NP F I Q := by
  refine Call_wp (lv := [some (vr q), some (vi b), some (vi n), none]) (by decide) ckX7_become [] rfl rfl ?_
  refine ⟨_, h1, (by show _ < 254; omega), ?_⟩
  refine ⟨fun (c1 : (¬ (b : Int) = 0)) => ?_, fun (c1 : ((b : Int) = 0)) => ?_⟩
  ·
    refine Call_wp (lv := [some (vi n), some (vi 24)]) (by decide) ckJ9_min_7cf53 [] rfl rfl ?_
    refine ⟨fun (c2 : ((24 : Int) < n)) => ?_, fun (c2 : (¬ ((24 : Int) < n))) => ?_⟩
    ·
      refine ⟨rfl, ?_⟩
      refine Call_wp (lv := [some (vi 0), some (vi 24)]) (by decide) ckJ9_max_7cf53 [] rfl rfl ?_
      refine ⟨fun _ => ?_, fun c => absurd (show ((0 : Int) < 24) from by decide) c⟩
      refine ⟨rfl, ?_⟩
      refine ⟨_, h1, (by show _ < 254; omega), ?_⟩
      refine ⟨fun c => absurd c (show (¬ ((24 : Int) ≤ 0)) from by decide), fun _ => ?_⟩
      refine ⟨_, h1, (by show _ < 254; omega), ?_⟩
      refine fun w0 hw0 => ?_; obtain rfl : w0 = some (q + 1) := hw0.symm.trans h3
      refine ⟨_, h2, (by show _ < 254; omega), (by decide), (by decide), ?_⟩
      refine ⟨fun c => absurd c (show (¬ ((24 : Int) ≤ 1)) from by decide), fun _ => ?_⟩
      refine ⟨_, h1, (by show _ < 254; omega), ?_⟩
      refine fun w0 hw0 => ?_; obtain rfl : w0 = some (q + 1) := hw0.symm.trans h3
      refine ⟨_, h2, (by show _ < 254; omega), (by decide), (by decide), ?_⟩
      refine ⟨fun c => absurd c (show (¬ ((24 : Int) ≤ 2)) from by decide), fun _ => ?_⟩
      refine ⟨_, h1, (by show _ < 254; omega), ?_⟩
      refine fun w0 hw0 => ?_; obtain rfl : w0 = some (q + 1) := hw0.symm.trans h3
      refine ⟨_, h2, (by show _ < 254; omega), (by decide), (by decide), ?_⟩
      refine ⟨fun c => absurd c (show (¬ ((24 : Int) ≤ 3)) from by decide), fun _ => ?_⟩
      refine ⟨_, h1, (by show _ < 254; omega), ?_⟩
      refine fun w0 hw0 => ?_; obtain rfl : w0 = some (q + 1) := hw0.symm.trans h3
      refine ⟨_, h2, (by show _ < 254; omega), (by decide), (by decide), ?_⟩
      refine ⟨fun c => absurd c (show (¬ ((24 : Int) ≤ 4)) from by decide), fun _ => ?_⟩
      refine ⟨_, h1, (by show _ < 254; omega), ?_⟩
      refine fun w0 hw0 => ?_; obtain rfl : w0 = some (q + 1) := hw0.symm.trans h3
      refine ⟨_, h2, (by show _ < 254; omega), (by decide), (by decide), ?_⟩
      refine ⟨fun c => absurd c (show (¬ ((24 : Int) ≤ 5)) from by decide), fun _ => ?_⟩
      refine ⟨_, h1, (by show _ < 254; omega), ?_⟩
      refine fun w0 hw0 => ?_; obtain rfl : w0 = some (q + 1) := hw0.symm.trans h3
      refine ⟨_, h2, (by show _ < 254; omega), (by decide), (by decide), ?_⟩
      refine ⟨fun c => absurd c (show (¬ ((24 : Int) ≤ 6)) from by decide), fun _ => ?_⟩
      refine ⟨_, h1, (by show _ < 254; omega), ?_⟩
      refine fun w0 hw0 => ?_; obtain rfl : w0 = some (q + 1) := hw0.symm.trans h3
      refine ⟨_, h2, (by show _ < 254; omega), (by decide), (by decide), ?_⟩
      refine ⟨fun c => absurd c (show (¬ ((24 : Int) ≤ 7)) from by decide), fun _ => ?_⟩
      refine ⟨_, h1, (by show _ < 254; omega), ?_⟩
      refine fun w0 hw0 => ?_; obtain rfl : w0 = some (q + 1) := hw0.symm.trans h3
      refine ⟨_, h2, (by show _ < 254; omega), (by decide), (by decide), ?_⟩
      refine ⟨fun c => absurd c (show (¬ ((24 : Int) ≤ 8)) from by decide), fun _ => ?_⟩
      refine ⟨_, h1, (by show _ < 254; omega), ?_⟩
      refine fun w0 hw0 => ?_; obtain rfl : w0 = some (q + 1) := hw0.symm.trans h3
      refine ⟨_, h2, (by show _ < 254; omega), (by decide), (by decide), ?_⟩
      refine ⟨fun c => absurd c (show (¬ ((24 : Int) ≤ 9)) from by decide), fun _ => ?_⟩
      refine ⟨_, h1, (by show _ < 254; omega), ?_⟩
      refine fun w0 hw0 => ?_; obtain rfl : w0 = some (q + 1) := hw0.symm.trans h3
      refine ⟨_, h2, (by show _ < 254; omega), (by decide), (by decide), ?_⟩
      refine ⟨fun c => absurd c (show (¬ ((24 : Int) ≤ 10)) from by decide), fun _ => ?_⟩
      refine ⟨_, h1, (by show _ < 254; omega), ?_⟩
      refine fun w0 hw0 => ?_; obtain rfl : w0 = some (q + 1) := hw0.symm.trans h3
      refine ⟨_, h2, (by show _ < 254; omega), (by decide), (by decide), ?_⟩
      refine ⟨fun c => absurd c (show (¬ ((24 : Int) ≤ 11)) from by decide), fun _ => ?_⟩
      refine ⟨_, h1, (by show _ < 254; omega), ?_⟩
      refine fun w0 hw0 => ?_; obtain rfl : w0 = some (q + 1) := hw0.symm.trans h3
      refine ⟨_, h2, (by show _ < 254; omega), (by decide), (by decide), ?_⟩
      refine ⟨fun c => absurd c (show (¬ ((24 : Int) ≤ 12)) from by decide), fun _ => ?_⟩
      refine ⟨_, h1, (by show _ < 254; omega), ?_⟩
      refine fun w0 hw0 => ?_; obtain rfl : w0 = some (q + 1) := hw0.symm.trans h3
      refine ⟨_, h2, (by show _ < 254; omega), (by decide), (by decide), ?_⟩
      refine ⟨fun c => absurd c (show (¬ ((24 : Int) ≤ 13)) from by decide), fun _ => ?_⟩
      refine ⟨_, h1, (by show _ < 254; omega), ?_⟩
      refine fun w0 hw0 => ?_; obtain rfl : w0 = some (q + 1) := hw0.symm.trans h3
      refine ⟨_, h2, (by show _ < 254; omega), (by decide), (by decide), ?_⟩
      refine ⟨fun c => absurd c (show (¬ ((24 : Int) ≤ 14)) from by decide), fun _ => ?_⟩
      refine ⟨_, h1, (by show _ < 254; omega), ?_⟩
      refine fun w0 hw0 => ?_; obtain rfl : w0 = some (q + 1) := hw0.symm.trans h3
      refine ⟨_, h2, (by show _ < 254; omega), (by decide), (by decide), ?_⟩
      refine ⟨fun c => absurd c (show (¬ ((24 : Int) ≤ 15)) from by decide), fun _ => ?_⟩
      refine ⟨_, h1, (by show _ < 254; omega), ?_⟩
      refine fun w0 hw0 => ?_; obtain rfl : w0 = some (q + 1) := hw0.symm.trans h3
      refine ⟨_, h2, (by show _ < 254; omega), (by decide), (by decide), ?_⟩
      refine ⟨fun c => absurd c (show (¬ ((24 : Int) ≤ 16)) from by decide), fun _ => ?_⟩
      refine ⟨_, h1, (by show _ < 254; omega), ?_⟩
      refine fun w0 hw0 => ?_; obtain rfl : w0 = some (q + 1) := hw0.symm.trans h3
      refine ⟨_, h2, (by show _ < 254; omega), (by decide), (by decide), ?_⟩
      refine ⟨fun c => absurd c (show (¬ ((24 : Int) ≤ 17)) from by decide), fun _ => ?_⟩
      refine ⟨_, h1, (by show _ < 254; omega), ?_⟩
      refine fun w0 hw0 => ?_; obtain rfl : w0 = some (q + 1) := hw0.symm.trans h3
      refine ⟨_, h2, (by show _ < 254; omega), (by decide), (by decide), ?_⟩
      refine ⟨fun c => absurd c (show (¬ ((24 : Int) ≤ 18)) from by decide), fun _ => ?_⟩
      refine ⟨_, h1, (by show _ < 254; omega), ?_⟩
      refine fun w0 hw0 => ?_; obtain rfl : w0 = some (q + 1) := hw0.symm.trans h3
      refine ⟨_, h2, (by show _ < 254; omega), (by decide), (by decide), ?_⟩
      refine ⟨fun c => absurd c (show (¬ ((24 : Int) ≤ 19)) from by decide), fun _ => ?_⟩
      refine ⟨_, h1, (by show _ < 254; omega), ?_⟩
      refine fun w0 hw0 => ?_; obtain rfl : w0 = some (q + 1) := hw0.symm.trans h3
      refine ⟨_, h2, (by show _ < 254; omega), (by decide), (by decide), ?_⟩
      refine ⟨fun c => absurd c (show (¬ ((24 : Int) ≤ 20)) from by decide), fun _ => ?_⟩
      refine ⟨_, h1, (by show _ < 254; omega), ?_⟩
      refine fun w0 hw0 => ?_; obtain rfl : w0 = some (q + 1) := hw0.symm.trans h3
      refine ⟨_, h2, (by show _ < 254; omega), (by decide), (by decide), ?_⟩
      refine ⟨fun c => absurd c (show (¬ ((24 : Int) ≤ 21)) from by decide), fun _ => ?_⟩
      refine ⟨_, h1, (by show _ < 254; omega), ?_⟩
      refine fun w0 hw0 => ?_; obtain rfl : w0 = some (q + 1) := hw0.symm.trans h3
      refine ⟨_, h2, (by show _ < 254; omega), (by decide), (by decide), ?_⟩
      refine ⟨fun c => absurd c (show (¬ ((24 : Int) ≤ 22)) from by decide), fun _ => ?_⟩
      refine ⟨_, h1, (by show _ < 254; omega), ?_⟩
      refine fun w0 hw0 => ?_; obtain rfl : w0 = some (q + 1) := hw0.symm.trans h3
      refine ⟨_, h2, (by show _ < 254; omega), (by decide), (by decide), ?_⟩
      refine ⟨fun c => absurd c (show (¬ ((24 : Int) ≤ 23)) from by decide), fun _ => ?_⟩
      refine ⟨_, h1, (by show _ < 254; omega), ?_⟩
      refine fun w0 hw0 => ?_; obtain rfl : w0 = some (q + 1) := hw0.symm.trans h3
      refine ⟨_, h2, (by show _ < 254; omega), (by decide), (by decide), ?_⟩
      refine ⟨fun _ => ?_, fun c => absurd (show ((24 : Int) ≤ 24) from by decide) c⟩
      exact ⟨rfl, hQ _ (MS.u (MS.u (MS.u (MS.u (MS.u (MS.u (MS.u (MS.u (MS.u (MS.u (MS.u (MS.u (MS.u (MS.u (MS.u (MS.u (MS.u (MS.u (MS.u (MS.u (MS.u (MS.u (MS.u (MS.u (MS.u (MS.u MS.r (by omega)) (by omega)) (by omega)) (by omega)) (by omega)) (by omega)) (by omega)) (by omega)) (by omega)) (by omega)) (by omega)) (by omega)) (by omega)) (by omega)) (by omega)) (by omega)) (by omega)) (by omega)) (by omega)) (by omega)) (by omega)) (by omega)) (by omega)) (by omega)) (by omega)) (by omega))⟩
    ·
      refine ⟨rfl, ?_⟩
      refine Call_wp (lv := [some (vi 0), some (vi n)]) (by decide) ckJ9_max_7cf53 [] rfl rfl ?_
      refine ⟨fun (c3 : ((0 : Int) < n)) => ?_, fun (c3 : (¬ ((0 : Int) < n))) => ?_⟩
      ·
        refine ⟨rfl, ?_⟩
        refine ⟨_, h1, (by show _ < 254; omega), ?_⟩
        refine ⟨fun c => absurd c (show (¬ ((24 : Int) ≤ 0)) from by decide), fun _ => ?_⟩
        refine ⟨_, h1, (by show _ < 254; omega), ?_⟩
        refine fun w0 hw0 => ?_; obtain rfl : w0 = some (q + 1) := hw0.symm.trans h3
        refine ⟨_, h2, (by show _ < 254; omega), (by decide), (by decide), ?_⟩
        refine ⟨fun c => absurd c (show (¬ ((24 : Int) ≤ 1)) from by decide), fun _ => ?_⟩
        refine ⟨_, h1, (by show _ < 254; omega), ?_⟩
        refine fun w0 hw0 => ?_; obtain rfl : w0 = some (q + 1) := hw0.symm.trans h3
        refine ⟨_, h2, (by show _ < 254; omega), (by decide), (by decide), ?_⟩
        refine ⟨fun c => absurd c (show (¬ ((24 : Int) ≤ 2)) from by decide), fun _ => ?_⟩
        refine ⟨_, h1, (by show _ < 254; omega), ?_⟩
        refine fun w0 hw0 => ?_; obtain rfl : w0 = some (q + 1) := hw0.symm.trans h3
        refine ⟨_, h2, (by show _ < 254; omega), (by decide), (by decide), ?_⟩
        refine ⟨fun c => absurd c (show (¬ ((24 : Int) ≤ 3)) from by decide), fun _ => ?_⟩
        refine ⟨_, h1, (by show _ < 254; omega), ?_⟩
        refine fun w0 hw0 => ?_; obtain rfl : w0 = some (q + 1) := hw0.symm.trans h3
        refine ⟨_, h2, (by show _ < 254; omega), (by decide), (by decide), ?_⟩
        refine ⟨fun c => absurd c (show (¬ ((24 : Int) ≤ 4)) from by decide), fun _ => ?_⟩
        refine ⟨_, h1, (by show _ < 254; omega), ?_⟩
        refine fun w0 hw0 => ?_; obtain rfl : w0 = some (q + 1) := hw0.symm.trans h3
        refine ⟨_, h2, (by show _ < 254; omega), (by decide), (by decide), ?_⟩
        refine ⟨fun c => absurd c (show (¬ ((24 : Int) ≤ 5)) from by decide), fun _ => ?_⟩
        refine ⟨_, h1, (by show _ < 254; omega), ?_⟩
        refine fun w0 hw0 => ?_; obtain rfl : w0 = some (q + 1) := hw0.symm.trans h3
        refine ⟨_, h2, (by show _ < 254; omega), (by decide), (by decide), ?_⟩
        refine ⟨fun c => absurd c (show (¬ ((24 : Int) ≤ 6)) from by decide), fun _ => ?_⟩
        refine ⟨_, h1, (by show _ < 254; omega), ?_⟩
        refine fun w0 hw0 => ?_; obtain rfl : w0 = some (q + 1) := hw0.symm.trans h3
        refine ⟨_, h2, (by show _ < 254; omega), (by decide), (by decide), ?_⟩
        refine ⟨fun c => absurd c (show (¬ ((24 : Int) ≤ 7)) from by decide), fun _ => ?_⟩
        refine ⟨_, h1, (by show _ < 254; omega), ?_⟩
        refine fun w0 hw0 => ?_; obtain rfl : w0 = some (q + 1) := hw0.symm.trans h3
        refine ⟨_, h2, (by show _ < 254; omega), (by decide), (by decide), ?_⟩
        refine ⟨fun c => absurd c (show (¬ ((24 : Int) ≤ 8)) from by decide), fun _ => ?_⟩
        refine ⟨_, h1, (by show _ < 254; omega), ?_⟩
        refine fun w0 hw0 => ?_; obtain rfl : w0 = some (q + 1) := hw0.symm.trans h3
        refine ⟨_, h2, (by show _ < 254; omega), (by decide), (by decide), ?_⟩
        refine ⟨fun c => absurd c (show (¬ ((24 : Int) ≤ 9)) from by decide), fun _ => ?_⟩
        refine ⟨_, h1, (by show _ < 254; omega), ?_⟩
        refine fun w0 hw0 => ?_; obtain rfl : w0 = some (q + 1) := hw0.symm.trans h3
        refine ⟨_, h2, (by show _ < 254; omega), (by decide), (by decide), ?_⟩
        refine ⟨fun c => absurd c (show (¬ ((24 : Int) ≤ 10)) from by decide), fun _ => ?_⟩
        refine ⟨_, h1, (by show _ < 254; omega), ?_⟩
        refine fun w0 hw0 => ?_; obtain rfl : w0 = some (q + 1) := hw0.symm.trans h3
        refine ⟨_, h2, (by show _ < 254; omega), (by decide), (by decide), ?_⟩
        refine ⟨fun c => absurd c (show (¬ ((24 : Int) ≤ 11)) from by decide), fun _ => ?_⟩
        refine ⟨_, h1, (by show _ < 254; omega), ?_⟩
        refine fun w0 hw0 => ?_; obtain rfl : w0 = some (q + 1) := hw0.symm.trans h3
        refine ⟨_, h2, (by show _ < 254; omega), (by decide), (by decide), ?_⟩
        refine ⟨fun c => absurd c (show (¬ ((24 : Int) ≤ 12)) from by decide), fun _ => ?_⟩
        refine ⟨_, h1, (by show _ < 254; omega), ?_⟩
        refine fun w0 hw0 => ?_; obtain rfl : w0 = some (q + 1) := hw0.symm.trans h3
        refine ⟨_, h2, (by show _ < 254; omega), (by decide), (by decide), ?_⟩
        refine ⟨fun c => absurd c (show (¬ ((24 : Int) ≤ 13)) from by decide), fun _ => ?_⟩
        refine ⟨_, h1, (by show _ < 254; omega), ?_⟩
        refine fun w0 hw0 => ?_; obtain rfl : w0 = some (q + 1) := hw0.symm.trans h3
        refine ⟨_, h2, (by show _ < 254; omega), (by decide), (by decide), ?_⟩
        refine ⟨fun c => absurd c (show (¬ ((24 : Int) ≤ 14)) from by decide), fun _ => ?_⟩
        refine ⟨_, h1, (by show _ < 254; omega), ?_⟩
        refine fun w0 hw0 => ?_; obtain rfl : w0 = some (q + 1) := hw0.symm.trans h3
        refine ⟨_, h2, (by show _ < 254; omega), (by decide), (by decide), ?_⟩
        refine ⟨fun c => absurd c (show (¬ ((24 : Int) ≤ 15)) from by decide), fun _ => ?_⟩
        refine ⟨_, h1, (by show _ < 254; omega), ?_⟩
        refine fun w0 hw0 => ?_; obtain rfl : w0 = some (q + 1) := hw0.symm.trans h3
        refine ⟨_, h2, (by show _ < 254; omega), (by decide), (by decide), ?_⟩
        refine ⟨fun c => absurd c (show (¬ ((24 : Int) ≤ 16)) from by decide), fun _ => ?_⟩
        refine ⟨_, h1, (by show _ < 254; omega), ?_⟩
        refine fun w0 hw0 => ?_; obtain rfl : w0 = some (q + 1) := hw0.symm.trans h3
        refine ⟨_, h2, (by show _ < 254; omega), (by decide), (by decide), ?_⟩
        refine ⟨fun c => absurd c (show (¬ ((24 : Int) ≤ 17)) from by decide), fun _ => ?_⟩
        refine ⟨_, h1, (by show _ < 254; omega), ?_⟩
        refine fun w0 hw0 => ?_; obtain rfl : w0 = some (q + 1) := hw0.symm.trans h3
        refine ⟨_, h2, (by show _ < 254; omega), (by decide), (by decide), ?_⟩
        refine ⟨fun c => absurd c (show (¬ ((24 : Int) ≤ 18)) from by decide), fun _ => ?_⟩
        refine ⟨_, h1, (by show _ < 254; omega), ?_⟩
        refine fun w0 hw0 => ?_; obtain rfl : w0 = some (q + 1) := hw0.symm.trans h3
        refine ⟨_, h2, (by show _ < 254; omega), (by decide), (by decide), ?_⟩
        refine ⟨fun c => absurd c (show (¬ ((24 : Int) ≤ 19)) from by decide), fun _ => ?_⟩
        refine ⟨_, h1, (by show _ < 254; omega), ?_⟩
        refine fun w0 hw0 => ?_; obtain rfl : w0 = some (q + 1) := hw0.symm.trans h3
        refine ⟨_, h2, (by show _ < 254; omega), (by decide), (by decide), ?_⟩
        refine ⟨fun c => absurd c (show (¬ ((24 : Int) ≤ 20)) from by decide), fun _ => ?_⟩
        refine ⟨_, h1, (by show _ < 254; omega), ?_⟩
        refine fun w0 hw0 => ?_; obtain rfl : w0 = some (q + 1) := hw0.symm.trans h3
        refine ⟨_, h2, (by show _ < 254; omega), (by decide), (by decide), ?_⟩
        refine ⟨fun c => absurd c (show (¬ ((24 : Int) ≤ 21)) from by decide), fun _ => ?_⟩
        refine ⟨_, h1, (by show _ < 254; omega), ?_⟩
        refine fun w0 hw0 => ?_; obtain rfl : w0 = some (q + 1) := hw0.symm.trans h3
        refine ⟨_, h2, (by show _ < 254; omega), (by decide), (by decide), ?_⟩
        refine ⟨fun c => absurd c (show (¬ ((24 : Int) ≤ 22)) from by decide), fun _ => ?_⟩
        refine ⟨_, h1, (by show _ < 254; omega), ?_⟩
        refine fun w0 hw0 => ?_; obtain rfl : w0 = some (q + 1) := hw0.symm.trans h3
        refine ⟨_, h2, (by show _ < 254; omega), (by decide), (by decide), ?_⟩
        refine ⟨fun c => absurd c (show (¬ ((24 : Int) ≤ 23)) from by decide), fun _ => ?_⟩
        refine ⟨_, h1, (by show _ < 254; omega), ?_⟩
        refine fun w0 hw0 => ?_; obtain rfl : w0 = some (q + 1) := hw0.symm.trans h3
        refine ⟨_, h2, (by show _ < 254; omega), (by decide), (by decide), ?_⟩
        refine ⟨fun _ => ?_, fun c => absurd (show ((24 : Int) ≤ 24) from by decide) c⟩
        exact ⟨rfl, hQ _ (MS.u (MS.u (MS.u (MS.u (MS.u (MS.u (MS.u (MS.u (MS.u (MS.u (MS.u (MS.u (MS.u (MS.u (MS.u (MS.u (MS.u (MS.u (MS.u (MS.u (MS.u (MS.u (MS.u (MS.u (MS.u (MS.u MS.r (by omega)) (by omega)) (by omega)) (by omega)) (by omega)) (by omega)) (by omega)) (by omega)) (by omega)) (by omega)) (by omega)) (by omega)) (by omega)) (by omega)) (by omega)) (by omega)) (by omega)) (by omega)) (by omega)) (by omega)) (by omega)) (by omega)) (by omega)) (by omega)) (by omega)) (by omega))⟩
      ·
        refine ⟨rfl, ?_⟩
        refine ⟨_, h1, (by show _ < 254; omega), ?_⟩
        refine ⟨fun c => absurd c (show (¬ ((24 : Int) ≤ 0)) from by decide), fun _ => ?_⟩
        refine ⟨_, h1, (by show _ < 254; omega), ?_⟩
        refine fun w0 hw0 => ?_; obtain rfl : w0 = some (q + 1) := hw0.symm.trans h3
        refine ⟨_, h2, (by show _ < 254; omega), (by decide), (by decide), ?_⟩
        refine ⟨fun c => absurd c (show (¬ ((24 : Int) ≤ 1)) from by decide), fun _ => ?_⟩
        refine ⟨_, h1, (by show _ < 254; omega), ?_⟩
        refine fun w0 hw0 => ?_; obtain rfl : w0 = some (q + 1) := hw0.symm.trans h3
        refine ⟨_, h2, (by show _ < 254; omega), (by decide), (by decide), ?_⟩
        refine ⟨fun c => absurd c (show (¬ ((24 : Int) ≤ 2)) from by decide), fun _ => ?_⟩
        refine ⟨_, h1, (by show _ < 254; omega), ?_⟩
        refine fun w0 hw0 => ?_; obtain rfl : w0 = some (q + 1) := hw0.symm.trans h3
        refine ⟨_, h2, (by show _ < 254; omega), (by decide), (by decide), ?_⟩
        refine ⟨fun c => absurd c (show (¬ ((24 : Int) ≤ 3)) from by decide), fun _ => ?_⟩
        refine ⟨_, h1, (by show _ < 254; omega), ?_⟩
        refine fun w0 hw0 => ?_; obtain rfl : w0 = some (q + 1) := hw0.symm.trans h3
        refine ⟨_, h2, (by show _ < 254; omega), (by decide), (by decide), ?_⟩
        refine ⟨fun c => absurd c (show (¬ ((24 : Int) ≤ 4)) from by decide), fun _ => ?_⟩
        refine ⟨_, h1, (by show _ < 254; omega), ?_⟩
        refine fun w0 hw0 => ?_; obtain rfl : w0 = some (q + 1) := hw0.symm.trans h3
        refine ⟨_, h2, (by show _ < 254; omega), (by decide), (by decide), ?_⟩
        refine ⟨fun c => absurd c (show (¬ ((24 : Int) ≤ 5)) from by decide), fun _ => ?_⟩
        refine ⟨_, h1, (by show _ < 254; omega), ?_⟩
        refine fun w0 hw0 => ?_; obtain rfl : w0 = some (q + 1) := hw0.symm.trans h3
        refine ⟨_, h2, (by show _ < 254; omega), (by decide), (by decide), ?_⟩
        refine ⟨fun c => absurd c (show (¬ ((24 : Int) ≤ 6)) from by decide), fun _ => ?_⟩
        refine ⟨_, h1, (by show _ < 254; omega), ?_⟩
        refine fun w0 hw0 => ?_; obtain rfl : w0 = some (q + 1) := hw0.symm.trans h3
        refine ⟨_, h2, (by show _ < 254; omega), (by decide), (by decide), ?_⟩
        refine ⟨fun c => absurd c (show (¬ ((24 : Int) ≤ 7)) from by decide), fun _ => ?_⟩
        refine ⟨_, h1, (by show _ < 254; omega), ?_⟩
        refine fun w0 hw0 => ?_; obtain rfl : w0 = some (q + 1) := hw0.symm.trans h3
        refine ⟨_, h2, (by show _ < 254; omega), (by decide), (by decide), ?_⟩
        refine ⟨fun c => absurd c (show (¬ ((24 : Int) ≤ 8)) from by decide), fun _ => ?_⟩
        refine ⟨_, h1, (by show _ < 254; omega), ?_⟩
        refine fun w0 hw0 => ?_; obtain rfl : w0 = some (q + 1) := hw0.symm.trans h3
        refine ⟨_, h2, (by show _ < 254; omega), (by decide), (by decide), ?_⟩
        refine ⟨fun c => absurd c (show (¬ ((24 : Int) ≤ 9)) from by decide), fun _ => ?_⟩
        refine ⟨_, h1, (by show _ < 254; omega), ?_⟩
        refine fun w0 hw0 => ?_; obtain rfl : w0 = some (q + 1) := hw0.symm.trans h3
        refine ⟨_, h2, (by show _ < 254; omega), (by decide), (by decide), ?_⟩
        refine ⟨fun c => absurd c (show (¬ ((24 : Int) ≤ 10)) from by decide), fun _ => ?_⟩
        refine ⟨_, h1, (by show _ < 254; omega), ?_⟩
        refine fun w0 hw0 => ?_; obtain rfl : w0 = some (q + 1) := hw0.symm.trans h3
        refine ⟨_, h2, (by show _ < 254; omega), (by decide), (by decide), ?_⟩
        refine ⟨fun c => absurd c (show (¬ ((24 : Int) ≤ 11)) from by decide), fun _ => ?_⟩
        refine ⟨_, h1, (by show _ < 254; omega), ?_⟩
        refine fun w0 hw0 => ?_; obtain rfl : w0 = some (q + 1) := hw0.symm.trans h3
        refine ⟨_, h2, (by show _ < 254; omega), (by decide), (by decide), ?_⟩
        refine ⟨fun c => absurd c (show (¬ ((24 : Int) ≤ 12)) from by decide), fun _ => ?_⟩
        refine ⟨_, h1, (by show _ < 254; omega), ?_⟩
        refine fun w0 hw0 => ?_; obtain rfl : w0 = some (q + 1) := hw0.symm.trans h3
        refine ⟨_, h2, (by show _ < 254; omega), (by decide), (by decide), ?_⟩
        refine ⟨fun c => absurd c (show (¬ ((24 : Int) ≤ 13)) from by decide), fun _ => ?_⟩
        refine ⟨_, h1, (by show _ < 254; omega), ?_⟩
        refine fun w0 hw0 => ?_; obtain rfl : w0 = some (q + 1) := hw0.symm.trans h3
        refine ⟨_, h2, (by show _ < 254; omega), (by decide), (by decide), ?_⟩
        refine ⟨fun c => absurd c (show (¬ ((24 : Int) ≤ 14)) from by decide), fun _ => ?_⟩
        refine ⟨_, h1, (by show _ < 254; omega), ?_⟩
        refine fun w0 hw0 => ?_; obtain rfl : w0 = some (q + 1) := hw0.symm.trans h3
        refine ⟨_, h2, (by show _ < 254; omega), (by decide), (by decide), ?_⟩
        refine ⟨fun c => absurd c (show (¬ ((24 : Int) ≤ 15)) from by decide), fun _ => ?_⟩
        refine ⟨_, h1, (by show _ < 254; omega), ?_⟩
        refine fun w0 hw0 => ?_; obtain rfl : w0 = some (q + 1) := hw0.symm.trans h3
        refine ⟨_, h2, (by show _ < 254; omega), (by decide), (by decide), ?_⟩
        refine ⟨fun c => absurd c (show (¬ ((24 : Int) ≤ 16)) from by decide), fun _ => ?_⟩
        refine ⟨_, h1, (by show _ < 254; omega), ?_⟩
        refine fun w0 hw0 => ?_; obtain rfl : w0 = some (q + 1) := hw0.symm.trans h3
        refine ⟨_, h2, (by show _ < 254; omega), (by decide), (by decide), ?_⟩
        refine ⟨fun c => absurd c (show (¬ ((24 : Int) ≤ 17)) from by decide), fun _ => ?_⟩
        refine ⟨_, h1, (by show _ < 254; omega), ?_⟩
        refine fun w0 hw0 => ?_; obtain rfl : w0 = some (q + 1) := hw0.symm.trans h3
        refine ⟨_, h2, (by show _ < 254; omega), (by decide), (by decide), ?_⟩
        refine ⟨fun c => absurd c (show (¬ ((24 : Int) ≤ 18)) from by decide), fun _ => ?_⟩
        refine ⟨_, h1, (by show _ < 254; omega), ?_⟩
        refine fun w0 hw0 => ?_; obtain rfl : w0 = some (q + 1) := hw0.symm.trans h3
        refine ⟨_, h2, (by show _ < 254; omega), (by decide), (by decide), ?_⟩
        refine ⟨fun c => absurd c (show (¬ ((24 : Int) ≤ 19)) from by decide), fun _ => ?_⟩
        refine ⟨_, h1, (by show _ < 254; omega), ?_⟩
        refine fun w0 hw0 => ?_; obtain rfl : w0 = some (q + 1) := hw0.symm.trans h3
        refine ⟨_, h2, (by show _ < 254; omega), (by decide), (by decide), ?_⟩
        refine ⟨fun c => absurd c (show (¬ ((24 : Int) ≤ 20)) from by decide), fun _ => ?_⟩
        refine ⟨_, h1, (by show _ < 254; omega), ?_⟩
        refine fun w0 hw0 => ?_; obtain rfl : w0 = some (q + 1) := hw0.symm.trans h3
        refine ⟨_, h2, (by show _ < 254; omega), (by decide), (by decide), ?_⟩
        refine ⟨fun c => absurd c (show (¬ ((24 : Int) ≤ 21)) from by decide), fun _ => ?_⟩
        refine ⟨_, h1, (by show _ < 254; omega), ?_⟩
        refine fun w0 hw0 => ?_; obtain rfl : w0 = some (q + 1) := hw0.symm.trans h3
        refine ⟨_, h2, (by show _ < 254; omega), (by decide), (by decide), ?_⟩
        refine ⟨fun c => absurd c (show (¬ ((24 : Int) ≤ 22)) from by decide), fun _ => ?_⟩
        refine ⟨_, h1, (by show _ < 254; omega), ?_⟩
        refine fun w0 hw0 => ?_; obtain rfl : w0 = some (q + 1) := hw0.symm.trans h3
        refine ⟨_, h2, (by show _ < 254; omega), (by decide), (by decide), ?_⟩
        refine ⟨fun c => absurd c (show (¬ ((24 : Int) ≤ 23)) from by decide), fun _ => ?_⟩
        refine ⟨_, h1, (by show _ < 254; omega), ?_⟩
        refine fun w0 hw0 => ?_; obtain rfl : w0 = some (q + 1) := hw0.symm.trans h3
        refine ⟨_, h2, (by show _ < 254; omega), (by decide), (by decide), ?_⟩
        refine ⟨fun _ => ?_, fun c => absurd (show ((24 : Int) ≤ 24) from by decide) c⟩
        exact ⟨rfl, hQ _ (MS.u (MS.u (MS.u (MS.u (MS.u (MS.u (MS.u (MS.u (MS.u (MS.u (MS.u (MS.u (MS.u (MS.u (MS.u (MS.u (MS.u (MS.u (MS.u (MS.u (MS.u (MS.u (MS.u (MS.u (MS.u (MS.u MS.r (by omega)) (by omega)) (by omega)) (by omega)) (by omega)) (by omega)) (by omega)) (by omega)) (by omega)) (by omega)) (by omega)) (by omega)) (by omega)) (by omega)) (by omega)) (by omega)) (by omega)) (by omega)) (by omega)) (by omega)) (by omega)) (by omega)) (by omega)) (by omega)) (by omega)) (by omega))⟩
  ·
    refine ⟨_, h1, (by show _ < 254; omega), ?_⟩
    refine ⟨fun c => absurd c (show (¬ ((24 : Int) ≤ 0)) from by decide), fun _ => ?_⟩
    refine ⟨_, h1, (by show _ < 254; omega), ?_⟩
    refine fun w0 hw0 => ?_; obtain rfl : w0 = some (q + 1) := hw0.symm.trans h3
    refine ⟨_, h2, (by show _ < 254; omega), (by decide), (by decide), ?_⟩
    refine ⟨fun c => absurd c (show (¬ ((24 : Int) ≤ 1)) from by decide), fun _ => ?_⟩
    refine ⟨_, h1, (by show _ < 254; omega), ?_⟩
    refine fun w0 hw0 => ?_; obtain rfl : w0 = some (q + 1) := hw0.symm.trans h3
    refine ⟨_, h2, (by show _ < 254; omega), (by decide), (by decide), ?_⟩
    refine ⟨fun c => absurd c (show (¬ ((24 : Int) ≤ 2)) from by decide), fun _ => ?_⟩
    refine ⟨_, h1, (by show _ < 254; omega), ?_⟩
    refine fun w0 hw0 => ?_; obtain rfl : w0 = some (q + 1) := hw0.symm.trans h3
    refine ⟨_, h2, (by show _ < 254; omega), (by decide), (by decide), ?_⟩
    refine ⟨fun c => absurd c (show (¬ ((24 : Int) ≤ 3)) from by decide), fun _ => ?_⟩
    refine ⟨_, h1, (by show _ < 254; omega), ?_⟩
    refine fun w0 hw0 => ?_; obtain rfl : w0 = some (q + 1) := hw0.symm.trans h3
    refine ⟨_, h2, (by show _ < 254; omega), (by decide), (by decide), ?_⟩
    refine ⟨fun c => absurd c (show (¬ ((24 : Int) ≤ 4)) from by decide), fun _ => ?_⟩
    refine ⟨_, h1, (by show _ < 254; omega), ?_⟩
    refine fun w0 hw0 => ?_; obtain rfl : w0 = some (q + 1) := hw0.symm.trans h3
    refine ⟨_, h2, (by show _ < 254; omega), (by decide), (by decide), ?_⟩
    refine ⟨fun c => absurd c (show (¬ ((24 : Int) ≤ 5)) from by decide), fun _ => ?_⟩
    refine ⟨_, h1, (by show _ < 254; omega), ?_⟩
    refine fun w0 hw0 => ?_; obtain rfl : w0 = some (q + 1) := hw0.symm.trans h3
    refine ⟨_, h2, (by show _ < 254; omega), (by decide), (by decide), ?_⟩
    refine ⟨fun c => absurd c (show (¬ ((24 : Int) ≤ 6)) from by decide), fun _ => ?_⟩
    refine ⟨_, h1, (by show _ < 254; omega), ?_⟩
    refine fun w0 hw0 => ?_; obtain rfl : w0 = some (q + 1) := hw0.symm.trans h3
    refine ⟨_, h2, (by show _ < 254; omega), (by decide), (by decide), ?_⟩
    refine ⟨fun c => absurd c (show (¬ ((24 : Int) ≤ 7)) from by decide), fun _ => ?_⟩
    refine ⟨_, h1, (by show _ < 254; omega), ?_⟩
    refine fun w0 hw0 => ?_; obtain rfl : w0 = some (q + 1) := hw0.symm.trans h3
    refine ⟨_, h2, (by show _ < 254; omega), (by decide), (by decide), ?_⟩
    refine ⟨fun c => absurd c (show (¬ ((24 : Int) ≤ 8)) from by decide), fun _ => ?_⟩
    refine ⟨_, h1, (by show _ < 254; omega), ?_⟩
    refine fun w0 hw0 => ?_; obtain rfl : w0 = some (q + 1) := hw0.symm.trans h3
    refine ⟨_, h2, (by show _ < 254; omega), (by decide), (by decide), ?_⟩
    refine ⟨fun c => absurd c (show (¬ ((24 : Int) ≤ 9)) from by decide), fun _ => ?_⟩
    refine ⟨_, h1, (by show _ < 254; omega), ?_⟩
    refine fun w0 hw0 => ?_; obtain rfl : w0 = some (q + 1) := hw0.symm.trans h3
    refine ⟨_, h2, (by show _ < 254; omega), (by decide), (by decide), ?_⟩
    refine ⟨fun c => absurd c (show (¬ ((24 : Int) ≤ 10)) from by decide), fun _ => ?_⟩
    refine ⟨_, h1, (by show _ < 254; omega), ?_⟩
    refine fun w0 hw0 => ?_; obtain rfl : w0 = some (q + 1) := hw0.symm.trans h3
    refine ⟨_, h2, (by show _ < 254; omega), (by decide), (by decide), ?_⟩
    refine ⟨fun c => absurd c (show (¬ ((24 : Int) ≤ 11)) from by decide), fun _ => ?_⟩
    refine ⟨_, h1, (by show _ < 254; omega), ?_⟩
    refine fun w0 hw0 => ?_; obtain rfl : w0 = some (q + 1) := hw0.symm.trans h3
    refine ⟨_, h2, (by show _ < 254; omega), (by decide), (by decide), ?_⟩
    refine ⟨fun c => absurd c (show (¬ ((24 : Int) ≤ 12)) from by decide), fun _ => ?_⟩
    refine ⟨_, h1, (by show _ < 254; omega), ?_⟩
    refine fun w0 hw0 => ?_; obtain rfl : w0 = some (q + 1) := hw0.symm.trans h3
    refine ⟨_, h2, (by show _ < 254; omega), (by decide), (by decide), ?_⟩
    refine ⟨fun c => absurd c (show (¬ ((24 : Int) ≤ 13)) from by decide), fun _ => ?_⟩
    refine ⟨_, h1, (by show _ < 254; omega), ?_⟩
    refine fun w0 hw0 => ?_; obtain rfl : w0 = some (q + 1) := hw0.symm.trans h3
    refine ⟨_, h2, (by show _ < 254; omega), (by decide), (by decide), ?_⟩
    refine ⟨fun c => absurd c (show (¬ ((24 : Int) ≤ 14)) from by decide), fun _ => ?_⟩
    refine ⟨_, h1, (by show _ < 254; omega), ?_⟩
    refine fun w0 hw0 => ?_; obtain rfl : w0 = some (q + 1) := hw0.symm.trans h3
    refine ⟨_, h2, (by show _ < 254; omega), (by decide), (by decide), ?_⟩
    refine ⟨fun c => absurd c (show (¬ ((24 : Int) ≤ 15)) from by decide), fun _ => ?_⟩
    refine ⟨_, h1, (by show _ < 254; omega), ?_⟩
    refine fun w0 hw0 => ?_; obtain rfl : w0 = some (q + 1) := hw0.symm.trans h3
    refine ⟨_, h2, (by show _ < 254; omega), (by decide), (by decide), ?_⟩
    refine ⟨fun c => absurd c (show (¬ ((24 : Int) ≤ 16)) from by decide), fun _ => ?_⟩
    refine ⟨_, h1, (by show _ < 254; omega), ?_⟩
    refine fun w0 hw0 => ?_; obtain rfl : w0 = some (q + 1) := hw0.symm.trans h3
    refine ⟨_, h2, (by show _ < 254; omega), (by decide), (by decide), ?_⟩
    refine ⟨fun c => absurd c (show (¬ ((24 : Int) ≤ 17)) from by decide), fun _ => ?_⟩
    refine ⟨_, h1, (by show _ < 254; omega), ?_⟩
    refine fun w0 hw0 => ?_; obtain rfl : w0 = some (q + 1) := hw0.symm.trans h3
    refine ⟨_, h2, (by show _ < 254; omega), (by decide), (by decide), ?_⟩
    refine ⟨fun c => absurd c (show (¬ ((24 : Int) ≤ 18)) from by decide), fun _ => ?_⟩
    refine ⟨_, h1, (by show _ < 254; omega), ?_⟩
    refine fun w0 hw0 => ?_; obtain rfl : w0 = some (q + 1) := hw0.symm.trans h3
    refine ⟨_, h2, (by show _ < 254; omega), (by decide), (by decide), ?_⟩
    refine ⟨fun c => absurd c (show (¬ ((24 : Int) ≤ 19)) from by decide), fun _ => ?_⟩
    refine ⟨_, h1, (by show _ < 254; omega), ?_⟩
    refine fun w0 hw0 => ?_; obtain rfl : w0 = some (q + 1) := hw0.symm.trans h3
    refine ⟨_, h2, (by show _ < 254; omega), (by decide), (by decide), ?_⟩
    refine ⟨fun c => absurd c (show (¬ ((24 : Int) ≤ 20)) from by decide), fun _ => ?_⟩
    refine ⟨_, h1, (by show _ < 254; omega), ?_⟩
    refine fun w0 hw0 => ?_; obtain rfl : w0 = some (q + 1) := hw0.symm.trans h3
    refine ⟨_, h2, (by show _ < 254; omega), (by decide), (by decide), ?_⟩
    refine ⟨fun c => absurd c (show (¬ ((24 : Int) ≤ 21)) from by decide), fun _ => ?_⟩
    refine ⟨_, h1, (by show _ < 254; omega), ?_⟩
    refine fun w0 hw0 => ?_; obtain rfl : w0 = some (q + 1) := hw0.symm.trans h3
    refine ⟨_, h2, (by show _ < 254; omega), (by decide), (by decide), ?_⟩
    refine ⟨fun c => absurd c (show (¬ ((24 : Int) ≤ 22)) from by decide), fun _ => ?_⟩
    refine ⟨_, h1, (by show _ < 254; omega), ?_⟩
    refine fun w0 hw0 => ?_; obtain rfl : w0 = some (q + 1) := hw0.symm.trans h3
    refine ⟨_, h2, (by show _ < 254; omega), (by decide), (by decide), ?_⟩
    refine ⟨fun c => absurd c (show (¬ ((24 : Int) ≤ 23)) from by decide), fun _ => ?_⟩
    refine ⟨_, h1, (by show _ < 254; omega), ?_⟩
    refine fun w0 hw0 => ?_; obtain rfl : w0 = some (q + 1) := hw0.symm.trans h3
    refine ⟨_, h2, (by show _ < 254; omega), (by decide), (by decide), ?_⟩
    refine ⟨fun _ => ?_, fun c => absurd (show ((24 : Int) ≤ 24) from by decide) c⟩
    exact ⟨rfl, hQ _ (MS.u (MS.u (MS.u (MS.u (MS.u (MS.u (MS.u (MS.u (MS.u (MS.u (MS.u (MS.u (MS.u (MS.u (MS.u (MS.u (MS.u (MS.u (MS.u (MS.u (MS.u (MS.u (MS.u (MS.u (MS.u (MS.u MS.r (by omega)) (by omega)) (by omega)) (by omega)) (by omega)) (by omega)) (by omega)) (by omega)) (by omega)) (by omega)) (by omega)) (by omega)) (by omega)) (by omega)) (by omega)) (by omega)) (by omega)) (by omega)) (by omega)) (by omega)) (by omega)) (by omega)) (by omega)) (by omega)) (by omega)) (by omega))⟩
theorem x_sheet (hF : FS F) (hX : FX I) {v0 v1 v2 : Int} (rv0 : iR v0) (rv1 : iR v1) (rv2 : iR v2) (hQ : ∀ F' I', FS F' → MS I I' → Q (some (vi (fx_sheet v0 v1 v2))) F' I') : CallN G (d + 12) kX11_sheet [vr 0, vi v0, vi v1, vi v2] NP F I Q := by
  unfold iR at *
  refine Call_wp (lv := [some (vr 0), some (vi v0), some (vi v1), some (vi v2), none]) (by decide) ckX11_sheet [] rfl rfl ?_
  refine ⟨⟨_, rfl, (by decide)⟩, ?_⟩
  refine s_X11_sheetAt hF (fun (w1 : (0 ≤ v0 ∧ v0 ≤ 3)) => ?_) (fun (w1 : ¬ (0 ≤ v0 ∧ v0 ≤ 3)) => ?_)
  ·
    refine ⟨fun (c2 : ((v1 : Int) = 0)) => ?_, fun (c2 : (¬ ((v1 : Int) = 0))) => ?_⟩
    ·
      refine ⟨fun _ => ?_, fun c => absurd (show ((v1 : Int) = 0) from by first | omega | (simp only [wr, wl] at *; omega)) c⟩
      refine ⟨fun _ => ?_, fun c => absurd (show ((v1 : Int) = 0) from by first | omega | (simp only [wr, wl] at *; omega)) c⟩
      refine ⟨⟨_, (lay_sh (by omega)), (by show _ < 254; omega)⟩, ?_⟩
      refine s_X7_become0 (lay_sh (by omega)) (lay_sh1 (by omega)) (FS_shn hF (by omega)) (by omega) (fun I3 f4 => ?_)
      have e : fx_sheet v0 v1 v2 = 1 := by (unfold fx_sheet; (repeat' split) <;> first | rfl | omega | (simp only [wr, wl] at *; omega))
      rw [e] at hQ
      exact ⟨rfl, hQ _ _ hF f4⟩
    ·
      refine ⟨fun (c5 : ((v1 : Int) = 8)) => ?_, fun (c5 : (¬ ((v1 : Int) = 8))) => ?_⟩
      ·
        refine ⟨fun c => absurd c (show (¬ ((v1 : Int) = 0)) from by first | omega | (simp only [wr, wl] at *; omega)), fun _ => ?_⟩
        refine ⟨fun (c6 : ((0 : Int) ≤ v2)) => ?_, fun (c6 : (¬ ((0 : Int) ≤ v2))) => ?_⟩
        ·
          refine ⟨fun c => absurd c (show (¬ ((v1 : Int) = 0)) from by first | omega | (simp only [wr, wl] at *; omega)), fun _ => ?_⟩
          refine ⟨fun (c7 : ((v2 : Int) ≤ 24)) => ?_, fun (c7 : (¬ ((v2 : Int) ≤ 24))) => ?_⟩
          ·
            refine ⟨⟨_, (lay_sh (by omega)), (by show _ < 254; omega)⟩, ?_⟩
            refine s_X7_become0 (lay_sh (by omega)) (lay_sh1 (by omega)) (FS_shn hF (by omega)) (by omega) (fun I8 f9 => ?_)
            have e : fx_sheet v0 v1 v2 = 1 := by (unfold fx_sheet; (repeat' split) <;> first | rfl | omega | (simp only [wr, wl] at *; omega))
            rw [e] at hQ
            exact ⟨rfl, hQ _ _ hF f9⟩
          ·
            refine ⟨⟨_, rfl, (by decide)⟩, ?_⟩
            refine s_X11_refuse hF (e := 1) (by decide) ?_
            have r10 : (I 203 1) = 0 := (hX.i rfl)
            have e : fx_sheet v0 v1 v2 = (-1000001) := by (unfold fx_sheet; (repeat' split) <;> first | rfl | omega | (simp only [wr, wl] at *; omega))
            rw [e] at hQ
            exact ⟨rfl, hQ _ _ hF (MS.u MS.r (by decide))⟩
        ·
          refine ⟨⟨_, rfl, (by decide)⟩, ?_⟩
          refine s_X11_refuse hF (e := 3) (by decide) ?_
          have r11 : (I 203 3) = 0 := (hX.i rfl)
          have e : fx_sheet v0 v1 v2 = (-1000003) := by (unfold fx_sheet; (repeat' split) <;> first | rfl | omega | (simp only [wr, wl] at *; omega))
          rw [e] at hQ
          exact ⟨rfl, hQ _ _ hF (MS.u MS.r (by decide))⟩
      ·
        refine ⟨fun (c12 : ((v1 : Int) = 16)) => ?_, fun (c12 : (¬ ((v1 : Int) = 16))) => ?_⟩
        ·
          refine ⟨fun c => absurd c (show (¬ ((v1 : Int) = 0)) from by first | omega | (simp only [wr, wl] at *; omega)), fun _ => ?_⟩
          refine ⟨fun (c13 : ((0 : Int) ≤ v2)) => ?_, fun (c13 : (¬ ((0 : Int) ≤ v2))) => ?_⟩
          ·
            refine ⟨fun c => absurd c (show (¬ ((v1 : Int) = 0)) from by first | omega | (simp only [wr, wl] at *; omega)), fun _ => ?_⟩
            refine ⟨fun (c14 : ((v2 : Int) ≤ 24)) => ?_, fun (c14 : (¬ ((v2 : Int) ≤ 24))) => ?_⟩
            ·
              refine ⟨⟨_, (lay_sh (by omega)), (by show _ < 254; omega)⟩, ?_⟩
              refine s_X7_become0 (lay_sh (by omega)) (lay_sh1 (by omega)) (FS_shn hF (by omega)) (by omega) (fun I15 f16 => ?_)
              have e : fx_sheet v0 v1 v2 = 1 := by (unfold fx_sheet; (repeat' split) <;> first | rfl | omega | (simp only [wr, wl] at *; omega))
              rw [e] at hQ
              exact ⟨rfl, hQ _ _ hF f16⟩
            ·
              refine ⟨⟨_, rfl, (by decide)⟩, ?_⟩
              refine s_X11_refuse hF (e := 1) (by decide) ?_
              have r17 : (I 203 1) = 0 := (hX.i rfl)
              have e : fx_sheet v0 v1 v2 = (-1000001) := by (unfold fx_sheet; (repeat' split) <;> first | rfl | omega | (simp only [wr, wl] at *; omega))
              rw [e] at hQ
              exact ⟨rfl, hQ _ _ hF (MS.u MS.r (by decide))⟩
          ·
            refine ⟨⟨_, rfl, (by decide)⟩, ?_⟩
            refine s_X11_refuse hF (e := 3) (by decide) ?_
            have r18 : (I 203 3) = 0 := (hX.i rfl)
            have e : fx_sheet v0 v1 v2 = (-1000003) := by (unfold fx_sheet; (repeat' split) <;> first | rfl | omega | (simp only [wr, wl] at *; omega))
            rw [e] at hQ
            exact ⟨rfl, hQ _ _ hF (MS.u MS.r (by decide))⟩
        ·
          refine ⟨fun (c19 : ((v1 : Int) = 32)) => ?_, fun (c19 : (¬ ((v1 : Int) = 32))) => ?_⟩
          ·
            refine ⟨fun c => absurd c (show (¬ ((v1 : Int) = 0)) from by first | omega | (simp only [wr, wl] at *; omega)), fun _ => ?_⟩
            refine ⟨fun (c20 : ((0 : Int) ≤ v2)) => ?_, fun (c20 : (¬ ((0 : Int) ≤ v2))) => ?_⟩
            ·
              refine ⟨fun c => absurd c (show (¬ ((v1 : Int) = 0)) from by first | omega | (simp only [wr, wl] at *; omega)), fun _ => ?_⟩
              refine ⟨fun (c21 : ((v2 : Int) ≤ 24)) => ?_, fun (c21 : (¬ ((v2 : Int) ≤ 24))) => ?_⟩
              ·
                refine ⟨⟨_, (lay_sh (by omega)), (by show _ < 254; omega)⟩, ?_⟩
                refine s_X7_become0 (lay_sh (by omega)) (lay_sh1 (by omega)) (FS_shn hF (by omega)) (by omega) (fun I22 f23 => ?_)
                have e : fx_sheet v0 v1 v2 = 1 := by (unfold fx_sheet; (repeat' split) <;> first | rfl | omega | (simp only [wr, wl] at *; omega))
                rw [e] at hQ
                exact ⟨rfl, hQ _ _ hF f23⟩
              ·
                refine ⟨⟨_, rfl, (by decide)⟩, ?_⟩
                refine s_X11_refuse hF (e := 1) (by decide) ?_
                have r24 : (I 203 1) = 0 := (hX.i rfl)
                have e : fx_sheet v0 v1 v2 = (-1000001) := by (unfold fx_sheet; (repeat' split) <;> first | rfl | omega | (simp only [wr, wl] at *; omega))
                rw [e] at hQ
                exact ⟨rfl, hQ _ _ hF (MS.u MS.r (by decide))⟩
            ·
              refine ⟨⟨_, rfl, (by decide)⟩, ?_⟩
              refine s_X11_refuse hF (e := 3) (by decide) ?_
              have r25 : (I 203 3) = 0 := (hX.i rfl)
              have e : fx_sheet v0 v1 v2 = (-1000003) := by (unfold fx_sheet; (repeat' split) <;> first | rfl | omega | (simp only [wr, wl] at *; omega))
              rw [e] at hQ
              exact ⟨rfl, hQ _ _ hF (MS.u MS.r (by decide))⟩
          ·
            refine ⟨⟨_, rfl, (by decide)⟩, ?_⟩
            refine s_X11_refuse hF (e := 1) (by decide) ?_
            have r26 : (I 203 1) = 0 := (hX.i rfl)
            have e : fx_sheet v0 v1 v2 = (-1000001) := by (unfold fx_sheet; (repeat' split) <;> first | rfl | omega | (simp only [wr, wl] at *; omega))
            rw [e] at hQ
            exact ⟨rfl, hQ _ _ hF (MS.u MS.r (by decide))⟩
  ·
    refine ⟨⟨_, rfl, (by decide)⟩, ?_⟩
    refine s_X11_refuse hF (e := 1) (by decide) ?_
    have r27 : (I 203 1) = 0 := (hX.i rfl)
    have e : fx_sheet v0 v1 v2 = (-1000001) := by (unfold fx_sheet; (repeat' split) <;> first | rfl | omega | (simp only [wr, wl] at *; omega))
    rw [e] at hQ
    exact ⟨rfl, hQ _ _ hF (MS.u MS.r (by decide))⟩
theorem m_feed_loop (hF : FS F) {v0 v1 : Int} (hn : 1 ≤ v1 ∧ v1 ≤ 8) (hQ : ∀ I', Q (some (vi v1)) F I') : ∀ (m : Nat) (k : Int) (I : pI), 0 ≤ k → k + m = v1 → I 236 2 = k → GoN G d kX12_feed NP NP 40 [some (vr 235), some (vl v0), none, some (vi v1), some (vi k)] [] F I Q := by
  intro m
  induction m with
  | zero =>
    intro k I hk hm hI
    refine Go_wp (by decide) ckX12_feed [40] ?_
    refine ⟨fun _ => ?_, fun c => absurd (show ((v1 : Int) ≤ k) from by first | omega | (simp only [wr, wl] at *; omega)) c⟩
    refine ⟨_, rfl, (by decide), ?_⟩
    refine fun w0 hw0 => ?_; obtain rfl : w0 = some 236 := hw0.symm.trans (FS.g hF rfl)
    refine ⟨_, rfl, (by decide), (by decide), (by decide), ?_⟩
    have r1 : 0 ≤ (I 236 2) ∧ (I 236 2) ≤ 8 := (by omega)
    have e : v1 = (I 236 2) := by omega
    have hq := hQ I
    rw [e] at hq
    exact ⟨rfl, hq⟩
  | succ m ih =>
    intro k I hk hm hI
    refine Go_wp (by decide) ckX12_feed [40] ?_
    refine ⟨fun c => absurd c (show (¬ ((v1 : Int) ≤ k)) from by first | omega | (simp only [wr, wl] at *; omega)), fun _ => ?_⟩
    refine ⟨_, rfl, (by decide), ?_⟩
    refine fun w0 hw0 => ?_; obtain rfl : w0 = some 236 := hw0.symm.trans (FS.g hF rfl)
    refine ⟨_, rfl, (by decide), ?_⟩
    refine fun w0 hw0 => ?_; obtain rfl : w0 = some 236 := hw0.symm.trans (FS.g hF rfl)
    refine ⟨_, rfl, (by decide), (by decide), (by decide), ?_⟩
    have r1 : 0 ≤ (I 236 2) ∧ (I 236 2) ≤ 7 := (by omega)
    have n2 : (wr (1228 + (I 236 2))) = 1228 + (I 236 2) := wr_id (show -2147483648 ≤ (1228 + (I 236 2) : Int) ∧ (1228 + (I 236 2) : Int) < 2147483648 from by omega)
    refine ⟨_, rfl, (by decide), (show (0 : Int) ≤ (wr (1228 + (I 236 2))) from by first | omega | (simp only [wr, wl] at *; omega)), (show (wr (1228 + (I 236 2))) < (1340 : Int) from by first | omega | (simp only [wr, wl] at *; omega)), ?_⟩
    refine ⟨_, rfl, (by decide), ?_⟩
    refine fun w0 hw0 => ?_; obtain rfl : w0 = some 236 := hw0.symm.trans (FS.g hF rfl)
    refine ⟨_, rfl, (by decide), (by decide), (by decide), ?_⟩
    have u3 : ((uI I 236 (Int.toNat (wr (1228 + (I 236 2)))) (wr (bL (srL v0 (wr (8 * k))) 255))) 236 2) = (I 236 2) := uJ_ne (by omega)
    refine ⟨_, rfl, (by decide), (by decide), (by decide), ?_⟩
    have e : (wr (k + 1)) = k + 1 := by unfold wr; omega
    refine (congrArg (fun z => GoN G d kX12_feed NP NP 40 [some (vr 235), some (vl v0), none, some (vi v1), some (vi z)] [] F _ Q) e).mpr ?_
    refine ih (k + 1) _ (by omega) (by omega) ?_
    have w1 : wr (1228 + I 236 2) = 1228 + I 236 2 := by unfold wr; omega
    show uI (uI I 236 _ _) 236 2 (wr ((uI I 236 _ _) 236 2 + 1)) 236 2 = k + 1
    rw [uJ_eq, uJ_ne (by show ¬ 2 = (wr (1228 + I 236 2)).toNat; rw [w1]; omega), hI]
    unfold wr; omega
theorem m_feed (hF : FS F) (hX : FXm I) {v0 v1 : Int} (rv0 : lR v0) (rv1 : iR v1) (hQ : ∀ F' I', Q (some (vi (fx_feed v1))) F' I') : CallN G (d + 12) kX12_feed [vr 235, vl v0, vi v1] NP F I Q := by
  unfold iR at *
  unfold lR at *
  refine Call_wp (lv := [some (vr 235), some (vl v0), none, some (vi v1), none]) (by decide) ckX12_feed [40] rfl rfl ?_
  refine s_X12_within (fun (w1 : ((1 : Int) ≤ v1 ∧ (v1 : Int) ≤ 8)) => ?_) (fun (w1 : ¬ ((1 : Int) ≤ v1 ∧ (v1 : Int) ≤ 8)) => ?_)
  ·
    refine ⟨fun _ => ?_, fun c => absurd c (show (¬ (1 : Int) = 0) from by decide)⟩
    refine ⟨_, rfl, (by decide), ?_⟩
    refine fun w0 hw0 => ?_; obtain rfl : w0 = some 236 := hw0.symm.trans (FS.g hF rfl)
    refine ⟨_, rfl, (by decide), (by decide), (by decide), ?_⟩
    have r2 : (I 236 2) = 0 := (hX.i rfl rfl)
    have n3 : (wr ((I 236 2) + v1)) = (I 236 2) + v1 := wr_id (show -2147483648 ≤ ((I 236 2) + v1 : Int) ∧ ((I 236 2) + v1 : Int) < 2147483648 from by omega)
    refine ⟨fun _ => ?_, fun c => absurd (show (((wr ((I 236 2) + v1)) : Int) ≤ 64) from by first | omega | (simp only [wr, wl] at *; omega)) c⟩
    refine m_feed_loop hF (by omega) (fun I' => ?_) v1.toNat 0 I (by omega) (by omega) (hX.i rfl rfl)
    have e : fx_feed v1 = v1 := by unfold fx_feed; rw [if_pos (by omega)]
    rw [e] at hQ
    exact hQ _ _
  ·
    refine ⟨fun c => absurd (show ((0 : Int) = 0) from by decide) c, fun _ => ?_⟩
    refine ⟨⟨_, rfl, (by decide)⟩, ?_⟩
    refine s_X12_finding hF (v := (-1000001)) (by decide) ?_
    have r4 : (I 238 1) = 0 := (hX.i rfl rfl)
    have e : fx_feed v1 = (-1000001) := by (unfold fx_feed; (repeat' split) <;> first | rfl | omega | (simp only [wr, wl] at *; omega))
    rw [e] at hQ
    exact ⟨rfl, hQ _ _⟩
end L
