/-! what the reference's reader says of a text's words. Own work (scripts laid by wip/pm/gen34.py). -/
section RW
variable {G : pG} {d : Nat} {F : pF} {I : pI} {Q : Option pV → pF → pI → Prop}
theorem r_isByte9 (hF : FS F) (hR : Rg I) {v0 v1 v2 : Int} {tt : Int → Int} {nn : Int} (hl : I 236 2 = nn) (ht : TXT tt nn (fun j => I 236 (1228 + j))) (hv0 : 0 ≤ v0 ∧ v0 ≤ 64) (hq : 32 ≤ v1 ∧ v2 ≤ 122) (hQ : ∀ r : Int, iR r → (0 ≤ r ∧ r ≤ 1) → (r = 1 → v1 ≤ tt v0 ∧ tt v0 ≤ v2) → (r = 0 → ¬ (v1 ≤ tt v0 ∧ tt v0 ≤ v2)) → Q (some (vi r)) F I) : CallN G (d + 1) kX12_isByte [vr 235, vi v0, vi v1, vi v2] NP F I Q := by
  refine CallN_in (fun hok hA => CallN_out ?_)
  have iv0 : -2147483648 ≤ v0 ∧ v0 < 2147483648 := hok (vi v0) (by simp)
  have iv1 : -2147483648 ≤ v1 ∧ v1 < 2147483648 := hok (vi v1) (by simp)
  have iv2 : -2147483648 ≤ v2 ∧ v2 < 2147483648 := hok (vi v2) (by simp)
  have hn2 := ht.1
  have hb9 := TXT_z ht v0
  refine Call_wp (lv := [some (vr 235), some (vi v0), some (vi v1), some (vi v2)]) (by decide) ckX12_isByte [] rfl rfl ?_
  refine ⟨_, rfl, (by decide), ?_⟩
  refine fun w0 hw0 => ?_; obtain rfl : w0 = some 236 := hw0.symm.trans (FS.g hF rfl)
  refine ⟨_, rfl, (by decide), (by decide), (by decide), ?_⟩
  have r1 : 0 ≤ (I 236 2) ∧ (I 236 2) ≤ 64 := Rg.n2 hR
  refine ⟨fun (c3 : (((I 236 2) : Int) ≤ v0)) => ?_, fun (c3 : (¬ (((I 236 2) : Int) ≤ v0))) => ?_⟩
  ·
    exact ⟨rfl, (by decide), fun hv hA' => hQ _ (hv _ rfl) (show 0 ≤ 0 ∧ 0 ≤ 1 from by decide) (show 0 = 1 → v1 ≤ tt v0 ∧ tt v0 ≤ v2 from fun z => absurd z (by decide)) (show 0 = 0 → ¬ (v1 ≤ tt v0 ∧ tt v0 ≤ v2) from by first | with_reducible assumption | omega | (simp only [wr, wl] at *; omega))⟩
  ·
    refine ⟨_, rfl, (by decide), ?_⟩
    refine fun w0 hw0 => ?_; obtain rfl : w0 = some 236 := hw0.symm.trans (FS.g hF rfl)
    have n4 : (wr (1228 + v0)) = 1228 + v0 := wr_id (show -2147483648 ≤ (1228 + v0 : Int) ∧ (1228 + v0 : Int) < 2147483648 from by omega)
    refine ⟨_, rfl, (by decide), (show (0 : Int) ≤ (wr (1228 + v0)) from by first | with_reducible assumption | omega | (simp only [wr, wl] at *; omega)), (show (wr (1228 + v0)) < (1340 : Int) from by first | with_reducible assumption | omega | (simp only [wr, wl] at *; omega)), ?_⟩
    have z5 := TXT_b ht v0
    have z6 : (I 236 (Int.toNat (wr (1228 + v0)))) = (I 236 (1228 + Int.toNat v0)) := congrArg (I 236) (by omega)
    have r7 : 0 ≤ (I 236 (Int.toNat (wr (1228 + v0)))) ∧ (I 236 (Int.toNat (wr (1228 + v0)))) ≤ 255 := Pn_t (by omega) (hR.n (Int.toNat (wr (1228 + v0))) (by omega))
    refine s_X12_within (fun (w9 : ((v1 : Int) ≤ (I 236 (Int.toNat (wr (1228 + v0)))) ∧ ((I 236 (Int.toNat (wr (1228 + v0)))) : Int) ≤ v2)) => ?_) (fun (w9 : ¬ ((v1 : Int) ≤ (I 236 (Int.toNat (wr (1228 + v0)))) ∧ ((I 236 (Int.toNat (wr (1228 + v0)))) : Int) ≤ v2)) => ?_)
    ·
      refine ⟨fun c => absurd c (show (¬ ((1 : Int) = 0)) from by decide), fun _ => ?_⟩
      exact ⟨rfl, (by decide), fun hv hA' => hQ _ (hv _ rfl) (show 0 ≤ 1 ∧ 1 ≤ 1 from by decide) (show 1 = 1 → v1 ≤ tt v0 ∧ tt v0 ≤ v2 from by first | with_reducible assumption | omega | (simp only [wr, wl] at *; omega)) (show 1 = 0 → ¬ (v1 ≤ tt v0 ∧ tt v0 ≤ v2) from fun z => absurd z (by decide))⟩
    ·
      refine ⟨fun _ => ?_, fun c => absurd (show ((0 : Int) = 0) from by decide) c⟩
      exact ⟨rfl, (by decide), fun hv hA' => hQ _ (hv _ rfl) (show 0 ≤ 0 ∧ 0 ≤ 1 from by decide) (show 0 = 1 → v1 ≤ tt v0 ∧ tt v0 ≤ v2 from fun z => absurd z (by decide)) (show 0 = 0 → ¬ (v1 ≤ tt v0 ∧ tt v0 ≤ v2) from by first | with_reducible assumption | omega | (simp only [wr, wl] at *; omega))⟩
theorem r_goOn9_l2 (hF : FS F) (hR : Rg I) {tt : Int → Int} {nn : Int} (hl : I 236 2 = nn) (ht : TXT tt nn (fun j => I 236 (1228 + j))) (h2 : I 235 7 ≤ I 236 2) (hQ : ∀ (I' : pI), Rg I' → (∀ k j, ¬ ((k = 235 ∧ (j = 6 ∨ j = 7))) → I' k j = I k j) → ((I 235 7) ≤ (I' 235 6)) → ((I' 235 6) ≤ (I' 235 7)) → ((I' 235 7) ≤ (I 236 2)) → ((I' 235 6) < (I 236 2) → (I' 235 6) < (I' 235 7)) → (Tok tt nn (I 235 7) (I' 235 6) (I' 235 7)) → Q none F I') : ∀ (mz : Nat) (a b : Int) (J : pI), Rg J → (∀ k j, ¬ ((k = 235 ∧ (j = 6 ∨ j = 7))) → J k j = I k j) → ((0 : Int) ≤ a) → ((a : Int) ≤ 1) → ((0 : Int) ≤ b) → ((b : Int) ≤ 1) → (I 235 7 ≤ (J 235 6)) → ((J 235 6) ≤ (J 235 7)) → ((J 235 7) ≤ nn) → ((J 235 6) < nn → (J 235 6) < (J 235 7)) → (IsF tt nn (I 235 7) (J 235 6)) → (∀ k : Int, (J 235 6) ≤ k → k < (J 235 7) → (a = 1 → 97 ≤ tt k ∧ tt k ≤ 122) ∧ (b = 1 → 48 ≤ tt k ∧ tt k ≤ 57)) → (a = 1 → 97 ≤ tt (J 235 6) ∧ tt (J 235 6) ≤ 122) → (a = 0 → ¬ (97 ≤ tt (J 235 6) ∧ tt (J 235 6) ≤ 122)) → (b = 1 → 48 ≤ tt (J 235 6) ∧ tt (J 235 6) ≤ 57) → (b = 0 → ¬ (48 ≤ tt (J 235 6) ∧ tt (J 235 6) ≤ 57)) → (a = 0 → b = 0 → ((J 235 6) < nn → (J 235 7) = (J 235 6) + 1) ∧ (¬ (J 235 6) < nn → (J 235 7) = nn)) → (64 - (J 235 7)).toNat < mz → GoN G (d + 2) kX12_goOn NP NP 97 [some (vr 235), some (vi a), some (vi b)] [] F J Q := by
  intro mz
  induction mz with
  | zero => intro a b J hJ hV _ _ _ _ _ _ _ _ _ _ _ _ _ _ _ h; exact absurd h (Nat.not_lt_zero _)
  | succ mz ih =>
    intro a b J hJ hV cc100 cc101 cc102 cc103 cc104 cc105 cc106 cc107 cc108 cc109 cc110 cc111 cc112 cc113 cc114 hm
    refine GoN_in (fun hok hA => ?_)
    have iia : -2147483648 ≤ a ∧ a < 2147483648 := hok 1 _ rfl
    have iib : -2147483648 ≤ b ∧ b < 2147483648 := hok 2 _ rfl
    have hn2 := ht.1
    have hz9 := TXT_z ht (J 235 7)
    have r1 : 0 ≤ (J 235 6) ∧ (J 235 6) ≤ 64 := Rg.f6 hJ
    have r3 : 0 ≤ (J 235 7) ∧ (J 235 7) ≤ 64 := Rg.f7 hJ
    refine Go_wp (by decide) ckX12_goOn [97] ?_
    refine ⟨fun (c5 : ((a : Int) = 0)) => ?_, fun (c5 : (¬ ((a : Int) = 0))) => ?_⟩
    ·
      refine ⟨fun (c6 : ((b : Int) = 0)) => ?_, fun (c6 : (¬ ((b : Int) = 0))) => ?_⟩
      ·
        have r7 : 0 ≤ (I 235 7) ∧ (I 235 7) ≤ 64 := Rg.f7 hR
        have r8 : 0 ≤ (I 236 2) ∧ (I 236 2) ≤ 64 := Rg.n2 hR
        exact ⟨rfl, hQ _ hJ (fun ka ja hk => (hV ka ja (by omega))) (show (I 235 7) ≤ (J 235 6) from by first | with_reducible assumption | omega | (simp only [wr, wl] at *; omega)) (show (J 235 6) ≤ (J 235 7) from by first | with_reducible assumption | omega | (simp only [wr, wl] at *; omega)) (show (J 235 7) ≤ (I 236 2) from by first | with_reducible assumption | omega | (simp only [wr, wl] at *; omega)) (show (J 235 6) < (I 236 2) → (J 235 6) < (J 235 7) from by first | with_reducible assumption | omega | (simp only [wr, wl] at *; omega)) (show Tok tt nn (I 235 7) (J 235 6) (J 235 7) from ⟨cc108, ⟨by omega, by omega, by omega⟩, fun h => ⟨fun k h1 h2 => (cc109 k h1 h2).1 (by omega), by omega⟩, fun h => ⟨fun k h1 h2 => (cc109 k h1 h2).2 (by omega), by omega⟩, fun h1 h2 => (by split <;> omega)⟩)⟩
      ·
        refine ⟨_, rfl, (by decide), ?_⟩
        refine ⟨⟨_, rfl, (by decide)⟩, ?_⟩
        have z9 := TXT_z ht (J 235 7)
        refine r_isByte9 (v0 := (J 235 7)) (v1 := 48) (v2 := 57) hF hJ ((hV 236 2 (by first | decide | omega)).trans hl) (TXT_f ht (fun j => hV 236 (1228 + j) (by omega))) (by omega) (by omega) (fun vr10 hr11 q12 q13 q14 => ?_)
        have hr11 : -2147483648 ≤ vr10 ∧ vr10 < 2147483648 := hr11
        have q12 : 0 ≤ vr10 ∧ vr10 ≤ 1 := q12
        have q13 : vr10 = 1 → (48 : Int) ≤ tt ((J 235 7) : Int) ∧ tt ((J 235 7) : Int) ≤ (57 : Int) := q13
        have q14 : vr10 = 0 → ¬ ((48 : Int) ≤ tt ((J 235 7) : Int) ∧ tt ((J 235 7) : Int) ≤ (57 : Int)) := q14
        refine ⟨fun (c15 : ((vr10 : Int) = 0)) => ?_, fun (c15 : (¬ ((vr10 : Int) = 0))) => ?_⟩
        ·
          have r16 : 0 ≤ (I 235 7) ∧ (I 235 7) ≤ 64 := Rg.f7 hR
          have r17 : 0 ≤ (I 236 2) ∧ (I 236 2) ≤ 64 := Rg.n2 hR
          exact ⟨rfl, hQ _ hJ (fun ka ja hk => (hV ka ja (by omega))) (show (I 235 7) ≤ (J 235 6) from by first | with_reducible assumption | omega | (simp only [wr, wl] at *; omega)) (show (J 235 6) ≤ (J 235 7) from by first | with_reducible assumption | omega | (simp only [wr, wl] at *; omega)) (show (J 235 7) ≤ (I 236 2) from by first | with_reducible assumption | omega | (simp only [wr, wl] at *; omega)) (show (J 235 6) < (I 236 2) → (J 235 6) < (J 235 7) from by first | with_reducible assumption | omega | (simp only [wr, wl] at *; omega)) (show Tok tt nn (I 235 7) (J 235 6) (J 235 7) from ⟨cc108, ⟨by omega, by omega, by omega⟩, fun h => ⟨fun k h1 h2 => (cc109 k h1 h2).1 (by omega), by omega⟩, fun h => ⟨fun k h1 h2 => (cc109 k h1 h2).2 (by omega), by omega⟩, fun h1 h2 => (by split <;> omega)⟩)⟩
        ·
          refine ⟨_, rfl, (by decide), ?_⟩
          refine ⟨_, rfl, (by decide), ?_⟩
          have n18 : (wr ((J 235 7) + 1)) = (J 235 7) + 1 := wr_id (show -2147483648 ≤ ((J 235 7) + 1 : Int) ∧ ((J 235 7) + 1 : Int) < 2147483648 from by omega)
          have p19 : (0 : Int) ≤ (wr ((J 235 7) + 1)) ∧ ((wr ((J 235 7) + 1)) : Int) ≤ 64 := by first | omega | (simp only [wr, wl] at *; omega)
          exact ih a b (uI J 235 7 (wr ((J 235 7) + 1))) (Rg.u hJ (Pr_x7 p19)) (fun ka ja hk => ((uI_o (show ¬ (ka = 235 ∧ ja = 7) from by first | (intro e; obtain ⟨rfl, rfl⟩ := e; exact hk (by decide)) | omega))).trans ((hV ka ja (by omega)))) (show (0 : Int) ≤ a from by first | with_reducible assumption | omega | (simp only [wr, wl] at *; omega)) (show (a : Int) ≤ 1 from by first | with_reducible assumption | omega | (simp only [wr, wl] at *; omega)) (show (0 : Int) ≤ b from by first | with_reducible assumption | omega | (simp only [wr, wl] at *; omega)) (show (b : Int) ≤ 1 from by first | with_reducible assumption | omega | (simp only [wr, wl] at *; omega)) (show I 235 7 ≤ (J 235 6) from by first | with_reducible assumption | omega | (simp only [wr, wl] at *; omega)) (show (J 235 6) ≤ (wr ((J 235 7) + 1)) from by first | with_reducible assumption | omega | (simp only [wr, wl] at *; omega)) (show (wr ((J 235 7) + 1)) ≤ nn from by first | with_reducible assumption | omega | (simp only [wr, wl] at *; omega)) (show (J 235 6) < nn → (J 235 6) < (wr ((J 235 7) + 1)) from by first | with_reducible assumption | omega | (simp only [wr, wl] at *; omega)) (cc108) (show ∀ k : Int, (J 235 6) ≤ k → k < (wr ((J 235 7) + 1)) → (a = 1 → 97 ≤ tt k ∧ tt k ≤ 122) ∧ (b = 1 → 48 ≤ tt k ∧ tt k ≤ 57) from fun k h1 h2 => if e : k = J 235 7 then (by rw [e]; omega) else cc109 k h1 (by omega)) (show a = 1 → 97 ≤ tt (J 235 6) ∧ tt (J 235 6) ≤ 122 from by first | with_reducible assumption | omega | (simp only [wr, wl] at *; omega)) (show a = 0 → ¬ (97 ≤ tt (J 235 6) ∧ tt (J 235 6) ≤ 122) from by first | with_reducible assumption | omega | (simp only [wr, wl] at *; omega)) (show b = 1 → 48 ≤ tt (J 235 6) ∧ tt (J 235 6) ≤ 57 from by first | with_reducible assumption | omega | (simp only [wr, wl] at *; omega)) (show b = 0 → ¬ (48 ≤ tt (J 235 6) ∧ tt (J 235 6) ≤ 57) from by first | with_reducible assumption | omega | (simp only [wr, wl] at *; omega)) (show a = 0 → b = 0 → ((J 235 6) < nn → (wr ((J 235 7) + 1)) = (J 235 6) + 1) ∧ (¬ (J 235 6) < nn → (wr ((J 235 7) + 1)) = nn) from by first | omega | (simp only [wr, wl] at *; omega)) (show (64 - (wr ((J 235 7) + 1))).toNat < mz from by omega)
    ·
      refine ⟨_, rfl, (by decide), ?_⟩
      refine ⟨⟨_, rfl, (by decide)⟩, ?_⟩
      have z20 := TXT_z ht (J 235 7)
      refine r_isByte9 (v0 := (J 235 7)) (v1 := 97) (v2 := 122) hF hJ ((hV 236 2 (by first | decide | omega)).trans hl) (TXT_f ht (fun j => hV 236 (1228 + j) (by omega))) (by omega) (by omega) (fun vr21 hr22 q23 q24 q25 => ?_)
      have hr22 : -2147483648 ≤ vr21 ∧ vr21 < 2147483648 := hr22
      have q23 : 0 ≤ vr21 ∧ vr21 ≤ 1 := q23
      have q24 : vr21 = 1 → (97 : Int) ≤ tt ((J 235 7) : Int) ∧ tt ((J 235 7) : Int) ≤ (122 : Int) := q24
      have q25 : vr21 = 0 → ¬ ((97 : Int) ≤ tt ((J 235 7) : Int) ∧ tt ((J 235 7) : Int) ≤ (122 : Int)) := q25
      refine ⟨fun (c26 : (¬ (vr21 : Int) = 0)) => ?_, fun (c26 : ((vr21 : Int) = 0)) => ?_⟩
      ·
        refine ⟨_, rfl, (by decide), ?_⟩
        refine ⟨_, rfl, (by decide), ?_⟩
        have n27 : (wr ((J 235 7) + 1)) = (J 235 7) + 1 := wr_id (show -2147483648 ≤ ((J 235 7) + 1 : Int) ∧ ((J 235 7) + 1 : Int) < 2147483648 from by omega)
        have p28 : (0 : Int) ≤ (wr ((J 235 7) + 1)) ∧ ((wr ((J 235 7) + 1)) : Int) ≤ 64 := by first | omega | (simp only [wr, wl] at *; omega)
        exact ih a b (uI J 235 7 (wr ((J 235 7) + 1))) (Rg.u hJ (Pr_x7 p28)) (fun ka ja hk => ((uI_o (show ¬ (ka = 235 ∧ ja = 7) from by first | (intro e; obtain ⟨rfl, rfl⟩ := e; exact hk (by decide)) | omega))).trans ((hV ka ja (by omega)))) (show (0 : Int) ≤ a from by first | with_reducible assumption | omega | (simp only [wr, wl] at *; omega)) (show (a : Int) ≤ 1 from by first | with_reducible assumption | omega | (simp only [wr, wl] at *; omega)) (show (0 : Int) ≤ b from by first | with_reducible assumption | omega | (simp only [wr, wl] at *; omega)) (show (b : Int) ≤ 1 from by first | with_reducible assumption | omega | (simp only [wr, wl] at *; omega)) (show I 235 7 ≤ (J 235 6) from by first | with_reducible assumption | omega | (simp only [wr, wl] at *; omega)) (show (J 235 6) ≤ (wr ((J 235 7) + 1)) from by first | with_reducible assumption | omega | (simp only [wr, wl] at *; omega)) (show (wr ((J 235 7) + 1)) ≤ nn from by first | with_reducible assumption | omega | (simp only [wr, wl] at *; omega)) (show (J 235 6) < nn → (J 235 6) < (wr ((J 235 7) + 1)) from by first | with_reducible assumption | omega | (simp only [wr, wl] at *; omega)) (cc108) (show ∀ k : Int, (J 235 6) ≤ k → k < (wr ((J 235 7) + 1)) → (a = 1 → 97 ≤ tt k ∧ tt k ≤ 122) ∧ (b = 1 → 48 ≤ tt k ∧ tt k ≤ 57) from fun k h1 h2 => if e : k = J 235 7 then (by rw [e]; omega) else cc109 k h1 (by omega)) (show a = 1 → 97 ≤ tt (J 235 6) ∧ tt (J 235 6) ≤ 122 from by first | with_reducible assumption | omega | (simp only [wr, wl] at *; omega)) (show a = 0 → ¬ (97 ≤ tt (J 235 6) ∧ tt (J 235 6) ≤ 122) from by first | with_reducible assumption | omega | (simp only [wr, wl] at *; omega)) (show b = 1 → 48 ≤ tt (J 235 6) ∧ tt (J 235 6) ≤ 57 from by first | with_reducible assumption | omega | (simp only [wr, wl] at *; omega)) (show b = 0 → ¬ (48 ≤ tt (J 235 6) ∧ tt (J 235 6) ≤ 57) from by first | with_reducible assumption | omega | (simp only [wr, wl] at *; omega)) (show a = 0 → b = 0 → ((J 235 6) < nn → (wr ((J 235 7) + 1)) = (J 235 6) + 1) ∧ (¬ (J 235 6) < nn → (wr ((J 235 7) + 1)) = nn) from by first | omega | (simp only [wr, wl] at *; omega)) (show (64 - (wr ((J 235 7) + 1))).toNat < mz from by omega)
      ·
        refine ⟨fun (c29 : ((b : Int) = 0)) => ?_, fun (c29 : (¬ ((b : Int) = 0))) => ?_⟩
        ·
          have r30 : 0 ≤ (I 235 7) ∧ (I 235 7) ≤ 64 := Rg.f7 hR
          have r31 : 0 ≤ (I 236 2) ∧ (I 236 2) ≤ 64 := Rg.n2 hR
          exact ⟨rfl, hQ _ hJ (fun ka ja hk => (hV ka ja (by omega))) (show (I 235 7) ≤ (J 235 6) from by first | with_reducible assumption | omega | (simp only [wr, wl] at *; omega)) (show (J 235 6) ≤ (J 235 7) from by first | with_reducible assumption | omega | (simp only [wr, wl] at *; omega)) (show (J 235 7) ≤ (I 236 2) from by first | with_reducible assumption | omega | (simp only [wr, wl] at *; omega)) (show (J 235 6) < (I 236 2) → (J 235 6) < (J 235 7) from by first | with_reducible assumption | omega | (simp only [wr, wl] at *; omega)) (show Tok tt nn (I 235 7) (J 235 6) (J 235 7) from ⟨cc108, ⟨by omega, by omega, by omega⟩, fun h => ⟨fun k h1 h2 => (cc109 k h1 h2).1 (by omega), by omega⟩, fun h => ⟨fun k h1 h2 => (cc109 k h1 h2).2 (by omega), by omega⟩, fun h1 h2 => (by split <;> omega)⟩)⟩
        ·
          refine ⟨_, rfl, (by decide), ?_⟩
          refine ⟨⟨_, rfl, (by decide)⟩, ?_⟩
          have z32 := TXT_z ht (J 235 7)
          refine r_isByte9 (v0 := (J 235 7)) (v1 := 48) (v2 := 57) hF hJ ((hV 236 2 (by first | decide | omega)).trans hl) (TXT_f ht (fun j => hV 236 (1228 + j) (by omega))) (by omega) (by omega) (fun vr33 hr34 q35 q36 q37 => ?_)
          have hr34 : -2147483648 ≤ vr33 ∧ vr33 < 2147483648 := hr34
          have q35 : 0 ≤ vr33 ∧ vr33 ≤ 1 := q35
          have q36 : vr33 = 1 → (48 : Int) ≤ tt ((J 235 7) : Int) ∧ tt ((J 235 7) : Int) ≤ (57 : Int) := q36
          have q37 : vr33 = 0 → ¬ ((48 : Int) ≤ tt ((J 235 7) : Int) ∧ tt ((J 235 7) : Int) ≤ (57 : Int)) := q37
          refine ⟨fun (c38 : ((vr33 : Int) = 0)) => ?_, fun (c38 : (¬ ((vr33 : Int) = 0))) => ?_⟩
          ·
            have r39 : 0 ≤ (I 235 7) ∧ (I 235 7) ≤ 64 := Rg.f7 hR
            have r40 : 0 ≤ (I 236 2) ∧ (I 236 2) ≤ 64 := Rg.n2 hR
            exact ⟨rfl, hQ _ hJ (fun ka ja hk => (hV ka ja (by omega))) (show (I 235 7) ≤ (J 235 6) from by first | with_reducible assumption | omega | (simp only [wr, wl] at *; omega)) (show (J 235 6) ≤ (J 235 7) from by first | with_reducible assumption | omega | (simp only [wr, wl] at *; omega)) (show (J 235 7) ≤ (I 236 2) from by first | with_reducible assumption | omega | (simp only [wr, wl] at *; omega)) (show (J 235 6) < (I 236 2) → (J 235 6) < (J 235 7) from by first | with_reducible assumption | omega | (simp only [wr, wl] at *; omega)) (show Tok tt nn (I 235 7) (J 235 6) (J 235 7) from ⟨cc108, ⟨by omega, by omega, by omega⟩, fun h => ⟨fun k h1 h2 => (cc109 k h1 h2).1 (by omega), by omega⟩, fun h => ⟨fun k h1 h2 => (cc109 k h1 h2).2 (by omega), by omega⟩, fun h1 h2 => (by split <;> omega)⟩)⟩
          ·
            refine ⟨_, rfl, (by decide), ?_⟩
            refine ⟨_, rfl, (by decide), ?_⟩
            have n41 : (wr ((J 235 7) + 1)) = (J 235 7) + 1 := wr_id (show -2147483648 ≤ ((J 235 7) + 1 : Int) ∧ ((J 235 7) + 1 : Int) < 2147483648 from by omega)
            have p42 : (0 : Int) ≤ (wr ((J 235 7) + 1)) ∧ ((wr ((J 235 7) + 1)) : Int) ≤ 64 := by first | omega | (simp only [wr, wl] at *; omega)
            exact ih a b (uI J 235 7 (wr ((J 235 7) + 1))) (Rg.u hJ (Pr_x7 p42)) (fun ka ja hk => ((uI_o (show ¬ (ka = 235 ∧ ja = 7) from by first | (intro e; obtain ⟨rfl, rfl⟩ := e; exact hk (by decide)) | omega))).trans ((hV ka ja (by omega)))) (show (0 : Int) ≤ a from by first | with_reducible assumption | omega | (simp only [wr, wl] at *; omega)) (show (a : Int) ≤ 1 from by first | with_reducible assumption | omega | (simp only [wr, wl] at *; omega)) (show (0 : Int) ≤ b from by first | with_reducible assumption | omega | (simp only [wr, wl] at *; omega)) (show (b : Int) ≤ 1 from by first | with_reducible assumption | omega | (simp only [wr, wl] at *; omega)) (show I 235 7 ≤ (J 235 6) from by first | with_reducible assumption | omega | (simp only [wr, wl] at *; omega)) (show (J 235 6) ≤ (wr ((J 235 7) + 1)) from by first | with_reducible assumption | omega | (simp only [wr, wl] at *; omega)) (show (wr ((J 235 7) + 1)) ≤ nn from by first | with_reducible assumption | omega | (simp only [wr, wl] at *; omega)) (show (J 235 6) < nn → (J 235 6) < (wr ((J 235 7) + 1)) from by first | with_reducible assumption | omega | (simp only [wr, wl] at *; omega)) (cc108) (show ∀ k : Int, (J 235 6) ≤ k → k < (wr ((J 235 7) + 1)) → (a = 1 → 97 ≤ tt k ∧ tt k ≤ 122) ∧ (b = 1 → 48 ≤ tt k ∧ tt k ≤ 57) from fun k h1 h2 => if e : k = J 235 7 then (by rw [e]; omega) else cc109 k h1 (by omega)) (show a = 1 → 97 ≤ tt (J 235 6) ∧ tt (J 235 6) ≤ 122 from by first | with_reducible assumption | omega | (simp only [wr, wl] at *; omega)) (show a = 0 → ¬ (97 ≤ tt (J 235 6) ∧ tt (J 235 6) ≤ 122) from by first | with_reducible assumption | omega | (simp only [wr, wl] at *; omega)) (show b = 1 → 48 ≤ tt (J 235 6) ∧ tt (J 235 6) ≤ 57 from by first | with_reducible assumption | omega | (simp only [wr, wl] at *; omega)) (show b = 0 → ¬ (48 ≤ tt (J 235 6) ∧ tt (J 235 6) ≤ 57) from by first | with_reducible assumption | omega | (simp only [wr, wl] at *; omega)) (show a = 0 → b = 0 → ((J 235 6) < nn → (wr ((J 235 7) + 1)) = (J 235 6) + 1) ∧ (¬ (J 235 6) < nn → (wr ((J 235 7) + 1)) = nn) from by first | omega | (simp only [wr, wl] at *; omega)) (show (64 - (wr ((J 235 7) + 1))).toNat < mz from by omega)
theorem r_goOn9_l1 (hF : FS F) (hR : Rg I) {tt : Int → Int} {nn : Int} (hl : I 236 2 = nn) (ht : TXT tt nn (fun j => I 236 (1228 + j))) (h2 : I 235 7 ≤ I 236 2) (hQ : ∀ (I' : pI), Rg I' → (∀ k j, ¬ ((k = 235 ∧ (j = 6 ∨ j = 7))) → I' k j = I k j) → ((I 235 7) ≤ (I' 235 6)) → ((I' 235 6) ≤ (I' 235 7)) → ((I' 235 7) ≤ (I 236 2)) → ((I' 235 6) < (I 236 2) → (I' 235 6) < (I' 235 7)) → (Tok tt nn (I 235 7) (I' 235 6) (I' 235 7)) → Q none F I') : ∀ (mz : Nat) (J : pI), Rg J → (∀ k j, ¬ ((k = 235 ∧ (j = 6 ∨ j = 7))) → J k j = I k j) → (I 235 7 ≤ (J 235 6)) → ((J 235 6) ≤ nn) → (∀ k : Int, I 235 7 ≤ k → k < (J 235 6) → tt k = 32) → (64 - (J 235 6)).toNat < mz → GoN G (d + 2) kX12_goOn NP NP 8 [some (vr 235), none, none] [] F J Q := by
  intro mz
  induction mz with
  | zero => intro  J hJ hV _ _ _ h; exact absurd h (Nat.not_lt_zero _)
  | succ mz ih =>
    intro  J hJ hV cc100 cc101 cc102 hm
    refine GoN_in (fun hok hA => ?_)
    have hn2 := ht.1
    have r1 : 0 ≤ (J 235 6) ∧ (J 235 6) ≤ 64 := Rg.f6 hJ
    refine Go_wp (by decide) ckX12_goOn [8, 97] ?_
    refine ⟨_, rfl, (by decide), ?_⟩
    refine ⟨⟨_, rfl, (by decide)⟩, ?_⟩
    have z3 := TXT_z ht (J 235 6)
    refine r_isByte9 (v0 := (J 235 6)) (v1 := 32) (v2 := 32) hF hJ ((hV 236 2 (by first | decide | omega)).trans hl) (TXT_f ht (fun j => hV 236 (1228 + j) (by omega))) (by omega) (by omega) (fun vr4 hr5 q6 q7 q8 => ?_)
    have hr5 : -2147483648 ≤ vr4 ∧ vr4 < 2147483648 := hr5
    have q6 : 0 ≤ vr4 ∧ vr4 ≤ 1 := q6
    have q7 : vr4 = 1 → (32 : Int) ≤ tt ((J 235 6) : Int) ∧ tt ((J 235 6) : Int) ≤ (32 : Int) := q7
    have q8 : vr4 = 0 → ¬ ((32 : Int) ≤ tt ((J 235 6) : Int) ∧ tt ((J 235 6) : Int) ≤ (32 : Int)) := q8
    refine ⟨fun (c9 : ((vr4 : Int) = 0)) => ?_, fun (c9 : (¬ ((vr4 : Int) = 0))) => ?_⟩
    ·
      refine ⟨_, rfl, (by decide), ?_⟩
      refine ⟨_, rfl, (by decide), ?_⟩
      have p10 : (0 : Int) ≤ (J 235 6) ∧ ((J 235 6) : Int) ≤ 64 := by first | omega | (simp only [wr, wl] at *; omega)
      refine ⟨_, rfl, (by decide), ?_⟩
      refine ⟨⟨_, rfl, (by decide)⟩, ?_⟩
      have z11 := TXT_z ht (J 235 6)
      refine r_isByte9 (v0 := (J 235 6)) (v1 := 97) (v2 := 122) hF (Rg.u hJ (Pr_x7 p10)) (((uI_o (show ¬ (236 = 235 ∧ 2 = 7) from fun e => absurd e.1 (Nat.ne_of_beq_eq_false rfl))).trans (hV 236 2 (by first | decide | omega))).trans hl) (TXT_f ht (fun j => (uI_o (show ¬ (236 = 235 ∧ (1228 + j) = 7) from fun e => absurd e.1 (Nat.ne_of_beq_eq_false rfl))).trans (hV 236 (1228 + j) (by omega)))) (by omega) (by omega) (fun vr12 hr13 q14 q15 q16 => ?_)
      have hr13 : -2147483648 ≤ vr12 ∧ vr12 < 2147483648 := hr13
      have q14 : 0 ≤ vr12 ∧ vr12 ≤ 1 := q14
      have q15 : vr12 = 1 → (97 : Int) ≤ tt ((J 235 6) : Int) ∧ tt ((J 235 6) : Int) ≤ (122 : Int) := q15
      have q16 : vr12 = 0 → ¬ ((97 : Int) ≤ tt ((J 235 6) : Int) ∧ tt ((J 235 6) : Int) ≤ (122 : Int)) := q16
      refine ⟨_, rfl, (by decide), ?_⟩
      refine ⟨⟨_, rfl, (by decide)⟩, ?_⟩
      have z17 := TXT_z ht (J 235 6)
      refine r_isByte9 (v0 := (J 235 6)) (v1 := 48) (v2 := 57) hF (Rg.u hJ (Pr_x7 p10)) (((uI_o (show ¬ (236 = 235 ∧ 2 = 7) from fun e => absurd e.1 (Nat.ne_of_beq_eq_false rfl))).trans (hV 236 2 (by first | decide | omega))).trans hl) (TXT_f ht (fun j => (uI_o (show ¬ (236 = 235 ∧ (1228 + j) = 7) from fun e => absurd e.1 (Nat.ne_of_beq_eq_false rfl))).trans (hV 236 (1228 + j) (by omega)))) (by omega) (by omega) (fun vr18 hr19 q20 q21 q22 => ?_)
      have hr19 : -2147483648 ≤ vr18 ∧ vr18 < 2147483648 := hr19
      have q20 : 0 ≤ vr18 ∧ vr18 ≤ 1 := q20
      have q21 : vr18 = 1 → (48 : Int) ≤ tt ((J 235 6) : Int) ∧ tt ((J 235 6) : Int) ≤ (57 : Int) := q21
      have q22 : vr18 = 0 → ¬ ((48 : Int) ≤ tt ((J 235 6) : Int) ∧ tt ((J 235 6) : Int) ≤ (57 : Int)) := q22
      refine ⟨_, rfl, (by decide), ?_⟩
      refine ⟨_, rfl, (by decide), ?_⟩
      refine ⟨_, rfl, (by decide), ?_⟩
      refine fun w0 hw0 => ?_; obtain rfl : w0 = some 236 := hw0.symm.trans (FS.g hF rfl)
      refine ⟨_, rfl, (by decide), (by decide), (by decide), ?_⟩
      have r23 : 0 ≤ (I 236 2) ∧ (I 236 2) ≤ 64 := Rg.n2 hR
      have u24 : (J 236 2) = (I 236 2) := hV _ _ (by first | decide | omega)
      have a25 : -2147483648 ≤ (J 236 2) ∧ (J 236 2) < 2147483648 := hA.1 _ _
      have r26 : 0 ≤ (J 236 2) ∧ (J 236 2) ≤ 64 := Rg.n2 hJ
      refine ⟨fun (c27 : (((J 236 2) : Int) ≤ (J 235 6))) => ?_, fun (c27 : (¬ (((J 236 2) : Int) ≤ (J 235 6)))) => ?_⟩
      ·
        refine ⟨_, rfl, (by decide), ?_⟩
        have n28 : (wr ((J 235 6) + 0)) = (J 235 6) + 0 := wr_id (show -2147483648 ≤ ((J 235 6) + 0 : Int) ∧ ((J 235 6) + 0 : Int) < 2147483648 from by omega)
        have p29 : (0 : Int) ≤ (wr ((J 235 6) + 0)) ∧ ((wr ((J 235 6) + 0)) : Int) ≤ 64 := by first | omega | (simp only [wr, wl] at *; omega)
        refine r_goOn9_l2 hF hR hl ht h2 hQ _ vr12 vr18 (uI (uI J 235 7 (J 235 6)) 235 7 (wr ((J 235 6) + 0))) (Rg.u (Rg.u hJ (Pr_x7 p10)) (Pr_x7 p29)) (fun ka ja hk => ((uI_o (show ¬ (ka = 235 ∧ ja = 7) from by first | (intro e; obtain ⟨rfl, rfl⟩ := e; exact hk (by decide)) | omega))).trans (((uI_o (show ¬ (ka = 235 ∧ ja = 7) from by first | (intro e; obtain ⟨rfl, rfl⟩ := e; exact hk (by decide)) | omega))).trans ((hV ka ja (by omega))))) (show (0 : Int) ≤ vr12 from by first | with_reducible assumption | omega | (simp only [wr, wl] at *; omega)) (show (vr12 : Int) ≤ 1 from by first | with_reducible assumption | omega | (simp only [wr, wl] at *; omega)) (show (0 : Int) ≤ vr18 from by first | with_reducible assumption | omega | (simp only [wr, wl] at *; omega)) (show (vr18 : Int) ≤ 1 from by first | with_reducible assumption | omega | (simp only [wr, wl] at *; omega)) (show I 235 7 ≤ (J 235 6) from by first | with_reducible assumption | omega | (simp only [wr, wl] at *; omega)) (show (J 235 6) ≤ (wr ((J 235 6) + 0)) from by first | with_reducible assumption | omega | (simp only [wr, wl] at *; omega)) (show (wr ((J 235 6) + 0)) ≤ nn from by first | with_reducible assumption | omega | (simp only [wr, wl] at *; omega)) (show (J 235 6) < nn → (J 235 6) < (wr ((J 235 6) + 0)) from by first | with_reducible assumption | omega | (simp only [wr, wl] at *; omega)) ((show IsF tt nn (I 235 7) (J 235 6) from ⟨⟨by omega, by omega⟩, cc102, by omega⟩)) (show ∀ k : Int, (J 235 6) ≤ k → k < (wr ((J 235 6) + 0)) → (vr12 = 1 → 97 ≤ tt k ∧ tt k ≤ 122) ∧ (vr18 = 1 → 48 ≤ tt k ∧ tt k ≤ 57) from fun k h1 h2 => (by
                              have e : k = (J 235 6) := by omega
                              rw [e]; omega)) (show vr12 = 1 → 97 ≤ tt (J 235 6) ∧ tt (J 235 6) ≤ 122 from by first | with_reducible assumption | omega | (simp only [wr, wl] at *; omega)) (show vr12 = 0 → ¬ (97 ≤ tt (J 235 6) ∧ tt (J 235 6) ≤ 122) from by first | with_reducible assumption | omega | (simp only [wr, wl] at *; omega)) (show vr18 = 1 → 48 ≤ tt (J 235 6) ∧ tt (J 235 6) ≤ 57 from by first | with_reducible assumption | omega | (simp only [wr, wl] at *; omega)) (show vr18 = 0 → ¬ (48 ≤ tt (J 235 6) ∧ tt (J 235 6) ≤ 57) from by first | with_reducible assumption | omega | (simp only [wr, wl] at *; omega)) (show vr12 = 0 → vr18 = 0 → ((J 235 6) < nn → (wr ((J 235 6) + 0)) = (J 235 6) + 1) ∧ (¬ (J 235 6) < nn → (wr ((J 235 6) + 0)) = nn) from by first | omega | (simp only [wr, wl] at *; omega)) (Nat.lt_succ_self _)
      ·
        refine ⟨_, rfl, (by decide), ?_⟩
        have n30 : (wr ((J 235 6) + 1)) = (J 235 6) + 1 := wr_id (show -2147483648 ≤ ((J 235 6) + 1 : Int) ∧ ((J 235 6) + 1 : Int) < 2147483648 from by omega)
        have p31 : (0 : Int) ≤ (wr ((J 235 6) + 1)) ∧ ((wr ((J 235 6) + 1)) : Int) ≤ 64 := by first | omega | (simp only [wr, wl] at *; omega)
        refine r_goOn9_l2 hF hR hl ht h2 hQ _ vr12 vr18 (uI (uI J 235 7 (J 235 6)) 235 7 (wr ((J 235 6) + 1))) (Rg.u (Rg.u hJ (Pr_x7 p10)) (Pr_x7 p31)) (fun ka ja hk => ((uI_o (show ¬ (ka = 235 ∧ ja = 7) from by first | (intro e; obtain ⟨rfl, rfl⟩ := e; exact hk (by decide)) | omega))).trans (((uI_o (show ¬ (ka = 235 ∧ ja = 7) from by first | (intro e; obtain ⟨rfl, rfl⟩ := e; exact hk (by decide)) | omega))).trans ((hV ka ja (by omega))))) (show (0 : Int) ≤ vr12 from by first | with_reducible assumption | omega | (simp only [wr, wl] at *; omega)) (show (vr12 : Int) ≤ 1 from by first | with_reducible assumption | omega | (simp only [wr, wl] at *; omega)) (show (0 : Int) ≤ vr18 from by first | with_reducible assumption | omega | (simp only [wr, wl] at *; omega)) (show (vr18 : Int) ≤ 1 from by first | with_reducible assumption | omega | (simp only [wr, wl] at *; omega)) (show I 235 7 ≤ (J 235 6) from by first | with_reducible assumption | omega | (simp only [wr, wl] at *; omega)) (show (J 235 6) ≤ (wr ((J 235 6) + 1)) from by first | with_reducible assumption | omega | (simp only [wr, wl] at *; omega)) (show (wr ((J 235 6) + 1)) ≤ nn from by first | with_reducible assumption | omega | (simp only [wr, wl] at *; omega)) (show (J 235 6) < nn → (J 235 6) < (wr ((J 235 6) + 1)) from by first | with_reducible assumption | omega | (simp only [wr, wl] at *; omega)) ((show IsF tt nn (I 235 7) (J 235 6) from ⟨⟨by omega, by omega⟩, cc102, by omega⟩)) (show ∀ k : Int, (J 235 6) ≤ k → k < (wr ((J 235 6) + 1)) → (vr12 = 1 → 97 ≤ tt k ∧ tt k ≤ 122) ∧ (vr18 = 1 → 48 ≤ tt k ∧ tt k ≤ 57) from fun k h1 h2 => (by
                              have e : k = (J 235 6) := by omega
                              rw [e]; omega)) (show vr12 = 1 → 97 ≤ tt (J 235 6) ∧ tt (J 235 6) ≤ 122 from by first | with_reducible assumption | omega | (simp only [wr, wl] at *; omega)) (show vr12 = 0 → ¬ (97 ≤ tt (J 235 6) ∧ tt (J 235 6) ≤ 122) from by first | with_reducible assumption | omega | (simp only [wr, wl] at *; omega)) (show vr18 = 1 → 48 ≤ tt (J 235 6) ∧ tt (J 235 6) ≤ 57 from by first | with_reducible assumption | omega | (simp only [wr, wl] at *; omega)) (show vr18 = 0 → ¬ (48 ≤ tt (J 235 6) ∧ tt (J 235 6) ≤ 57) from by first | with_reducible assumption | omega | (simp only [wr, wl] at *; omega)) (show vr12 = 0 → vr18 = 0 → ((J 235 6) < nn → (wr ((J 235 6) + 1)) = (J 235 6) + 1) ∧ (¬ (J 235 6) < nn → (wr ((J 235 6) + 1)) = nn) from by first | omega | (simp only [wr, wl] at *; omega)) (Nat.lt_succ_self _)
    ·
      refine ⟨_, rfl, (by decide), ?_⟩
      refine ⟨_, rfl, (by decide), ?_⟩
      have n32 : (wr ((J 235 6) + 1)) = (J 235 6) + 1 := wr_id (show -2147483648 ≤ ((J 235 6) + 1 : Int) ∧ ((J 235 6) + 1 : Int) < 2147483648 from by omega)
      have p33 : (0 : Int) ≤ (wr ((J 235 6) + 1)) ∧ ((wr ((J 235 6) + 1)) : Int) ≤ 64 := by first | omega | (simp only [wr, wl] at *; omega)
      exact ih  (uI J 235 6 (wr ((J 235 6) + 1))) (Rg.u hJ (Pr_x6 p33)) (fun ka ja hk => ((uI_o (show ¬ (ka = 235 ∧ ja = 6) from by first | (intro e; obtain ⟨rfl, rfl⟩ := e; exact hk (by decide)) | omega))).trans ((hV ka ja (by omega)))) (show I 235 7 ≤ (wr ((J 235 6) + 1)) from by first | with_reducible assumption | omega | (simp only [wr, wl] at *; omega)) (show (wr ((J 235 6) + 1)) ≤ nn from by first | with_reducible assumption | omega | (simp only [wr, wl] at *; omega)) (show ∀ k : Int, I 235 7 ≤ k → k < (wr ((J 235 6) + 1)) → tt k = 32 from fun k h1 h2 => if e : k = J 235 6 then (by rw [e]; omega) else cc102 k h1 (by omega)) (show (64 - (wr ((J 235 6) + 1))).toNat < mz from by omega)
theorem r_goOn9 (hF : FS F) (hR : Rg I) {tt : Int → Int} {nn : Int} (hl : I 236 2 = nn) (ht : TXT tt nn (fun j => I 236 (1228 + j))) (h2 : I 235 7 ≤ I 236 2) (hQ : ∀ (I' : pI), Rg I' → AR I' → (∀ k j, ¬ ((k = 235 ∧ (j = 6 ∨ j = 7))) → I' k j = I k j) → ((I 235 7) ≤ (I' 235 6)) → ((I' 235 6) ≤ (I' 235 7)) → ((I' 235 7) ≤ (I 236 2)) → ((I' 235 6) < (I 236 2) → (I' 235 6) < (I' 235 7)) → (Tok tt nn (I 235 7) (I' 235 6) (I' 235 7)) → Q none F I') : CallN G (d + 2) kX12_goOn [vr 235] NP F I Q := by
  refine CallN_in (fun hok hA => CallN_out ?_)
  have hn2 := ht.1
  refine Call_wp (lv := [some (vr 235), none, none]) (by decide) ckX12_goOn [8] rfl rfl ?_
  refine ⟨_, rfl, (by decide), ?_⟩
  have r1 : 0 ≤ (I 235 7) ∧ (I 235 7) ≤ 64 := Rg.f7 hR
  refine ⟨_, rfl, (by decide), ?_⟩
  have p3 : (0 : Int) ≤ (I 235 7) ∧ ((I 235 7) : Int) ≤ 64 := by first | omega | (simp only [wr, wl] at *; omega)
  refine r_goOn9_l1 hF hR hl ht h2 (fun I' g1 g2 g3 g4 g5 g6 g7 hv hA' => hQ _ g1 hA' g2 g3 g4 g5 g6 g7) _  (uI I 235 6 (I 235 7)) (Rg.u hR (Pr_x6 p3)) (fun ka ja hk => (uI_o (show ¬ (ka = 235 ∧ ja = 6) from by first | (intro e; obtain ⟨rfl, rfl⟩ := e; exact hk (by decide)) | omega))) (show I 235 7 ≤ (I 235 7) from by first | with_reducible assumption | omega | (simp only [wr, wl] at *; omega)) (show (I 235 7) ≤ nn from by first | with_reducible assumption | omega | (simp only [wr, wl] at *; omega)) (show ∀ k : Int, I 235 7 ≤ k → k < (I 235 7) → tt k = 32 from fun k h1 h2 => absurd h2 (by omega)) (Nat.lt_succ_self _)
theorem r_takes9_9 (hF : FS F) (hR : Rg I) {tt : Int → Int} {nn : Int} (hl : I 236 2 = nn) (ht : TXT tt nn (fun j => I 236 (1228 + j))) (h1 : I 235 6 ≤ I 235 7) (h2 : I 235 7 ≤ I 236 2) (h3 : I 235 6 < I 236 2 → I 235 6 < I 235 7) (hQ : ∀ (r : Int) (I' : pI), Rg I' → AR I' → iR r → (∀ k j, ¬ ((k = 235 ∧ (j = 6 ∨ j = 7))) → I' k j = I k j) → (r = 1 → (I 235 6) + 2 ≤ (I' 235 6)) → ((I' 235 6) ≤ (I' 235 7)) → ((I' 235 7) ≤ (I 236 2)) → ((I' 235 6) < (I 236 2) → (I' 235 6) < (I' 235 7)) → ((I 235 6) ≤ (I' 235 6)) → (r = 1 → (I 235 8) = 0 ∧ ((I 235 7) - (I 235 6) = 2 ∧ tt (I 235 6) = 103 ∧ tt ((I 235 6) + 1) = 111)) → (0 ≤ r ∧ r ≤ 1) → (r = 0 → ¬ ((I 235 8) = 0 ∧ ((I 235 7) - (I 235 6) = 2 ∧ tt (I 235 6) = 103 ∧ tt ((I 235 6) + 1) = 111))) → (r = 0 → (I' 235 6) = (I 235 6) ∧ (I' 235 7) = (I 235 7)) → (r = 1 → Tok tt nn (I 235 7) (I' 235 6) (I' 235 7)) → Q (some (vi r)) F I') : CallN G (d + 4) kX12_takes [vr 235, vr 4115] NP F I Q := by
  refine CallN_in (fun hok hA => CallN_out ?_)
  have hn2 := ht.1
  have g2 := Rg.n2 hR
  refine Call_wp (lv := [some (vr 235), some (vr 4115), none, none]) (by decide) ckX12_takes [] rfl rfl ?_
  refine ⟨_, rfl, (by decide), ?_⟩
  have a1 : -2147483648 ≤ (I 235 8) ∧ (I 235 8) < 2147483648 := hA.1 _ _
  refine ⟨fun (c2 : (¬ ((I 235 8) : Int) = 0)) => ?_, fun (c2 : (((I 235 8) : Int) = 0)) => ?_⟩
  ·
    refine ⟨fun _ => ?_, fun c => absurd (show ((0 : Int) = 0) from by decide) c⟩
    refine ⟨fun _ => ?_, fun c => absurd (show ((0 : Int) = 0) from by decide) c⟩
    have r3 : 0 ≤ (I 235 6) ∧ (I 235 6) ≤ 64 := Rg.f6 hR
    have r5 : 0 ≤ (I 235 7) ∧ (I 235 7) ≤ 64 := Rg.f7 hR
    have r7 : 0 ≤ (I 236 2) ∧ (I 236 2) ≤ 64 := Rg.n2 hR
    exact ⟨rfl, (by decide), fun hv hA' => hQ _ _ hR hA' (hv _ rfl) (fun _ _ _ => rfl) (show 0 = 1 → (I 235 6) + 2 ≤ (I 235 6) from fun z => absurd z (by decide)) (show (I 235 6) ≤ (I 235 7) from by first | with_reducible assumption | omega | (simp only [wr, wl] at *; omega)) (show (I 235 7) ≤ (I 236 2) from by first | with_reducible assumption | omega | (simp only [wr, wl] at *; omega)) (show (I 235 6) < (I 236 2) → (I 235 6) < (I 235 7) from by first | with_reducible assumption | omega | (simp only [wr, wl] at *; omega)) (show (I 235 6) ≤ (I 235 6) from Int.le_refl _) (show 0 = 1 → (I 235 8) = 0 ∧ ((I 235 7) - (I 235 6) = 2 ∧ tt (I 235 6) = 103 ∧ tt ((I 235 6) + 1) = 111) from fun z => absurd z (by decide)) (show 0 ≤ 0 ∧ 0 ≤ 1 from by decide) (show 0 = 0 → ¬ ((I 235 8) = 0 ∧ ((I 235 7) - (I 235 6) = 2 ∧ tt (I 235 6) = 103 ∧ tt ((I 235 6) + 1) = 111)) from by first | omega | (simp only [wr, wl] at *; omega)) (show 0 = 0 → (I 235 6) = (I 235 6) ∧ (I 235 7) = (I 235 7) from fun _ => ⟨rfl, rfl⟩) (fun z => absurd z (by decide))⟩
  ·
    refine ⟨_, rfl, (by decide), ?_⟩
    have r9 : 0 ≤ (I 235 7) ∧ (I 235 7) ≤ 64 := Rg.f7 hR
    refine ⟨_, rfl, (by decide), ?_⟩
    have r10 : 0 ≤ (I 235 6) ∧ (I 235 6) ≤ 64 := Rg.f6 hR
    refine ⟨⟨9, (by decide), rfl⟩, ?_⟩
    refine Call_wp (lv := [some (vr 4115)]) (by decide) ckJ0_length_8abf5 [] rfl rfl ?_
    refine ⟨9, (by decide), rfl, ?_⟩
    refine Or.inr (Or.inr ⟨9, (by decide), rfl, ?_⟩)
    refine ⟨⟨9, (by decide), rfl⟩, ?_⟩
    refine Call_wp (lv := [some (vr 4115)]) (by decide) ckJ0_coder_7d493 [] rfl rfl ?_
    refine ⟨fun c => absurd c (show (¬ ((1 : Int) = 0)) from by decide), fun _ => ?_⟩
    refine ⟨9, (by decide), rfl, ?_⟩
    refine ⟨rfl, (by decide), ?_⟩
    refine ⟨rfl, ?_⟩
    have n13 : (wr ((I 235 7) - (I 235 6))) = (I 235 7) - (I 235 6) := wr_id (show -2147483648 ≤ ((I 235 7) - (I 235 6) : Int) ∧ ((I 235 7) - (I 235 6) : Int) < 2147483648 from by omega)
    refine ⟨fun (c14 : (¬ ((wr ((I 235 7) - (I 235 6))) : Int) = 2)) => ?_, fun (c14 : (((wr ((I 235 7) - (I 235 6))) : Int) = 2)) => ?_⟩
    ·
      refine ⟨fun _ => ?_, fun c => absurd (show ((0 : Int) = 0) from by decide) c⟩
      refine ⟨fun _ => ?_, fun c => absurd (show ((0 : Int) = 0) from by decide) c⟩
      have r15 : 0 ≤ (I 236 2) ∧ (I 236 2) ≤ 64 := Rg.n2 hR
      exact ⟨rfl, (by decide), fun hv hA' => hQ _ _ hR hA' (hv _ rfl) (fun _ _ _ => rfl) (show 0 = 1 → (I 235 6) + 2 ≤ (I 235 6) from fun z => absurd z (by decide)) (show (I 235 6) ≤ (I 235 7) from by first | with_reducible assumption | omega | (simp only [wr, wl] at *; omega)) (show (I 235 7) ≤ (I 236 2) from by first | with_reducible assumption | omega | (simp only [wr, wl] at *; omega)) (show (I 235 6) < (I 236 2) → (I 235 6) < (I 235 7) from by first | with_reducible assumption | omega | (simp only [wr, wl] at *; omega)) (show (I 235 6) ≤ (I 235 6) from Int.le_refl _) (show 0 = 1 → (I 235 8) = 0 ∧ ((I 235 7) - (I 235 6) = 2 ∧ tt (I 235 6) = 103 ∧ tt ((I 235 6) + 1) = 111) from fun z => absurd z (by decide)) (show 0 ≤ 0 ∧ 0 ≤ 1 from by decide) (show 0 = 0 → ¬ ((I 235 8) = 0 ∧ ((I 235 7) - (I 235 6) = 2 ∧ tt (I 235 6) = 103 ∧ tt ((I 235 6) + 1) = 111)) from by first | omega | (simp only [wr, wl] at *; omega)) (show 0 = 0 → (I 235 6) = (I 235 6) ∧ (I 235 7) = (I 235 7) from fun _ => ⟨rfl, rfl⟩) (fun z => absurd z (by decide))⟩
    ·
      refine ⟨fun c => absurd c (show (¬ ((1 : Int) = 0)) from by decide), fun _ => ?_⟩
      refine ⟨⟨9, (by decide), rfl⟩, ?_⟩
      refine Call_wp (lv := [some (vr 4115)]) (by decide) ckJ0_length_8abf5 [] rfl rfl ?_
      refine ⟨9, (by decide), rfl, ?_⟩
      refine Or.inr (Or.inr ⟨9, (by decide), rfl, ?_⟩)
      refine ⟨⟨9, (by decide), rfl⟩, ?_⟩
      refine Call_wp (lv := [some (vr 4115)]) (by decide) ckJ0_coder_7d493 [] rfl rfl ?_
      refine ⟨fun c => absurd c (show (¬ ((1 : Int) = 0)) from by decide), fun _ => ?_⟩
      refine ⟨9, (by decide), rfl, ?_⟩
      refine ⟨rfl, (by decide), ?_⟩
      refine ⟨rfl, ?_⟩
      refine ⟨fun c => absurd c (show (¬ ((2 : Int) ≤ 0)) from by decide), fun _ => ?_⟩
      refine ⟨_, rfl, (by decide), ?_⟩
      refine fun w0 hw0 => ?_; obtain rfl : w0 = some 236 := hw0.symm.trans (FS.g hF rfl)
      refine ⟨_, rfl, (by decide), ?_⟩
      have n17 : (wr (1228 + (I 235 6))) = 1228 + (I 235 6) := wr_id (show -2147483648 ≤ (1228 + (I 235 6) : Int) ∧ (1228 + (I 235 6) : Int) < 2147483648 from by omega)
      have n18 : (wr ((wr (1228 + (I 235 6))) + 0)) = (wr (1228 + (I 235 6))) + 0 := wr_id (show -2147483648 ≤ ((wr (1228 + (I 235 6))) + 0 : Int) ∧ ((wr (1228 + (I 235 6))) + 0 : Int) < 2147483648 from by omega)
      refine ⟨_, rfl, (by decide), (show (0 : Int) ≤ (wr ((wr (1228 + (I 235 6))) + 0)) from by first | with_reducible assumption | omega | (simp only [wr, wl] at *; omega)), (show (wr ((wr (1228 + (I 235 6))) + 0)) < (1340 : Int) from by first | with_reducible assumption | omega | (simp only [wr, wl] at *; omega)), ?_⟩
      have z19 := TXT_b ht (I 235 6)
      have z20 : (I 236 (Int.toNat (wr ((wr (1228 + (I 235 6))) + 0)))) = (I 236 (1228 + Int.toNat (I 235 6))) := congrArg (I 236) (by omega)
      have r21 : 0 ≤ (I 236 (Int.toNat (wr ((wr (1228 + (I 235 6))) + 0)))) ∧ (I 236 (Int.toNat (wr ((wr (1228 + (I 235 6))) + 0)))) ≤ 255 := Pn_t (by omega) (hR.n (Int.toNat (wr ((wr (1228 + (I 235 6))) + 0))) (by omega))
      refine ⟨⟨9, (by decide), rfl⟩, ?_⟩
      refine Call_wp (lv := [some (vr 4115), some (vi 0)]) (by decide) ckJ0_charAt_5068e [] rfl rfl ?_
      refine ⟨⟨9, (by decide), rfl⟩, ?_⟩
      refine Call_wp (lv := [some (vr 4115)]) (by decide) ckJ0_isLatin1_aae02 [] rfl rfl ?_
      refine ⟨fun c => absurd c (show (¬ ((1 : Int) = 0)) from by decide), fun _ => ?_⟩
      refine ⟨9, (by decide), rfl, ?_⟩
      refine ⟨fun c => absurd (show ((0 : Int) = 0) from by decide) c, fun _ => ?_⟩
      refine ⟨rfl, (by decide), ?_⟩
      refine ⟨fun c => absurd c (show (¬ ((1 : Int) = 0)) from by decide), fun _ => ?_⟩
      refine ⟨9, (by decide), rfl, ?_⟩
      refine Call_wp (lv := [some (vr 4145), some (vi 0)]) (by decide) ckJ1_charAt_3b067 [] rfl rfl ?_
      refine Or.inr (Or.inr ⟨9, (by decide), rfl, ?_⟩)
      refine j_check (i := 0) (n := 2) (by omega) ?_
      refine ⟨9, (by decide), rfl, (by decide), (by decide), ?_⟩
      refine ⟨rfl, (by decide), ?_⟩
      refine ⟨rfl, (by decide), ?_⟩
      refine ⟨fun (c23 : (¬ ((I 236 (Int.toNat (wr ((wr (1228 + (I 235 6))) + 0)))) : Int) = 103)) => ?_, fun (c23 : (((I 236 (Int.toNat (wr ((wr (1228 + (I 235 6))) + 0)))) : Int) = 103)) => ?_⟩
      ·
        replace z19 : ¬ tt (I 235 6) = 103 := by omega
        refine ⟨fun _ => ?_, fun c => absurd (show ((0 : Int) = 0) from by decide) c⟩
        refine ⟨fun _ => ?_, fun c => absurd (show ((0 : Int) = 0) from by decide) c⟩
        have r24 : 0 ≤ (I 236 2) ∧ (I 236 2) ≤ 64 := Rg.n2 hR
        exact ⟨rfl, (by decide), fun hv hA' => hQ _ _ hR hA' (hv _ rfl) (fun _ _ _ => rfl) (show 0 = 1 → (I 235 6) + 2 ≤ (I 235 6) from fun z => absurd z (by decide)) (show (I 235 6) ≤ (I 235 7) from by first | with_reducible assumption | omega | (simp only [wr, wl] at *; omega)) (show (I 235 7) ≤ (I 236 2) from by first | with_reducible assumption | omega | (simp only [wr, wl] at *; omega)) (show (I 235 6) < (I 236 2) → (I 235 6) < (I 235 7) from by first | with_reducible assumption | omega | (simp only [wr, wl] at *; omega)) (show (I 235 6) ≤ (I 235 6) from Int.le_refl _) (show 0 = 1 → (I 235 8) = 0 ∧ ((I 235 7) - (I 235 6) = 2 ∧ tt (I 235 6) = 103 ∧ tt ((I 235 6) + 1) = 111) from fun z => absurd z (by decide)) (show 0 ≤ 0 ∧ 0 ≤ 1 from by decide) (show 0 = 0 → ¬ ((I 235 8) = 0 ∧ ((I 235 7) - (I 235 6) = 2 ∧ tt (I 235 6) = 103 ∧ tt ((I 235 6) + 1) = 111)) from by first | omega | (simp only [wr, wl] at *; omega)) (show 0 = 0 → (I 235 6) = (I 235 6) ∧ (I 235 7) = (I 235 7) from fun _ => ⟨rfl, rfl⟩) (fun z => absurd z (by decide))⟩
      ·
        replace z19 : tt (I 235 6) = 103 := by omega
        refine ⟨fun c => absurd c (show (¬ ((1 : Int) = 0)) from by decide), fun _ => ?_⟩
        refine ⟨⟨9, (by decide), rfl⟩, ?_⟩
        refine Call_wp (lv := [some (vr 4115)]) (by decide) ckJ0_length_8abf5 [] rfl rfl ?_
        refine ⟨9, (by decide), rfl, ?_⟩
        refine Or.inr (Or.inr ⟨9, (by decide), rfl, ?_⟩)
        refine ⟨⟨9, (by decide), rfl⟩, ?_⟩
        refine Call_wp (lv := [some (vr 4115)]) (by decide) ckJ0_coder_7d493 [] rfl rfl ?_
        refine ⟨fun c => absurd c (show (¬ ((1 : Int) = 0)) from by decide), fun _ => ?_⟩
        refine ⟨9, (by decide), rfl, ?_⟩
        refine ⟨rfl, (by decide), ?_⟩
        refine ⟨rfl, ?_⟩
        refine ⟨fun c => absurd c (show (¬ ((2 : Int) ≤ 1)) from by decide), fun _ => ?_⟩
        refine ⟨_, rfl, (by decide), ?_⟩
        refine fun w0 hw0 => ?_; obtain rfl : w0 = some 236 := hw0.symm.trans (FS.g hF rfl)
        refine ⟨_, rfl, (by decide), ?_⟩
        have n26 : (wr ((wr (1228 + (I 235 6))) + 1)) = (wr (1228 + (I 235 6))) + 1 := wr_id (show -2147483648 ≤ ((wr (1228 + (I 235 6))) + 1 : Int) ∧ ((wr (1228 + (I 235 6))) + 1 : Int) < 2147483648 from by omega)
        refine ⟨_, rfl, (by decide), (show (0 : Int) ≤ (wr ((wr (1228 + (I 235 6))) + 1)) from by first | with_reducible assumption | omega | (simp only [wr, wl] at *; omega)), (show (wr ((wr (1228 + (I 235 6))) + 1)) < (1340 : Int) from by first | with_reducible assumption | omega | (simp only [wr, wl] at *; omega)), ?_⟩
        have z27 := TXT_b ht ((I 235 6) + 1)
        have z28 : (I 236 (Int.toNat (wr ((wr (1228 + (I 235 6))) + 1)))) = (I 236 (1228 + Int.toNat ((I 235 6) + 1))) := congrArg (I 236) (by omega)
        refine ⟨⟨9, (by decide), rfl⟩, ?_⟩
        refine Call_wp (lv := [some (vr 4115), some (vi 1)]) (by decide) ckJ0_charAt_5068e [] rfl rfl ?_
        refine ⟨⟨9, (by decide), rfl⟩, ?_⟩
        refine Call_wp (lv := [some (vr 4115)]) (by decide) ckJ0_isLatin1_aae02 [] rfl rfl ?_
        refine ⟨fun c => absurd c (show (¬ ((1 : Int) = 0)) from by decide), fun _ => ?_⟩
        refine ⟨9, (by decide), rfl, ?_⟩
        refine ⟨fun c => absurd (show ((0 : Int) = 0) from by decide) c, fun _ => ?_⟩
        refine ⟨rfl, (by decide), ?_⟩
        refine ⟨fun c => absurd c (show (¬ ((1 : Int) = 0)) from by decide), fun _ => ?_⟩
        refine ⟨9, (by decide), rfl, ?_⟩
        refine Call_wp (lv := [some (vr 4145), some (vi 1)]) (by decide) ckJ1_charAt_3b067 [] rfl rfl ?_
        refine Or.inr (Or.inr ⟨9, (by decide), rfl, ?_⟩)
        refine j_check (i := 1) (n := 2) (by omega) ?_
        refine ⟨9, (by decide), rfl, (by decide), (by decide), ?_⟩
        refine ⟨rfl, (by decide), ?_⟩
        refine ⟨rfl, (by decide), ?_⟩
        have a29 : -2147483648 ≤ (I 236 (Int.toNat (wr ((wr (1228 + (I 235 6))) + 1)))) ∧ (I 236 (Int.toNat (wr ((wr (1228 + (I 235 6))) + 1)))) < 2147483648 := hA.1 _ _
        refine ⟨fun (c30 : (¬ ((I 236 (Int.toNat (wr ((wr (1228 + (I 235 6))) + 1)))) : Int) = 111)) => ?_, fun (c30 : (((I 236 (Int.toNat (wr ((wr (1228 + (I 235 6))) + 1)))) : Int) = 111)) => ?_⟩
        ·
          replace z27 : ¬ tt ((I 235 6) + 1) = 111 := by omega
          refine ⟨fun _ => ?_, fun c => absurd (show ((0 : Int) = 0) from by decide) c⟩
          refine ⟨fun _ => ?_, fun c => absurd (show ((0 : Int) = 0) from by decide) c⟩
          have r31 : 0 ≤ (I 236 2) ∧ (I 236 2) ≤ 64 := Rg.n2 hR
          exact ⟨rfl, (by decide), fun hv hA' => hQ _ _ hR hA' (hv _ rfl) (fun _ _ _ => rfl) (show 0 = 1 → (I 235 6) + 2 ≤ (I 235 6) from fun z => absurd z (by decide)) (show (I 235 6) ≤ (I 235 7) from by first | with_reducible assumption | omega | (simp only [wr, wl] at *; omega)) (show (I 235 7) ≤ (I 236 2) from by first | with_reducible assumption | omega | (simp only [wr, wl] at *; omega)) (show (I 235 6) < (I 236 2) → (I 235 6) < (I 235 7) from by first | with_reducible assumption | omega | (simp only [wr, wl] at *; omega)) (show (I 235 6) ≤ (I 235 6) from Int.le_refl _) (show 0 = 1 → (I 235 8) = 0 ∧ ((I 235 7) - (I 235 6) = 2 ∧ tt (I 235 6) = 103 ∧ tt ((I 235 6) + 1) = 111) from fun z => absurd z (by decide)) (show 0 ≤ 0 ∧ 0 ≤ 1 from by decide) (show 0 = 0 → ¬ ((I 235 8) = 0 ∧ ((I 235 7) - (I 235 6) = 2 ∧ tt (I 235 6) = 103 ∧ tt ((I 235 6) + 1) = 111)) from by first | omega | (simp only [wr, wl] at *; omega)) (show 0 = 0 → (I 235 6) = (I 235 6) ∧ (I 235 7) = (I 235 7) from fun _ => ⟨rfl, rfl⟩) (fun z => absurd z (by decide))⟩
        ·
          replace z27 : tt ((I 235 6) + 1) = 111 := by omega
          refine ⟨fun c => absurd c (show (¬ ((1 : Int) = 0)) from by decide), fun _ => ?_⟩
          refine ⟨⟨9, (by decide), rfl⟩, ?_⟩
          refine Call_wp (lv := [some (vr 4115)]) (by decide) ckJ0_length_8abf5 [] rfl rfl ?_
          refine ⟨9, (by decide), rfl, ?_⟩
          refine Or.inr (Or.inr ⟨9, (by decide), rfl, ?_⟩)
          refine ⟨⟨9, (by decide), rfl⟩, ?_⟩
          refine Call_wp (lv := [some (vr 4115)]) (by decide) ckJ0_coder_7d493 [] rfl rfl ?_
          refine ⟨fun c => absurd c (show (¬ ((1 : Int) = 0)) from by decide), fun _ => ?_⟩
          refine ⟨9, (by decide), rfl, ?_⟩
          refine ⟨rfl, (by decide), ?_⟩
          refine ⟨rfl, ?_⟩
          refine ⟨fun _ => ?_, fun c => absurd (show ((2 : Int) ≤ 2) from by decide) c⟩
          refine ⟨fun c => absurd c (show (¬ ((1 : Int) = 0)) from by decide), fun _ => ?_⟩
          refine ⟨⟨_, rfl, (by decide)⟩, ?_⟩
          have r33 : 0 ≤ (I 236 2) ∧ (I 236 2) ≤ 64 := Rg.n2 hR
          refine r_goOn9  hF hR (hl) ht (show (I 235 7) ≤ (I 236 2) from by first | with_reducible assumption | omega | (simp only [wr, wl] at *; omega)) (fun I35 hR36 hA37 hW38 q39 q40 q41 q42 qr43 => ?_)
          have q39 : (I 235 7) ≤ (I35 235 6) := q39
          have q40 : (I35 235 6) ≤ (I35 235 7) := q40
          have q41 : (I35 235 7) ≤ (I 236 2) := q41
          have q42 : (I35 235 6) < (I 236 2) → (I35 235 6) < (I35 235 7) := q42
          have r44 : 0 ≤ (I35 235 6) ∧ (I35 235 6) ≤ 64 := Rg.f6 hR36
          have r46 : 0 ≤ (I35 235 7) ∧ (I35 235 7) ≤ 64 := Rg.f7 hR36
          exact ⟨rfl, (by decide), fun hv hA' => hQ _ _ hR36 hA' (hv _ rfl) (fun ka ja hk => (hW38 ka ja (by omega))) (show 1 = 1 → (I 235 6) + 2 ≤ (I35 235 6) from by first | with_reducible assumption | omega | (simp only [wr, wl] at *; omega)) (show (I35 235 6) ≤ (I35 235 7) from by first | with_reducible assumption | omega | (simp only [wr, wl] at *; omega)) (show (I35 235 7) ≤ (I 236 2) from by first | with_reducible assumption | omega | (simp only [wr, wl] at *; omega)) (show (I35 235 6) < (I 236 2) → (I35 235 6) < (I35 235 7) from by first | with_reducible assumption | omega | (simp only [wr, wl] at *; omega)) (show (I 235 6) ≤ (I35 235 6) from by first | with_reducible assumption | omega | (simp only [wr, wl] at *; omega)) (show 1 = 1 → (I 235 8) = 0 ∧ ((I 235 7) - (I 235 6) = 2 ∧ tt (I 235 6) = 103 ∧ tt ((I 235 6) + 1) = 111) from by first | omega | (simp only [wr, wl] at *; omega)) (show 0 ≤ 1 ∧ 1 ≤ 1 from by decide) (show 1 = 0 → ¬ ((I 235 8) = 0 ∧ ((I 235 7) - (I 235 6) = 2 ∧ tt (I 235 6) = 103 ∧ tt ((I 235 6) + 1) = 111)) from fun z => absurd z (by decide)) (show 1 = 0 → (I35 235 6) = (I 235 6) ∧ (I35 235 7) = (I 235 7) from fun z => absurd z (by decide)) (fun _ => qr43)⟩
theorem r_tk9_9 (hF : FS F) (hR : Rg I) {tt : Int → Int} {nn : Int} (hl : I 236 2 = nn) (ht : TXT tt nn (fun j => I 236 (1228 + j))) (h1 : I 235 6 ≤ I 235 7) (h2 : I 235 7 ≤ I 236 2) (h3 : I 235 6 < I 236 2 → I 235 6 < I 235 7) (h1' : ∀ I' : pI, Rg I' → AR I' → (∀ k j, ¬ ((k = 235 ∧ (j = 6 ∨ j = 7))) → I' k j = I k j) → I 235 8 = 0 → mkW1 tt (I 235 6) (I 235 7) → I 235 7 - I 235 6 = 2 → I 235 6 + 2 ≤ I' 235 6 → I' 235 6 ≤ I' 235 7 → I' 235 7 ≤ I 236 2 → (I' 235 6 < I 236 2 → I' 235 6 < I' 235 7) → Tok tt nn (I 235 7) (I' 235 6) (I' 235 7) → Q (some (vi 1)) F I') (h0' : ¬ (I 235 8 = 0 ∧ mkW1 tt (I 235 6) (I 235 7)) → Q (some (vi 0)) F I) : CallN G (d + 4) kX12_takes [vr 235, vr 4115] NP F I Q := by
  refine r_takes9_9 hF hR hl ht h1 h2 h3 (fun r I' hR' hA' _ hW q1 q2 q3 q4 q5 q6 q7 q8 q9 qr => ?_)
  by_cases e : r = 1
  · rw [e]; exact h1' I' hR' hA' hW (q6 e).1 (q6 e).2 (q6 e).2.1 (q1 e) q2 q3 q4 (qr e)
  · have e0 : r = 0 := by omega
    have hI : I' = I := funext (fun k => funext (fun j => by
      by_cases c : k = 235 ∧ (j = 6 ∨ j = 7)
      · obtain ⟨rfl, c⟩ := c
        rcases c with rfl | rfl
        · exact (q9 e0).1
        · exact (q9 e0).2
      · exact hW k j c))
    rw [e0, hI]; exact h0' (q8 e0)
theorem r_takes9_10 (hF : FS F) (hR : Rg I) {tt : Int → Int} {nn : Int} (hl : I 236 2 = nn) (ht : TXT tt nn (fun j => I 236 (1228 + j))) (h1 : I 235 6 ≤ I 235 7) (h2 : I 235 7 ≤ I 236 2) (h3 : I 235 6 < I 236 2 → I 235 6 < I 235 7) (hQ : ∀ (r : Int) (I' : pI), Rg I' → AR I' → iR r → (∀ k j, ¬ ((k = 235 ∧ (j = 6 ∨ j = 7))) → I' k j = I k j) → (r = 1 → (I 235 6) + 4 ≤ (I' 235 6)) → ((I' 235 6) ≤ (I' 235 7)) → ((I' 235 7) ≤ (I 236 2)) → ((I' 235 6) < (I 236 2) → (I' 235 6) < (I' 235 7)) → ((I 235 6) ≤ (I' 235 6)) → (r = 1 → (I 235 8) = 0 ∧ ((I 235 7) - (I 235 6) = 4 ∧ tt (I 235 6) = 108 ∧ tt ((I 235 6) + 1) = 111 ∧ tt ((I 235 6) + 2) = 97 ∧ tt ((I 235 6) + 3) = 100)) → (0 ≤ r ∧ r ≤ 1) → (r = 0 → ¬ ((I 235 8) = 0 ∧ ((I 235 7) - (I 235 6) = 4 ∧ tt (I 235 6) = 108 ∧ tt ((I 235 6) + 1) = 111 ∧ tt ((I 235 6) + 2) = 97 ∧ tt ((I 235 6) + 3) = 100))) → (r = 0 → (I' 235 6) = (I 235 6) ∧ (I' 235 7) = (I 235 7)) → (r = 1 → Tok tt nn (I 235 7) (I' 235 6) (I' 235 7)) → Q (some (vi r)) F I') : CallN G (d + 4) kX12_takes [vr 235, vr 4116] NP F I Q := by
  refine CallN_in (fun hok hA => CallN_out ?_)
  have hn2 := ht.1
  have g2 := Rg.n2 hR
  refine Call_wp (lv := [some (vr 235), some (vr 4116), none, none]) (by decide) ckX12_takes [] rfl rfl ?_
  refine ⟨_, rfl, (by decide), ?_⟩
  have a1 : -2147483648 ≤ (I 235 8) ∧ (I 235 8) < 2147483648 := hA.1 _ _
  refine ⟨fun (c2 : (¬ ((I 235 8) : Int) = 0)) => ?_, fun (c2 : (((I 235 8) : Int) = 0)) => ?_⟩
  ·
    refine ⟨fun _ => ?_, fun c => absurd (show ((0 : Int) = 0) from by decide) c⟩
    refine ⟨fun _ => ?_, fun c => absurd (show ((0 : Int) = 0) from by decide) c⟩
    have r3 : 0 ≤ (I 235 6) ∧ (I 235 6) ≤ 64 := Rg.f6 hR
    have r5 : 0 ≤ (I 235 7) ∧ (I 235 7) ≤ 64 := Rg.f7 hR
    have r7 : 0 ≤ (I 236 2) ∧ (I 236 2) ≤ 64 := Rg.n2 hR
    exact ⟨rfl, (by decide), fun hv hA' => hQ _ _ hR hA' (hv _ rfl) (fun _ _ _ => rfl) (show 0 = 1 → (I 235 6) + 4 ≤ (I 235 6) from fun z => absurd z (by decide)) (show (I 235 6) ≤ (I 235 7) from by first | with_reducible assumption | omega | (simp only [wr, wl] at *; omega)) (show (I 235 7) ≤ (I 236 2) from by first | with_reducible assumption | omega | (simp only [wr, wl] at *; omega)) (show (I 235 6) < (I 236 2) → (I 235 6) < (I 235 7) from by first | with_reducible assumption | omega | (simp only [wr, wl] at *; omega)) (show (I 235 6) ≤ (I 235 6) from Int.le_refl _) (show 0 = 1 → (I 235 8) = 0 ∧ ((I 235 7) - (I 235 6) = 4 ∧ tt (I 235 6) = 108 ∧ tt ((I 235 6) + 1) = 111 ∧ tt ((I 235 6) + 2) = 97 ∧ tt ((I 235 6) + 3) = 100) from fun z => absurd z (by decide)) (show 0 ≤ 0 ∧ 0 ≤ 1 from by decide) (show 0 = 0 → ¬ ((I 235 8) = 0 ∧ ((I 235 7) - (I 235 6) = 4 ∧ tt (I 235 6) = 108 ∧ tt ((I 235 6) + 1) = 111 ∧ tt ((I 235 6) + 2) = 97 ∧ tt ((I 235 6) + 3) = 100)) from by first | omega | (simp only [wr, wl] at *; omega)) (show 0 = 0 → (I 235 6) = (I 235 6) ∧ (I 235 7) = (I 235 7) from fun _ => ⟨rfl, rfl⟩) (fun z => absurd z (by decide))⟩
  ·
    refine ⟨_, rfl, (by decide), ?_⟩
    have r9 : 0 ≤ (I 235 7) ∧ (I 235 7) ≤ 64 := Rg.f7 hR
    refine ⟨_, rfl, (by decide), ?_⟩
    have r10 : 0 ≤ (I 235 6) ∧ (I 235 6) ≤ 64 := Rg.f6 hR
    refine ⟨⟨10, (by decide), rfl⟩, ?_⟩
    refine Call_wp (lv := [some (vr 4116)]) (by decide) ckJ0_length_8abf5 [] rfl rfl ?_
    refine ⟨10, (by decide), rfl, ?_⟩
    refine Or.inr (Or.inr ⟨10, (by decide), rfl, ?_⟩)
    refine ⟨⟨10, (by decide), rfl⟩, ?_⟩
    refine Call_wp (lv := [some (vr 4116)]) (by decide) ckJ0_coder_7d493 [] rfl rfl ?_
    refine ⟨fun c => absurd c (show (¬ ((1 : Int) = 0)) from by decide), fun _ => ?_⟩
    refine ⟨10, (by decide), rfl, ?_⟩
    refine ⟨rfl, (by decide), ?_⟩
    refine ⟨rfl, ?_⟩
    have n13 : (wr ((I 235 7) - (I 235 6))) = (I 235 7) - (I 235 6) := wr_id (show -2147483648 ≤ ((I 235 7) - (I 235 6) : Int) ∧ ((I 235 7) - (I 235 6) : Int) < 2147483648 from by omega)
    refine ⟨fun (c14 : (¬ ((wr ((I 235 7) - (I 235 6))) : Int) = 4)) => ?_, fun (c14 : (((wr ((I 235 7) - (I 235 6))) : Int) = 4)) => ?_⟩
    ·
      refine ⟨fun _ => ?_, fun c => absurd (show ((0 : Int) = 0) from by decide) c⟩
      refine ⟨fun _ => ?_, fun c => absurd (show ((0 : Int) = 0) from by decide) c⟩
      have r15 : 0 ≤ (I 236 2) ∧ (I 236 2) ≤ 64 := Rg.n2 hR
      exact ⟨rfl, (by decide), fun hv hA' => hQ _ _ hR hA' (hv _ rfl) (fun _ _ _ => rfl) (show 0 = 1 → (I 235 6) + 4 ≤ (I 235 6) from fun z => absurd z (by decide)) (show (I 235 6) ≤ (I 235 7) from by first | with_reducible assumption | omega | (simp only [wr, wl] at *; omega)) (show (I 235 7) ≤ (I 236 2) from by first | with_reducible assumption | omega | (simp only [wr, wl] at *; omega)) (show (I 235 6) < (I 236 2) → (I 235 6) < (I 235 7) from by first | with_reducible assumption | omega | (simp only [wr, wl] at *; omega)) (show (I 235 6) ≤ (I 235 6) from Int.le_refl _) (show 0 = 1 → (I 235 8) = 0 ∧ ((I 235 7) - (I 235 6) = 4 ∧ tt (I 235 6) = 108 ∧ tt ((I 235 6) + 1) = 111 ∧ tt ((I 235 6) + 2) = 97 ∧ tt ((I 235 6) + 3) = 100) from fun z => absurd z (by decide)) (show 0 ≤ 0 ∧ 0 ≤ 1 from by decide) (show 0 = 0 → ¬ ((I 235 8) = 0 ∧ ((I 235 7) - (I 235 6) = 4 ∧ tt (I 235 6) = 108 ∧ tt ((I 235 6) + 1) = 111 ∧ tt ((I 235 6) + 2) = 97 ∧ tt ((I 235 6) + 3) = 100)) from by first | omega | (simp only [wr, wl] at *; omega)) (show 0 = 0 → (I 235 6) = (I 235 6) ∧ (I 235 7) = (I 235 7) from fun _ => ⟨rfl, rfl⟩) (fun z => absurd z (by decide))⟩
    ·
      refine ⟨fun c => absurd c (show (¬ ((1 : Int) = 0)) from by decide), fun _ => ?_⟩
      refine ⟨⟨10, (by decide), rfl⟩, ?_⟩
      refine Call_wp (lv := [some (vr 4116)]) (by decide) ckJ0_length_8abf5 [] rfl rfl ?_
      refine ⟨10, (by decide), rfl, ?_⟩
      refine Or.inr (Or.inr ⟨10, (by decide), rfl, ?_⟩)
      refine ⟨⟨10, (by decide), rfl⟩, ?_⟩
      refine Call_wp (lv := [some (vr 4116)]) (by decide) ckJ0_coder_7d493 [] rfl rfl ?_
      refine ⟨fun c => absurd c (show (¬ ((1 : Int) = 0)) from by decide), fun _ => ?_⟩
      refine ⟨10, (by decide), rfl, ?_⟩
      refine ⟨rfl, (by decide), ?_⟩
      refine ⟨rfl, ?_⟩
      refine ⟨fun c => absurd c (show (¬ ((4 : Int) ≤ 0)) from by decide), fun _ => ?_⟩
      refine ⟨_, rfl, (by decide), ?_⟩
      refine fun w0 hw0 => ?_; obtain rfl : w0 = some 236 := hw0.symm.trans (FS.g hF rfl)
      refine ⟨_, rfl, (by decide), ?_⟩
      have n17 : (wr (1228 + (I 235 6))) = 1228 + (I 235 6) := wr_id (show -2147483648 ≤ (1228 + (I 235 6) : Int) ∧ (1228 + (I 235 6) : Int) < 2147483648 from by omega)
      have n18 : (wr ((wr (1228 + (I 235 6))) + 0)) = (wr (1228 + (I 235 6))) + 0 := wr_id (show -2147483648 ≤ ((wr (1228 + (I 235 6))) + 0 : Int) ∧ ((wr (1228 + (I 235 6))) + 0 : Int) < 2147483648 from by omega)
      refine ⟨_, rfl, (by decide), (show (0 : Int) ≤ (wr ((wr (1228 + (I 235 6))) + 0)) from by first | with_reducible assumption | omega | (simp only [wr, wl] at *; omega)), (show (wr ((wr (1228 + (I 235 6))) + 0)) < (1340 : Int) from by first | with_reducible assumption | omega | (simp only [wr, wl] at *; omega)), ?_⟩
      have z19 := TXT_b ht (I 235 6)
      have z20 : (I 236 (Int.toNat (wr ((wr (1228 + (I 235 6))) + 0)))) = (I 236 (1228 + Int.toNat (I 235 6))) := congrArg (I 236) (by omega)
      have r21 : 0 ≤ (I 236 (Int.toNat (wr ((wr (1228 + (I 235 6))) + 0)))) ∧ (I 236 (Int.toNat (wr ((wr (1228 + (I 235 6))) + 0)))) ≤ 255 := Pn_t (by omega) (hR.n (Int.toNat (wr ((wr (1228 + (I 235 6))) + 0))) (by omega))
      refine ⟨⟨10, (by decide), rfl⟩, ?_⟩
      refine Call_wp (lv := [some (vr 4116), some (vi 0)]) (by decide) ckJ0_charAt_5068e [] rfl rfl ?_
      refine ⟨⟨10, (by decide), rfl⟩, ?_⟩
      refine Call_wp (lv := [some (vr 4116)]) (by decide) ckJ0_isLatin1_aae02 [] rfl rfl ?_
      refine ⟨fun c => absurd c (show (¬ ((1 : Int) = 0)) from by decide), fun _ => ?_⟩
      refine ⟨10, (by decide), rfl, ?_⟩
      refine ⟨fun c => absurd (show ((0 : Int) = 0) from by decide) c, fun _ => ?_⟩
      refine ⟨rfl, (by decide), ?_⟩
      refine ⟨fun c => absurd c (show (¬ ((1 : Int) = 0)) from by decide), fun _ => ?_⟩
      refine ⟨10, (by decide), rfl, ?_⟩
      refine Call_wp (lv := [some (vr 4146), some (vi 0)]) (by decide) ckJ1_charAt_3b067 [] rfl rfl ?_
      refine Or.inr (Or.inr ⟨10, (by decide), rfl, ?_⟩)
      refine j_check (i := 0) (n := 4) (by omega) ?_
      refine ⟨10, (by decide), rfl, (by decide), (by decide), ?_⟩
      refine ⟨rfl, (by decide), ?_⟩
      refine ⟨rfl, (by decide), ?_⟩
      refine ⟨fun (c23 : (¬ ((I 236 (Int.toNat (wr ((wr (1228 + (I 235 6))) + 0)))) : Int) = 108)) => ?_, fun (c23 : (((I 236 (Int.toNat (wr ((wr (1228 + (I 235 6))) + 0)))) : Int) = 108)) => ?_⟩
      ·
        replace z19 : ¬ tt (I 235 6) = 108 := by omega
        refine ⟨fun _ => ?_, fun c => absurd (show ((0 : Int) = 0) from by decide) c⟩
        refine ⟨fun _ => ?_, fun c => absurd (show ((0 : Int) = 0) from by decide) c⟩
        have r24 : 0 ≤ (I 236 2) ∧ (I 236 2) ≤ 64 := Rg.n2 hR
        exact ⟨rfl, (by decide), fun hv hA' => hQ _ _ hR hA' (hv _ rfl) (fun _ _ _ => rfl) (show 0 = 1 → (I 235 6) + 4 ≤ (I 235 6) from fun z => absurd z (by decide)) (show (I 235 6) ≤ (I 235 7) from by first | with_reducible assumption | omega | (simp only [wr, wl] at *; omega)) (show (I 235 7) ≤ (I 236 2) from by first | with_reducible assumption | omega | (simp only [wr, wl] at *; omega)) (show (I 235 6) < (I 236 2) → (I 235 6) < (I 235 7) from by first | with_reducible assumption | omega | (simp only [wr, wl] at *; omega)) (show (I 235 6) ≤ (I 235 6) from Int.le_refl _) (show 0 = 1 → (I 235 8) = 0 ∧ ((I 235 7) - (I 235 6) = 4 ∧ tt (I 235 6) = 108 ∧ tt ((I 235 6) + 1) = 111 ∧ tt ((I 235 6) + 2) = 97 ∧ tt ((I 235 6) + 3) = 100) from fun z => absurd z (by decide)) (show 0 ≤ 0 ∧ 0 ≤ 1 from by decide) (show 0 = 0 → ¬ ((I 235 8) = 0 ∧ ((I 235 7) - (I 235 6) = 4 ∧ tt (I 235 6) = 108 ∧ tt ((I 235 6) + 1) = 111 ∧ tt ((I 235 6) + 2) = 97 ∧ tt ((I 235 6) + 3) = 100)) from by first | omega | (simp only [wr, wl] at *; omega)) (show 0 = 0 → (I 235 6) = (I 235 6) ∧ (I 235 7) = (I 235 7) from fun _ => ⟨rfl, rfl⟩) (fun z => absurd z (by decide))⟩
      ·
        replace z19 : tt (I 235 6) = 108 := by omega
        refine ⟨fun c => absurd c (show (¬ ((1 : Int) = 0)) from by decide), fun _ => ?_⟩
        refine ⟨⟨10, (by decide), rfl⟩, ?_⟩
        refine Call_wp (lv := [some (vr 4116)]) (by decide) ckJ0_length_8abf5 [] rfl rfl ?_
        refine ⟨10, (by decide), rfl, ?_⟩
        refine Or.inr (Or.inr ⟨10, (by decide), rfl, ?_⟩)
        refine ⟨⟨10, (by decide), rfl⟩, ?_⟩
        refine Call_wp (lv := [some (vr 4116)]) (by decide) ckJ0_coder_7d493 [] rfl rfl ?_
        refine ⟨fun c => absurd c (show (¬ ((1 : Int) = 0)) from by decide), fun _ => ?_⟩
        refine ⟨10, (by decide), rfl, ?_⟩
        refine ⟨rfl, (by decide), ?_⟩
        refine ⟨rfl, ?_⟩
        refine ⟨fun c => absurd c (show (¬ ((4 : Int) ≤ 1)) from by decide), fun _ => ?_⟩
        refine ⟨_, rfl, (by decide), ?_⟩
        refine fun w0 hw0 => ?_; obtain rfl : w0 = some 236 := hw0.symm.trans (FS.g hF rfl)
        refine ⟨_, rfl, (by decide), ?_⟩
        have n26 : (wr ((wr (1228 + (I 235 6))) + 1)) = (wr (1228 + (I 235 6))) + 1 := wr_id (show -2147483648 ≤ ((wr (1228 + (I 235 6))) + 1 : Int) ∧ ((wr (1228 + (I 235 6))) + 1 : Int) < 2147483648 from by omega)
        refine ⟨_, rfl, (by decide), (show (0 : Int) ≤ (wr ((wr (1228 + (I 235 6))) + 1)) from by first | with_reducible assumption | omega | (simp only [wr, wl] at *; omega)), (show (wr ((wr (1228 + (I 235 6))) + 1)) < (1340 : Int) from by first | with_reducible assumption | omega | (simp only [wr, wl] at *; omega)), ?_⟩
        have z27 := TXT_b ht ((I 235 6) + 1)
        have z28 : (I 236 (Int.toNat (wr ((wr (1228 + (I 235 6))) + 1)))) = (I 236 (1228 + Int.toNat ((I 235 6) + 1))) := congrArg (I 236) (by omega)
        refine ⟨⟨10, (by decide), rfl⟩, ?_⟩
        refine Call_wp (lv := [some (vr 4116), some (vi 1)]) (by decide) ckJ0_charAt_5068e [] rfl rfl ?_
        refine ⟨⟨10, (by decide), rfl⟩, ?_⟩
        refine Call_wp (lv := [some (vr 4116)]) (by decide) ckJ0_isLatin1_aae02 [] rfl rfl ?_
        refine ⟨fun c => absurd c (show (¬ ((1 : Int) = 0)) from by decide), fun _ => ?_⟩
        refine ⟨10, (by decide), rfl, ?_⟩
        refine ⟨fun c => absurd (show ((0 : Int) = 0) from by decide) c, fun _ => ?_⟩
        refine ⟨rfl, (by decide), ?_⟩
        refine ⟨fun c => absurd c (show (¬ ((1 : Int) = 0)) from by decide), fun _ => ?_⟩
        refine ⟨10, (by decide), rfl, ?_⟩
        refine Call_wp (lv := [some (vr 4146), some (vi 1)]) (by decide) ckJ1_charAt_3b067 [] rfl rfl ?_
        refine Or.inr (Or.inr ⟨10, (by decide), rfl, ?_⟩)
        refine j_check (i := 1) (n := 4) (by omega) ?_
        refine ⟨10, (by decide), rfl, (by decide), (by decide), ?_⟩
        refine ⟨rfl, (by decide), ?_⟩
        refine ⟨rfl, (by decide), ?_⟩
        have a29 : -2147483648 ≤ (I 236 (Int.toNat (wr ((wr (1228 + (I 235 6))) + 1)))) ∧ (I 236 (Int.toNat (wr ((wr (1228 + (I 235 6))) + 1)))) < 2147483648 := hA.1 _ _
        refine ⟨fun (c30 : (¬ ((I 236 (Int.toNat (wr ((wr (1228 + (I 235 6))) + 1)))) : Int) = 111)) => ?_, fun (c30 : (((I 236 (Int.toNat (wr ((wr (1228 + (I 235 6))) + 1)))) : Int) = 111)) => ?_⟩
        ·
          replace z27 : ¬ tt ((I 235 6) + 1) = 111 := by omega
          refine ⟨fun _ => ?_, fun c => absurd (show ((0 : Int) = 0) from by decide) c⟩
          refine ⟨fun _ => ?_, fun c => absurd (show ((0 : Int) = 0) from by decide) c⟩
          have r31 : 0 ≤ (I 236 2) ∧ (I 236 2) ≤ 64 := Rg.n2 hR
          exact ⟨rfl, (by decide), fun hv hA' => hQ _ _ hR hA' (hv _ rfl) (fun _ _ _ => rfl) (show 0 = 1 → (I 235 6) + 4 ≤ (I 235 6) from fun z => absurd z (by decide)) (show (I 235 6) ≤ (I 235 7) from by first | with_reducible assumption | omega | (simp only [wr, wl] at *; omega)) (show (I 235 7) ≤ (I 236 2) from by first | with_reducible assumption | omega | (simp only [wr, wl] at *; omega)) (show (I 235 6) < (I 236 2) → (I 235 6) < (I 235 7) from by first | with_reducible assumption | omega | (simp only [wr, wl] at *; omega)) (show (I 235 6) ≤ (I 235 6) from Int.le_refl _) (show 0 = 1 → (I 235 8) = 0 ∧ ((I 235 7) - (I 235 6) = 4 ∧ tt (I 235 6) = 108 ∧ tt ((I 235 6) + 1) = 111 ∧ tt ((I 235 6) + 2) = 97 ∧ tt ((I 235 6) + 3) = 100) from fun z => absurd z (by decide)) (show 0 ≤ 0 ∧ 0 ≤ 1 from by decide) (show 0 = 0 → ¬ ((I 235 8) = 0 ∧ ((I 235 7) - (I 235 6) = 4 ∧ tt (I 235 6) = 108 ∧ tt ((I 235 6) + 1) = 111 ∧ tt ((I 235 6) + 2) = 97 ∧ tt ((I 235 6) + 3) = 100)) from by first | omega | (simp only [wr, wl] at *; omega)) (show 0 = 0 → (I 235 6) = (I 235 6) ∧ (I 235 7) = (I 235 7) from fun _ => ⟨rfl, rfl⟩) (fun z => absurd z (by decide))⟩
        ·
          replace z27 : tt ((I 235 6) + 1) = 111 := by omega
          refine ⟨fun c => absurd c (show (¬ ((1 : Int) = 0)) from by decide), fun _ => ?_⟩
          refine ⟨⟨10, (by decide), rfl⟩, ?_⟩
          refine Call_wp (lv := [some (vr 4116)]) (by decide) ckJ0_length_8abf5 [] rfl rfl ?_
          refine ⟨10, (by decide), rfl, ?_⟩
          refine Or.inr (Or.inr ⟨10, (by decide), rfl, ?_⟩)
          refine ⟨⟨10, (by decide), rfl⟩, ?_⟩
          refine Call_wp (lv := [some (vr 4116)]) (by decide) ckJ0_coder_7d493 [] rfl rfl ?_
          refine ⟨fun c => absurd c (show (¬ ((1 : Int) = 0)) from by decide), fun _ => ?_⟩
          refine ⟨10, (by decide), rfl, ?_⟩
          refine ⟨rfl, (by decide), ?_⟩
          refine ⟨rfl, ?_⟩
          refine ⟨fun c => absurd c (show (¬ ((4 : Int) ≤ 2)) from by decide), fun _ => ?_⟩
          refine ⟨_, rfl, (by decide), ?_⟩
          refine fun w0 hw0 => ?_; obtain rfl : w0 = some 236 := hw0.symm.trans (FS.g hF rfl)
          refine ⟨_, rfl, (by decide), ?_⟩
          have n33 : (wr ((wr (1228 + (I 235 6))) + 2)) = (wr (1228 + (I 235 6))) + 2 := wr_id (show -2147483648 ≤ ((wr (1228 + (I 235 6))) + 2 : Int) ∧ ((wr (1228 + (I 235 6))) + 2 : Int) < 2147483648 from by omega)
          refine ⟨_, rfl, (by decide), (show (0 : Int) ≤ (wr ((wr (1228 + (I 235 6))) + 2)) from by first | with_reducible assumption | omega | (simp only [wr, wl] at *; omega)), (show (wr ((wr (1228 + (I 235 6))) + 2)) < (1340 : Int) from by first | with_reducible assumption | omega | (simp only [wr, wl] at *; omega)), ?_⟩
          have z34 := TXT_b ht ((I 235 6) + 2)
          have z35 : (I 236 (Int.toNat (wr ((wr (1228 + (I 235 6))) + 2)))) = (I 236 (1228 + Int.toNat ((I 235 6) + 2))) := congrArg (I 236) (by omega)
          refine ⟨⟨10, (by decide), rfl⟩, ?_⟩
          refine Call_wp (lv := [some (vr 4116), some (vi 2)]) (by decide) ckJ0_charAt_5068e [] rfl rfl ?_
          refine ⟨⟨10, (by decide), rfl⟩, ?_⟩
          refine Call_wp (lv := [some (vr 4116)]) (by decide) ckJ0_isLatin1_aae02 [] rfl rfl ?_
          refine ⟨fun c => absurd c (show (¬ ((1 : Int) = 0)) from by decide), fun _ => ?_⟩
          refine ⟨10, (by decide), rfl, ?_⟩
          refine ⟨fun c => absurd (show ((0 : Int) = 0) from by decide) c, fun _ => ?_⟩
          refine ⟨rfl, (by decide), ?_⟩
          refine ⟨fun c => absurd c (show (¬ ((1 : Int) = 0)) from by decide), fun _ => ?_⟩
          refine ⟨10, (by decide), rfl, ?_⟩
          refine Call_wp (lv := [some (vr 4146), some (vi 2)]) (by decide) ckJ1_charAt_3b067 [] rfl rfl ?_
          refine Or.inr (Or.inr ⟨10, (by decide), rfl, ?_⟩)
          refine j_check (i := 2) (n := 4) (by omega) ?_
          refine ⟨10, (by decide), rfl, (by decide), (by decide), ?_⟩
          refine ⟨rfl, (by decide), ?_⟩
          refine ⟨rfl, (by decide), ?_⟩
          have a36 : -2147483648 ≤ (I 236 (Int.toNat (wr ((wr (1228 + (I 235 6))) + 2)))) ∧ (I 236 (Int.toNat (wr ((wr (1228 + (I 235 6))) + 2)))) < 2147483648 := hA.1 _ _
          refine ⟨fun (c37 : (¬ ((I 236 (Int.toNat (wr ((wr (1228 + (I 235 6))) + 2)))) : Int) = 97)) => ?_, fun (c37 : (((I 236 (Int.toNat (wr ((wr (1228 + (I 235 6))) + 2)))) : Int) = 97)) => ?_⟩
          ·
            replace z34 : ¬ tt ((I 235 6) + 2) = 97 := by omega
            refine ⟨fun _ => ?_, fun c => absurd (show ((0 : Int) = 0) from by decide) c⟩
            refine ⟨fun _ => ?_, fun c => absurd (show ((0 : Int) = 0) from by decide) c⟩
            have r38 : 0 ≤ (I 236 2) ∧ (I 236 2) ≤ 64 := Rg.n2 hR
            exact ⟨rfl, (by decide), fun hv hA' => hQ _ _ hR hA' (hv _ rfl) (fun _ _ _ => rfl) (show 0 = 1 → (I 235 6) + 4 ≤ (I 235 6) from fun z => absurd z (by decide)) (show (I 235 6) ≤ (I 235 7) from by first | with_reducible assumption | omega | (simp only [wr, wl] at *; omega)) (show (I 235 7) ≤ (I 236 2) from by first | with_reducible assumption | omega | (simp only [wr, wl] at *; omega)) (show (I 235 6) < (I 236 2) → (I 235 6) < (I 235 7) from by first | with_reducible assumption | omega | (simp only [wr, wl] at *; omega)) (show (I 235 6) ≤ (I 235 6) from Int.le_refl _) (show 0 = 1 → (I 235 8) = 0 ∧ ((I 235 7) - (I 235 6) = 4 ∧ tt (I 235 6) = 108 ∧ tt ((I 235 6) + 1) = 111 ∧ tt ((I 235 6) + 2) = 97 ∧ tt ((I 235 6) + 3) = 100) from fun z => absurd z (by decide)) (show 0 ≤ 0 ∧ 0 ≤ 1 from by decide) (show 0 = 0 → ¬ ((I 235 8) = 0 ∧ ((I 235 7) - (I 235 6) = 4 ∧ tt (I 235 6) = 108 ∧ tt ((I 235 6) + 1) = 111 ∧ tt ((I 235 6) + 2) = 97 ∧ tt ((I 235 6) + 3) = 100)) from by first | omega | (simp only [wr, wl] at *; omega)) (show 0 = 0 → (I 235 6) = (I 235 6) ∧ (I 235 7) = (I 235 7) from fun _ => ⟨rfl, rfl⟩) (fun z => absurd z (by decide))⟩
          ·
            replace z34 : tt ((I 235 6) + 2) = 97 := by omega
            refine ⟨fun c => absurd c (show (¬ ((1 : Int) = 0)) from by decide), fun _ => ?_⟩
            refine ⟨⟨10, (by decide), rfl⟩, ?_⟩
            refine Call_wp (lv := [some (vr 4116)]) (by decide) ckJ0_length_8abf5 [] rfl rfl ?_
            refine ⟨10, (by decide), rfl, ?_⟩
            refine Or.inr (Or.inr ⟨10, (by decide), rfl, ?_⟩)
            refine ⟨⟨10, (by decide), rfl⟩, ?_⟩
            refine Call_wp (lv := [some (vr 4116)]) (by decide) ckJ0_coder_7d493 [] rfl rfl ?_
            refine ⟨fun c => absurd c (show (¬ ((1 : Int) = 0)) from by decide), fun _ => ?_⟩
            refine ⟨10, (by decide), rfl, ?_⟩
            refine ⟨rfl, (by decide), ?_⟩
            refine ⟨rfl, ?_⟩
            refine ⟨fun c => absurd c (show (¬ ((4 : Int) ≤ 3)) from by decide), fun _ => ?_⟩
            refine ⟨_, rfl, (by decide), ?_⟩
            refine fun w0 hw0 => ?_; obtain rfl : w0 = some 236 := hw0.symm.trans (FS.g hF rfl)
            refine ⟨_, rfl, (by decide), ?_⟩
            have n40 : (wr ((wr (1228 + (I 235 6))) + 3)) = (wr (1228 + (I 235 6))) + 3 := wr_id (show -2147483648 ≤ ((wr (1228 + (I 235 6))) + 3 : Int) ∧ ((wr (1228 + (I 235 6))) + 3 : Int) < 2147483648 from by omega)
            refine ⟨_, rfl, (by decide), (show (0 : Int) ≤ (wr ((wr (1228 + (I 235 6))) + 3)) from by first | with_reducible assumption | omega | (simp only [wr, wl] at *; omega)), (show (wr ((wr (1228 + (I 235 6))) + 3)) < (1340 : Int) from by first | with_reducible assumption | omega | (simp only [wr, wl] at *; omega)), ?_⟩
            have z41 := TXT_b ht ((I 235 6) + 3)
            have z42 : (I 236 (Int.toNat (wr ((wr (1228 + (I 235 6))) + 3)))) = (I 236 (1228 + Int.toNat ((I 235 6) + 3))) := congrArg (I 236) (by omega)
            refine ⟨⟨10, (by decide), rfl⟩, ?_⟩
            refine Call_wp (lv := [some (vr 4116), some (vi 3)]) (by decide) ckJ0_charAt_5068e [] rfl rfl ?_
            refine ⟨⟨10, (by decide), rfl⟩, ?_⟩
            refine Call_wp (lv := [some (vr 4116)]) (by decide) ckJ0_isLatin1_aae02 [] rfl rfl ?_
            refine ⟨fun c => absurd c (show (¬ ((1 : Int) = 0)) from by decide), fun _ => ?_⟩
            refine ⟨10, (by decide), rfl, ?_⟩
            refine ⟨fun c => absurd (show ((0 : Int) = 0) from by decide) c, fun _ => ?_⟩
            refine ⟨rfl, (by decide), ?_⟩
            refine ⟨fun c => absurd c (show (¬ ((1 : Int) = 0)) from by decide), fun _ => ?_⟩
            refine ⟨10, (by decide), rfl, ?_⟩
            refine Call_wp (lv := [some (vr 4146), some (vi 3)]) (by decide) ckJ1_charAt_3b067 [] rfl rfl ?_
            refine Or.inr (Or.inr ⟨10, (by decide), rfl, ?_⟩)
            refine j_check (i := 3) (n := 4) (by omega) ?_
            refine ⟨10, (by decide), rfl, (by decide), (by decide), ?_⟩
            refine ⟨rfl, (by decide), ?_⟩
            refine ⟨rfl, (by decide), ?_⟩
            have a43 : -2147483648 ≤ (I 236 (Int.toNat (wr ((wr (1228 + (I 235 6))) + 3)))) ∧ (I 236 (Int.toNat (wr ((wr (1228 + (I 235 6))) + 3)))) < 2147483648 := hA.1 _ _
            refine ⟨fun (c44 : (¬ ((I 236 (Int.toNat (wr ((wr (1228 + (I 235 6))) + 3)))) : Int) = 100)) => ?_, fun (c44 : (((I 236 (Int.toNat (wr ((wr (1228 + (I 235 6))) + 3)))) : Int) = 100)) => ?_⟩
            ·
              replace z41 : ¬ tt ((I 235 6) + 3) = 100 := by omega
              refine ⟨fun _ => ?_, fun c => absurd (show ((0 : Int) = 0) from by decide) c⟩
              refine ⟨fun _ => ?_, fun c => absurd (show ((0 : Int) = 0) from by decide) c⟩
              have r45 : 0 ≤ (I 236 2) ∧ (I 236 2) ≤ 64 := Rg.n2 hR
              exact ⟨rfl, (by decide), fun hv hA' => hQ _ _ hR hA' (hv _ rfl) (fun _ _ _ => rfl) (show 0 = 1 → (I 235 6) + 4 ≤ (I 235 6) from fun z => absurd z (by decide)) (show (I 235 6) ≤ (I 235 7) from by first | with_reducible assumption | omega | (simp only [wr, wl] at *; omega)) (show (I 235 7) ≤ (I 236 2) from by first | with_reducible assumption | omega | (simp only [wr, wl] at *; omega)) (show (I 235 6) < (I 236 2) → (I 235 6) < (I 235 7) from by first | with_reducible assumption | omega | (simp only [wr, wl] at *; omega)) (show (I 235 6) ≤ (I 235 6) from Int.le_refl _) (show 0 = 1 → (I 235 8) = 0 ∧ ((I 235 7) - (I 235 6) = 4 ∧ tt (I 235 6) = 108 ∧ tt ((I 235 6) + 1) = 111 ∧ tt ((I 235 6) + 2) = 97 ∧ tt ((I 235 6) + 3) = 100) from fun z => absurd z (by decide)) (show 0 ≤ 0 ∧ 0 ≤ 1 from by decide) (show 0 = 0 → ¬ ((I 235 8) = 0 ∧ ((I 235 7) - (I 235 6) = 4 ∧ tt (I 235 6) = 108 ∧ tt ((I 235 6) + 1) = 111 ∧ tt ((I 235 6) + 2) = 97 ∧ tt ((I 235 6) + 3) = 100)) from by first | omega | (simp only [wr, wl] at *; omega)) (show 0 = 0 → (I 235 6) = (I 235 6) ∧ (I 235 7) = (I 235 7) from fun _ => ⟨rfl, rfl⟩) (fun z => absurd z (by decide))⟩
            ·
              replace z41 : tt ((I 235 6) + 3) = 100 := by omega
              refine ⟨fun c => absurd c (show (¬ ((1 : Int) = 0)) from by decide), fun _ => ?_⟩
              refine ⟨⟨10, (by decide), rfl⟩, ?_⟩
              refine Call_wp (lv := [some (vr 4116)]) (by decide) ckJ0_length_8abf5 [] rfl rfl ?_
              refine ⟨10, (by decide), rfl, ?_⟩
              refine Or.inr (Or.inr ⟨10, (by decide), rfl, ?_⟩)
              refine ⟨⟨10, (by decide), rfl⟩, ?_⟩
              refine Call_wp (lv := [some (vr 4116)]) (by decide) ckJ0_coder_7d493 [] rfl rfl ?_
              refine ⟨fun c => absurd c (show (¬ ((1 : Int) = 0)) from by decide), fun _ => ?_⟩
              refine ⟨10, (by decide), rfl, ?_⟩
              refine ⟨rfl, (by decide), ?_⟩
              refine ⟨rfl, ?_⟩
              refine ⟨fun _ => ?_, fun c => absurd (show ((4 : Int) ≤ 4) from by decide) c⟩
              refine ⟨fun c => absurd c (show (¬ ((1 : Int) = 0)) from by decide), fun _ => ?_⟩
              refine ⟨⟨_, rfl, (by decide)⟩, ?_⟩
              have r47 : 0 ≤ (I 236 2) ∧ (I 236 2) ≤ 64 := Rg.n2 hR
              refine r_goOn9  hF hR (hl) ht (show (I 235 7) ≤ (I 236 2) from by first | with_reducible assumption | omega | (simp only [wr, wl] at *; omega)) (fun I49 hR50 hA51 hW52 q53 q54 q55 q56 qr57 => ?_)
              have q53 : (I 235 7) ≤ (I49 235 6) := q53
              have q54 : (I49 235 6) ≤ (I49 235 7) := q54
              have q55 : (I49 235 7) ≤ (I 236 2) := q55
              have q56 : (I49 235 6) < (I 236 2) → (I49 235 6) < (I49 235 7) := q56
              have r58 : 0 ≤ (I49 235 6) ∧ (I49 235 6) ≤ 64 := Rg.f6 hR50
              have r60 : 0 ≤ (I49 235 7) ∧ (I49 235 7) ≤ 64 := Rg.f7 hR50
              exact ⟨rfl, (by decide), fun hv hA' => hQ _ _ hR50 hA' (hv _ rfl) (fun ka ja hk => (hW52 ka ja (by omega))) (show 1 = 1 → (I 235 6) + 4 ≤ (I49 235 6) from by first | with_reducible assumption | omega | (simp only [wr, wl] at *; omega)) (show (I49 235 6) ≤ (I49 235 7) from by first | with_reducible assumption | omega | (simp only [wr, wl] at *; omega)) (show (I49 235 7) ≤ (I 236 2) from by first | with_reducible assumption | omega | (simp only [wr, wl] at *; omega)) (show (I49 235 6) < (I 236 2) → (I49 235 6) < (I49 235 7) from by first | with_reducible assumption | omega | (simp only [wr, wl] at *; omega)) (show (I 235 6) ≤ (I49 235 6) from by first | with_reducible assumption | omega | (simp only [wr, wl] at *; omega)) (show 1 = 1 → (I 235 8) = 0 ∧ ((I 235 7) - (I 235 6) = 4 ∧ tt (I 235 6) = 108 ∧ tt ((I 235 6) + 1) = 111 ∧ tt ((I 235 6) + 2) = 97 ∧ tt ((I 235 6) + 3) = 100) from by first | omega | (simp only [wr, wl] at *; omega)) (show 0 ≤ 1 ∧ 1 ≤ 1 from by decide) (show 1 = 0 → ¬ ((I 235 8) = 0 ∧ ((I 235 7) - (I 235 6) = 4 ∧ tt (I 235 6) = 108 ∧ tt ((I 235 6) + 1) = 111 ∧ tt ((I 235 6) + 2) = 97 ∧ tt ((I 235 6) + 3) = 100)) from fun z => absurd z (by decide)) (show 1 = 0 → (I49 235 6) = (I 235 6) ∧ (I49 235 7) = (I 235 7) from fun z => absurd z (by decide)) (fun _ => qr57)⟩
theorem r_tk9_10 (hF : FS F) (hR : Rg I) {tt : Int → Int} {nn : Int} (hl : I 236 2 = nn) (ht : TXT tt nn (fun j => I 236 (1228 + j))) (h1 : I 235 6 ≤ I 235 7) (h2 : I 235 7 ≤ I 236 2) (h3 : I 235 6 < I 236 2 → I 235 6 < I 235 7) (h1' : ∀ I' : pI, Rg I' → AR I' → (∀ k j, ¬ ((k = 235 ∧ (j = 6 ∨ j = 7))) → I' k j = I k j) → I 235 8 = 0 → mkW2 tt (I 235 6) (I 235 7) → I 235 7 - I 235 6 = 4 → I 235 6 + 4 ≤ I' 235 6 → I' 235 6 ≤ I' 235 7 → I' 235 7 ≤ I 236 2 → (I' 235 6 < I 236 2 → I' 235 6 < I' 235 7) → Tok tt nn (I 235 7) (I' 235 6) (I' 235 7) → Q (some (vi 1)) F I') (h0' : ¬ (I 235 8 = 0 ∧ mkW2 tt (I 235 6) (I 235 7)) → Q (some (vi 0)) F I) : CallN G (d + 4) kX12_takes [vr 235, vr 4116] NP F I Q := by
  refine r_takes9_10 hF hR hl ht h1 h2 h3 (fun r I' hR' hA' _ hW q1 q2 q3 q4 q5 q6 q7 q8 q9 qr => ?_)
  by_cases e : r = 1
  · rw [e]; exact h1' I' hR' hA' hW (q6 e).1 (q6 e).2 (q6 e).2.1 (q1 e) q2 q3 q4 (qr e)
  · have e0 : r = 0 := by omega
    have hI : I' = I := funext (fun k => funext (fun j => by
      by_cases c : k = 235 ∧ (j = 6 ∨ j = 7)
      · obtain ⟨rfl, c⟩ := c
        rcases c with rfl | rfl
        · exact (q9 e0).1
        · exact (q9 e0).2
      · exact hW k j c))
    rw [e0, hI]; exact h0' (q8 e0)
theorem r_takes9_11 (hF : FS F) (hR : Rg I) {tt : Int → Int} {nn : Int} (hl : I 236 2 = nn) (ht : TXT tt nn (fun j => I 236 (1228 + j))) (h1 : I 235 6 ≤ I 235 7) (h2 : I 235 7 ≤ I 236 2) (h3 : I 235 6 < I 236 2 → I 235 6 < I 235 7) (hQ : ∀ (r : Int) (I' : pI), Rg I' → AR I' → iR r → (∀ k j, ¬ ((k = 235 ∧ (j = 6 ∨ j = 7))) → I' k j = I k j) → (r = 1 → (I 235 6) + 4 ≤ (I' 235 6)) → ((I' 235 6) ≤ (I' 235 7)) → ((I' 235 7) ≤ (I 236 2)) → ((I' 235 6) < (I 236 2) → (I' 235 6) < (I' 235 7)) → ((I 235 6) ≤ (I' 235 6)) → (r = 1 → (I 235 8) = 0 ∧ ((I 235 7) - (I 235 6) = 4 ∧ tt (I 235 6) = 104 ∧ tt ((I 235 6) + 1) = 111 ∧ tt ((I 235 6) + 2) = 108 ∧ tt ((I 235 6) + 3) = 100)) → (0 ≤ r ∧ r ≤ 1) → (r = 0 → ¬ ((I 235 8) = 0 ∧ ((I 235 7) - (I 235 6) = 4 ∧ tt (I 235 6) = 104 ∧ tt ((I 235 6) + 1) = 111 ∧ tt ((I 235 6) + 2) = 108 ∧ tt ((I 235 6) + 3) = 100))) → (r = 0 → (I' 235 6) = (I 235 6) ∧ (I' 235 7) = (I 235 7)) → (r = 1 → Tok tt nn (I 235 7) (I' 235 6) (I' 235 7)) → Q (some (vi r)) F I') : CallN G (d + 4) kX12_takes [vr 235, vr 4117] NP F I Q := by
  refine CallN_in (fun hok hA => CallN_out ?_)
  have hn2 := ht.1
  have g2 := Rg.n2 hR
  refine Call_wp (lv := [some (vr 235), some (vr 4117), none, none]) (by decide) ckX12_takes [] rfl rfl ?_
  refine ⟨_, rfl, (by decide), ?_⟩
  have a1 : -2147483648 ≤ (I 235 8) ∧ (I 235 8) < 2147483648 := hA.1 _ _
  refine ⟨fun (c2 : (¬ ((I 235 8) : Int) = 0)) => ?_, fun (c2 : (((I 235 8) : Int) = 0)) => ?_⟩
  ·
    refine ⟨fun _ => ?_, fun c => absurd (show ((0 : Int) = 0) from by decide) c⟩
    refine ⟨fun _ => ?_, fun c => absurd (show ((0 : Int) = 0) from by decide) c⟩
    have r3 : 0 ≤ (I 235 6) ∧ (I 235 6) ≤ 64 := Rg.f6 hR
    have r5 : 0 ≤ (I 235 7) ∧ (I 235 7) ≤ 64 := Rg.f7 hR
    have r7 : 0 ≤ (I 236 2) ∧ (I 236 2) ≤ 64 := Rg.n2 hR
    exact ⟨rfl, (by decide), fun hv hA' => hQ _ _ hR hA' (hv _ rfl) (fun _ _ _ => rfl) (show 0 = 1 → (I 235 6) + 4 ≤ (I 235 6) from fun z => absurd z (by decide)) (show (I 235 6) ≤ (I 235 7) from by first | with_reducible assumption | omega | (simp only [wr, wl] at *; omega)) (show (I 235 7) ≤ (I 236 2) from by first | with_reducible assumption | omega | (simp only [wr, wl] at *; omega)) (show (I 235 6) < (I 236 2) → (I 235 6) < (I 235 7) from by first | with_reducible assumption | omega | (simp only [wr, wl] at *; omega)) (show (I 235 6) ≤ (I 235 6) from Int.le_refl _) (show 0 = 1 → (I 235 8) = 0 ∧ ((I 235 7) - (I 235 6) = 4 ∧ tt (I 235 6) = 104 ∧ tt ((I 235 6) + 1) = 111 ∧ tt ((I 235 6) + 2) = 108 ∧ tt ((I 235 6) + 3) = 100) from fun z => absurd z (by decide)) (show 0 ≤ 0 ∧ 0 ≤ 1 from by decide) (show 0 = 0 → ¬ ((I 235 8) = 0 ∧ ((I 235 7) - (I 235 6) = 4 ∧ tt (I 235 6) = 104 ∧ tt ((I 235 6) + 1) = 111 ∧ tt ((I 235 6) + 2) = 108 ∧ tt ((I 235 6) + 3) = 100)) from by first | omega | (simp only [wr, wl] at *; omega)) (show 0 = 0 → (I 235 6) = (I 235 6) ∧ (I 235 7) = (I 235 7) from fun _ => ⟨rfl, rfl⟩) (fun z => absurd z (by decide))⟩
  ·
    refine ⟨_, rfl, (by decide), ?_⟩
    have r9 : 0 ≤ (I 235 7) ∧ (I 235 7) ≤ 64 := Rg.f7 hR
    refine ⟨_, rfl, (by decide), ?_⟩
    have r10 : 0 ≤ (I 235 6) ∧ (I 235 6) ≤ 64 := Rg.f6 hR
    refine ⟨⟨11, (by decide), rfl⟩, ?_⟩
    refine Call_wp (lv := [some (vr 4117)]) (by decide) ckJ0_length_8abf5 [] rfl rfl ?_
    refine ⟨11, (by decide), rfl, ?_⟩
    refine Or.inr (Or.inr ⟨11, (by decide), rfl, ?_⟩)
    refine ⟨⟨11, (by decide), rfl⟩, ?_⟩
    refine Call_wp (lv := [some (vr 4117)]) (by decide) ckJ0_coder_7d493 [] rfl rfl ?_
    refine ⟨fun c => absurd c (show (¬ ((1 : Int) = 0)) from by decide), fun _ => ?_⟩
    refine ⟨11, (by decide), rfl, ?_⟩
    refine ⟨rfl, (by decide), ?_⟩
    refine ⟨rfl, ?_⟩
    have n13 : (wr ((I 235 7) - (I 235 6))) = (I 235 7) - (I 235 6) := wr_id (show -2147483648 ≤ ((I 235 7) - (I 235 6) : Int) ∧ ((I 235 7) - (I 235 6) : Int) < 2147483648 from by omega)
    refine ⟨fun (c14 : (¬ ((wr ((I 235 7) - (I 235 6))) : Int) = 4)) => ?_, fun (c14 : (((wr ((I 235 7) - (I 235 6))) : Int) = 4)) => ?_⟩
    ·
      refine ⟨fun _ => ?_, fun c => absurd (show ((0 : Int) = 0) from by decide) c⟩
      refine ⟨fun _ => ?_, fun c => absurd (show ((0 : Int) = 0) from by decide) c⟩
      have r15 : 0 ≤ (I 236 2) ∧ (I 236 2) ≤ 64 := Rg.n2 hR
      exact ⟨rfl, (by decide), fun hv hA' => hQ _ _ hR hA' (hv _ rfl) (fun _ _ _ => rfl) (show 0 = 1 → (I 235 6) + 4 ≤ (I 235 6) from fun z => absurd z (by decide)) (show (I 235 6) ≤ (I 235 7) from by first | with_reducible assumption | omega | (simp only [wr, wl] at *; omega)) (show (I 235 7) ≤ (I 236 2) from by first | with_reducible assumption | omega | (simp only [wr, wl] at *; omega)) (show (I 235 6) < (I 236 2) → (I 235 6) < (I 235 7) from by first | with_reducible assumption | omega | (simp only [wr, wl] at *; omega)) (show (I 235 6) ≤ (I 235 6) from Int.le_refl _) (show 0 = 1 → (I 235 8) = 0 ∧ ((I 235 7) - (I 235 6) = 4 ∧ tt (I 235 6) = 104 ∧ tt ((I 235 6) + 1) = 111 ∧ tt ((I 235 6) + 2) = 108 ∧ tt ((I 235 6) + 3) = 100) from fun z => absurd z (by decide)) (show 0 ≤ 0 ∧ 0 ≤ 1 from by decide) (show 0 = 0 → ¬ ((I 235 8) = 0 ∧ ((I 235 7) - (I 235 6) = 4 ∧ tt (I 235 6) = 104 ∧ tt ((I 235 6) + 1) = 111 ∧ tt ((I 235 6) + 2) = 108 ∧ tt ((I 235 6) + 3) = 100)) from by first | omega | (simp only [wr, wl] at *; omega)) (show 0 = 0 → (I 235 6) = (I 235 6) ∧ (I 235 7) = (I 235 7) from fun _ => ⟨rfl, rfl⟩) (fun z => absurd z (by decide))⟩
    ·
      refine ⟨fun c => absurd c (show (¬ ((1 : Int) = 0)) from by decide), fun _ => ?_⟩
      refine ⟨⟨11, (by decide), rfl⟩, ?_⟩
      refine Call_wp (lv := [some (vr 4117)]) (by decide) ckJ0_length_8abf5 [] rfl rfl ?_
      refine ⟨11, (by decide), rfl, ?_⟩
      refine Or.inr (Or.inr ⟨11, (by decide), rfl, ?_⟩)
      refine ⟨⟨11, (by decide), rfl⟩, ?_⟩
      refine Call_wp (lv := [some (vr 4117)]) (by decide) ckJ0_coder_7d493 [] rfl rfl ?_
      refine ⟨fun c => absurd c (show (¬ ((1 : Int) = 0)) from by decide), fun _ => ?_⟩
      refine ⟨11, (by decide), rfl, ?_⟩
      refine ⟨rfl, (by decide), ?_⟩
      refine ⟨rfl, ?_⟩
      refine ⟨fun c => absurd c (show (¬ ((4 : Int) ≤ 0)) from by decide), fun _ => ?_⟩
      refine ⟨_, rfl, (by decide), ?_⟩
      refine fun w0 hw0 => ?_; obtain rfl : w0 = some 236 := hw0.symm.trans (FS.g hF rfl)
      refine ⟨_, rfl, (by decide), ?_⟩
      have n17 : (wr (1228 + (I 235 6))) = 1228 + (I 235 6) := wr_id (show -2147483648 ≤ (1228 + (I 235 6) : Int) ∧ (1228 + (I 235 6) : Int) < 2147483648 from by omega)
      have n18 : (wr ((wr (1228 + (I 235 6))) + 0)) = (wr (1228 + (I 235 6))) + 0 := wr_id (show -2147483648 ≤ ((wr (1228 + (I 235 6))) + 0 : Int) ∧ ((wr (1228 + (I 235 6))) + 0 : Int) < 2147483648 from by omega)
      refine ⟨_, rfl, (by decide), (show (0 : Int) ≤ (wr ((wr (1228 + (I 235 6))) + 0)) from by first | with_reducible assumption | omega | (simp only [wr, wl] at *; omega)), (show (wr ((wr (1228 + (I 235 6))) + 0)) < (1340 : Int) from by first | with_reducible assumption | omega | (simp only [wr, wl] at *; omega)), ?_⟩
      have z19 := TXT_b ht (I 235 6)
      have z20 : (I 236 (Int.toNat (wr ((wr (1228 + (I 235 6))) + 0)))) = (I 236 (1228 + Int.toNat (I 235 6))) := congrArg (I 236) (by omega)
      have r21 : 0 ≤ (I 236 (Int.toNat (wr ((wr (1228 + (I 235 6))) + 0)))) ∧ (I 236 (Int.toNat (wr ((wr (1228 + (I 235 6))) + 0)))) ≤ 255 := Pn_t (by omega) (hR.n (Int.toNat (wr ((wr (1228 + (I 235 6))) + 0))) (by omega))
      refine ⟨⟨11, (by decide), rfl⟩, ?_⟩
      refine Call_wp (lv := [some (vr 4117), some (vi 0)]) (by decide) ckJ0_charAt_5068e [] rfl rfl ?_
      refine ⟨⟨11, (by decide), rfl⟩, ?_⟩
      refine Call_wp (lv := [some (vr 4117)]) (by decide) ckJ0_isLatin1_aae02 [] rfl rfl ?_
      refine ⟨fun c => absurd c (show (¬ ((1 : Int) = 0)) from by decide), fun _ => ?_⟩
      refine ⟨11, (by decide), rfl, ?_⟩
      refine ⟨fun c => absurd (show ((0 : Int) = 0) from by decide) c, fun _ => ?_⟩
      refine ⟨rfl, (by decide), ?_⟩
      refine ⟨fun c => absurd c (show (¬ ((1 : Int) = 0)) from by decide), fun _ => ?_⟩
      refine ⟨11, (by decide), rfl, ?_⟩
      refine Call_wp (lv := [some (vr 4147), some (vi 0)]) (by decide) ckJ1_charAt_3b067 [] rfl rfl ?_
      refine Or.inr (Or.inr ⟨11, (by decide), rfl, ?_⟩)
      refine j_check (i := 0) (n := 4) (by omega) ?_
      refine ⟨11, (by decide), rfl, (by decide), (by decide), ?_⟩
      refine ⟨rfl, (by decide), ?_⟩
      refine ⟨rfl, (by decide), ?_⟩
      refine ⟨fun (c23 : (¬ ((I 236 (Int.toNat (wr ((wr (1228 + (I 235 6))) + 0)))) : Int) = 104)) => ?_, fun (c23 : (((I 236 (Int.toNat (wr ((wr (1228 + (I 235 6))) + 0)))) : Int) = 104)) => ?_⟩
      ·
        replace z19 : ¬ tt (I 235 6) = 104 := by omega
        refine ⟨fun _ => ?_, fun c => absurd (show ((0 : Int) = 0) from by decide) c⟩
        refine ⟨fun _ => ?_, fun c => absurd (show ((0 : Int) = 0) from by decide) c⟩
        have r24 : 0 ≤ (I 236 2) ∧ (I 236 2) ≤ 64 := Rg.n2 hR
        exact ⟨rfl, (by decide), fun hv hA' => hQ _ _ hR hA' (hv _ rfl) (fun _ _ _ => rfl) (show 0 = 1 → (I 235 6) + 4 ≤ (I 235 6) from fun z => absurd z (by decide)) (show (I 235 6) ≤ (I 235 7) from by first | with_reducible assumption | omega | (simp only [wr, wl] at *; omega)) (show (I 235 7) ≤ (I 236 2) from by first | with_reducible assumption | omega | (simp only [wr, wl] at *; omega)) (show (I 235 6) < (I 236 2) → (I 235 6) < (I 235 7) from by first | with_reducible assumption | omega | (simp only [wr, wl] at *; omega)) (show (I 235 6) ≤ (I 235 6) from Int.le_refl _) (show 0 = 1 → (I 235 8) = 0 ∧ ((I 235 7) - (I 235 6) = 4 ∧ tt (I 235 6) = 104 ∧ tt ((I 235 6) + 1) = 111 ∧ tt ((I 235 6) + 2) = 108 ∧ tt ((I 235 6) + 3) = 100) from fun z => absurd z (by decide)) (show 0 ≤ 0 ∧ 0 ≤ 1 from by decide) (show 0 = 0 → ¬ ((I 235 8) = 0 ∧ ((I 235 7) - (I 235 6) = 4 ∧ tt (I 235 6) = 104 ∧ tt ((I 235 6) + 1) = 111 ∧ tt ((I 235 6) + 2) = 108 ∧ tt ((I 235 6) + 3) = 100)) from by first | omega | (simp only [wr, wl] at *; omega)) (show 0 = 0 → (I 235 6) = (I 235 6) ∧ (I 235 7) = (I 235 7) from fun _ => ⟨rfl, rfl⟩) (fun z => absurd z (by decide))⟩
      ·
        replace z19 : tt (I 235 6) = 104 := by omega
        refine ⟨fun c => absurd c (show (¬ ((1 : Int) = 0)) from by decide), fun _ => ?_⟩
        refine ⟨⟨11, (by decide), rfl⟩, ?_⟩
        refine Call_wp (lv := [some (vr 4117)]) (by decide) ckJ0_length_8abf5 [] rfl rfl ?_
        refine ⟨11, (by decide), rfl, ?_⟩
        refine Or.inr (Or.inr ⟨11, (by decide), rfl, ?_⟩)
        refine ⟨⟨11, (by decide), rfl⟩, ?_⟩
        refine Call_wp (lv := [some (vr 4117)]) (by decide) ckJ0_coder_7d493 [] rfl rfl ?_
        refine ⟨fun c => absurd c (show (¬ ((1 : Int) = 0)) from by decide), fun _ => ?_⟩
        refine ⟨11, (by decide), rfl, ?_⟩
        refine ⟨rfl, (by decide), ?_⟩
        refine ⟨rfl, ?_⟩
        refine ⟨fun c => absurd c (show (¬ ((4 : Int) ≤ 1)) from by decide), fun _ => ?_⟩
        refine ⟨_, rfl, (by decide), ?_⟩
        refine fun w0 hw0 => ?_; obtain rfl : w0 = some 236 := hw0.symm.trans (FS.g hF rfl)
        refine ⟨_, rfl, (by decide), ?_⟩
        have n26 : (wr ((wr (1228 + (I 235 6))) + 1)) = (wr (1228 + (I 235 6))) + 1 := wr_id (show -2147483648 ≤ ((wr (1228 + (I 235 6))) + 1 : Int) ∧ ((wr (1228 + (I 235 6))) + 1 : Int) < 2147483648 from by omega)
        refine ⟨_, rfl, (by decide), (show (0 : Int) ≤ (wr ((wr (1228 + (I 235 6))) + 1)) from by first | with_reducible assumption | omega | (simp only [wr, wl] at *; omega)), (show (wr ((wr (1228 + (I 235 6))) + 1)) < (1340 : Int) from by first | with_reducible assumption | omega | (simp only [wr, wl] at *; omega)), ?_⟩
        have z27 := TXT_b ht ((I 235 6) + 1)
        have z28 : (I 236 (Int.toNat (wr ((wr (1228 + (I 235 6))) + 1)))) = (I 236 (1228 + Int.toNat ((I 235 6) + 1))) := congrArg (I 236) (by omega)
        refine ⟨⟨11, (by decide), rfl⟩, ?_⟩
        refine Call_wp (lv := [some (vr 4117), some (vi 1)]) (by decide) ckJ0_charAt_5068e [] rfl rfl ?_
        refine ⟨⟨11, (by decide), rfl⟩, ?_⟩
        refine Call_wp (lv := [some (vr 4117)]) (by decide) ckJ0_isLatin1_aae02 [] rfl rfl ?_
        refine ⟨fun c => absurd c (show (¬ ((1 : Int) = 0)) from by decide), fun _ => ?_⟩
        refine ⟨11, (by decide), rfl, ?_⟩
        refine ⟨fun c => absurd (show ((0 : Int) = 0) from by decide) c, fun _ => ?_⟩
        refine ⟨rfl, (by decide), ?_⟩
        refine ⟨fun c => absurd c (show (¬ ((1 : Int) = 0)) from by decide), fun _ => ?_⟩
        refine ⟨11, (by decide), rfl, ?_⟩
        refine Call_wp (lv := [some (vr 4147), some (vi 1)]) (by decide) ckJ1_charAt_3b067 [] rfl rfl ?_
        refine Or.inr (Or.inr ⟨11, (by decide), rfl, ?_⟩)
        refine j_check (i := 1) (n := 4) (by omega) ?_
        refine ⟨11, (by decide), rfl, (by decide), (by decide), ?_⟩
        refine ⟨rfl, (by decide), ?_⟩
        refine ⟨rfl, (by decide), ?_⟩
        have a29 : -2147483648 ≤ (I 236 (Int.toNat (wr ((wr (1228 + (I 235 6))) + 1)))) ∧ (I 236 (Int.toNat (wr ((wr (1228 + (I 235 6))) + 1)))) < 2147483648 := hA.1 _ _
        refine ⟨fun (c30 : (¬ ((I 236 (Int.toNat (wr ((wr (1228 + (I 235 6))) + 1)))) : Int) = 111)) => ?_, fun (c30 : (((I 236 (Int.toNat (wr ((wr (1228 + (I 235 6))) + 1)))) : Int) = 111)) => ?_⟩
        ·
          replace z27 : ¬ tt ((I 235 6) + 1) = 111 := by omega
          refine ⟨fun _ => ?_, fun c => absurd (show ((0 : Int) = 0) from by decide) c⟩
          refine ⟨fun _ => ?_, fun c => absurd (show ((0 : Int) = 0) from by decide) c⟩
          have r31 : 0 ≤ (I 236 2) ∧ (I 236 2) ≤ 64 := Rg.n2 hR
          exact ⟨rfl, (by decide), fun hv hA' => hQ _ _ hR hA' (hv _ rfl) (fun _ _ _ => rfl) (show 0 = 1 → (I 235 6) + 4 ≤ (I 235 6) from fun z => absurd z (by decide)) (show (I 235 6) ≤ (I 235 7) from by first | with_reducible assumption | omega | (simp only [wr, wl] at *; omega)) (show (I 235 7) ≤ (I 236 2) from by first | with_reducible assumption | omega | (simp only [wr, wl] at *; omega)) (show (I 235 6) < (I 236 2) → (I 235 6) < (I 235 7) from by first | with_reducible assumption | omega | (simp only [wr, wl] at *; omega)) (show (I 235 6) ≤ (I 235 6) from Int.le_refl _) (show 0 = 1 → (I 235 8) = 0 ∧ ((I 235 7) - (I 235 6) = 4 ∧ tt (I 235 6) = 104 ∧ tt ((I 235 6) + 1) = 111 ∧ tt ((I 235 6) + 2) = 108 ∧ tt ((I 235 6) + 3) = 100) from fun z => absurd z (by decide)) (show 0 ≤ 0 ∧ 0 ≤ 1 from by decide) (show 0 = 0 → ¬ ((I 235 8) = 0 ∧ ((I 235 7) - (I 235 6) = 4 ∧ tt (I 235 6) = 104 ∧ tt ((I 235 6) + 1) = 111 ∧ tt ((I 235 6) + 2) = 108 ∧ tt ((I 235 6) + 3) = 100)) from by first | omega | (simp only [wr, wl] at *; omega)) (show 0 = 0 → (I 235 6) = (I 235 6) ∧ (I 235 7) = (I 235 7) from fun _ => ⟨rfl, rfl⟩) (fun z => absurd z (by decide))⟩
        ·
          replace z27 : tt ((I 235 6) + 1) = 111 := by omega
          refine ⟨fun c => absurd c (show (¬ ((1 : Int) = 0)) from by decide), fun _ => ?_⟩
          refine ⟨⟨11, (by decide), rfl⟩, ?_⟩
          refine Call_wp (lv := [some (vr 4117)]) (by decide) ckJ0_length_8abf5 [] rfl rfl ?_
          refine ⟨11, (by decide), rfl, ?_⟩
          refine Or.inr (Or.inr ⟨11, (by decide), rfl, ?_⟩)
          refine ⟨⟨11, (by decide), rfl⟩, ?_⟩
          refine Call_wp (lv := [some (vr 4117)]) (by decide) ckJ0_coder_7d493 [] rfl rfl ?_
          refine ⟨fun c => absurd c (show (¬ ((1 : Int) = 0)) from by decide), fun _ => ?_⟩
          refine ⟨11, (by decide), rfl, ?_⟩
          refine ⟨rfl, (by decide), ?_⟩
          refine ⟨rfl, ?_⟩
          refine ⟨fun c => absurd c (show (¬ ((4 : Int) ≤ 2)) from by decide), fun _ => ?_⟩
          refine ⟨_, rfl, (by decide), ?_⟩
          refine fun w0 hw0 => ?_; obtain rfl : w0 = some 236 := hw0.symm.trans (FS.g hF rfl)
          refine ⟨_, rfl, (by decide), ?_⟩
          have n33 : (wr ((wr (1228 + (I 235 6))) + 2)) = (wr (1228 + (I 235 6))) + 2 := wr_id (show -2147483648 ≤ ((wr (1228 + (I 235 6))) + 2 : Int) ∧ ((wr (1228 + (I 235 6))) + 2 : Int) < 2147483648 from by omega)
          refine ⟨_, rfl, (by decide), (show (0 : Int) ≤ (wr ((wr (1228 + (I 235 6))) + 2)) from by first | with_reducible assumption | omega | (simp only [wr, wl] at *; omega)), (show (wr ((wr (1228 + (I 235 6))) + 2)) < (1340 : Int) from by first | with_reducible assumption | omega | (simp only [wr, wl] at *; omega)), ?_⟩
          have z34 := TXT_b ht ((I 235 6) + 2)
          have z35 : (I 236 (Int.toNat (wr ((wr (1228 + (I 235 6))) + 2)))) = (I 236 (1228 + Int.toNat ((I 235 6) + 2))) := congrArg (I 236) (by omega)
          refine ⟨⟨11, (by decide), rfl⟩, ?_⟩
          refine Call_wp (lv := [some (vr 4117), some (vi 2)]) (by decide) ckJ0_charAt_5068e [] rfl rfl ?_
          refine ⟨⟨11, (by decide), rfl⟩, ?_⟩
          refine Call_wp (lv := [some (vr 4117)]) (by decide) ckJ0_isLatin1_aae02 [] rfl rfl ?_
          refine ⟨fun c => absurd c (show (¬ ((1 : Int) = 0)) from by decide), fun _ => ?_⟩
          refine ⟨11, (by decide), rfl, ?_⟩
          refine ⟨fun c => absurd (show ((0 : Int) = 0) from by decide) c, fun _ => ?_⟩
          refine ⟨rfl, (by decide), ?_⟩
          refine ⟨fun c => absurd c (show (¬ ((1 : Int) = 0)) from by decide), fun _ => ?_⟩
          refine ⟨11, (by decide), rfl, ?_⟩
          refine Call_wp (lv := [some (vr 4147), some (vi 2)]) (by decide) ckJ1_charAt_3b067 [] rfl rfl ?_
          refine Or.inr (Or.inr ⟨11, (by decide), rfl, ?_⟩)
          refine j_check (i := 2) (n := 4) (by omega) ?_
          refine ⟨11, (by decide), rfl, (by decide), (by decide), ?_⟩
          refine ⟨rfl, (by decide), ?_⟩
          refine ⟨rfl, (by decide), ?_⟩
          have a36 : -2147483648 ≤ (I 236 (Int.toNat (wr ((wr (1228 + (I 235 6))) + 2)))) ∧ (I 236 (Int.toNat (wr ((wr (1228 + (I 235 6))) + 2)))) < 2147483648 := hA.1 _ _
          refine ⟨fun (c37 : (¬ ((I 236 (Int.toNat (wr ((wr (1228 + (I 235 6))) + 2)))) : Int) = 108)) => ?_, fun (c37 : (((I 236 (Int.toNat (wr ((wr (1228 + (I 235 6))) + 2)))) : Int) = 108)) => ?_⟩
          ·
            replace z34 : ¬ tt ((I 235 6) + 2) = 108 := by omega
            refine ⟨fun _ => ?_, fun c => absurd (show ((0 : Int) = 0) from by decide) c⟩
            refine ⟨fun _ => ?_, fun c => absurd (show ((0 : Int) = 0) from by decide) c⟩
            have r38 : 0 ≤ (I 236 2) ∧ (I 236 2) ≤ 64 := Rg.n2 hR
            exact ⟨rfl, (by decide), fun hv hA' => hQ _ _ hR hA' (hv _ rfl) (fun _ _ _ => rfl) (show 0 = 1 → (I 235 6) + 4 ≤ (I 235 6) from fun z => absurd z (by decide)) (show (I 235 6) ≤ (I 235 7) from by first | with_reducible assumption | omega | (simp only [wr, wl] at *; omega)) (show (I 235 7) ≤ (I 236 2) from by first | with_reducible assumption | omega | (simp only [wr, wl] at *; omega)) (show (I 235 6) < (I 236 2) → (I 235 6) < (I 235 7) from by first | with_reducible assumption | omega | (simp only [wr, wl] at *; omega)) (show (I 235 6) ≤ (I 235 6) from Int.le_refl _) (show 0 = 1 → (I 235 8) = 0 ∧ ((I 235 7) - (I 235 6) = 4 ∧ tt (I 235 6) = 104 ∧ tt ((I 235 6) + 1) = 111 ∧ tt ((I 235 6) + 2) = 108 ∧ tt ((I 235 6) + 3) = 100) from fun z => absurd z (by decide)) (show 0 ≤ 0 ∧ 0 ≤ 1 from by decide) (show 0 = 0 → ¬ ((I 235 8) = 0 ∧ ((I 235 7) - (I 235 6) = 4 ∧ tt (I 235 6) = 104 ∧ tt ((I 235 6) + 1) = 111 ∧ tt ((I 235 6) + 2) = 108 ∧ tt ((I 235 6) + 3) = 100)) from by first | omega | (simp only [wr, wl] at *; omega)) (show 0 = 0 → (I 235 6) = (I 235 6) ∧ (I 235 7) = (I 235 7) from fun _ => ⟨rfl, rfl⟩) (fun z => absurd z (by decide))⟩
          ·
            replace z34 : tt ((I 235 6) + 2) = 108 := by omega
            refine ⟨fun c => absurd c (show (¬ ((1 : Int) = 0)) from by decide), fun _ => ?_⟩
            refine ⟨⟨11, (by decide), rfl⟩, ?_⟩
            refine Call_wp (lv := [some (vr 4117)]) (by decide) ckJ0_length_8abf5 [] rfl rfl ?_
            refine ⟨11, (by decide), rfl, ?_⟩
            refine Or.inr (Or.inr ⟨11, (by decide), rfl, ?_⟩)
            refine ⟨⟨11, (by decide), rfl⟩, ?_⟩
            refine Call_wp (lv := [some (vr 4117)]) (by decide) ckJ0_coder_7d493 [] rfl rfl ?_
            refine ⟨fun c => absurd c (show (¬ ((1 : Int) = 0)) from by decide), fun _ => ?_⟩
            refine ⟨11, (by decide), rfl, ?_⟩
            refine ⟨rfl, (by decide), ?_⟩
            refine ⟨rfl, ?_⟩
            refine ⟨fun c => absurd c (show (¬ ((4 : Int) ≤ 3)) from by decide), fun _ => ?_⟩
            refine ⟨_, rfl, (by decide), ?_⟩
            refine fun w0 hw0 => ?_; obtain rfl : w0 = some 236 := hw0.symm.trans (FS.g hF rfl)
            refine ⟨_, rfl, (by decide), ?_⟩
            have n40 : (wr ((wr (1228 + (I 235 6))) + 3)) = (wr (1228 + (I 235 6))) + 3 := wr_id (show -2147483648 ≤ ((wr (1228 + (I 235 6))) + 3 : Int) ∧ ((wr (1228 + (I 235 6))) + 3 : Int) < 2147483648 from by omega)
            refine ⟨_, rfl, (by decide), (show (0 : Int) ≤ (wr ((wr (1228 + (I 235 6))) + 3)) from by first | with_reducible assumption | omega | (simp only [wr, wl] at *; omega)), (show (wr ((wr (1228 + (I 235 6))) + 3)) < (1340 : Int) from by first | with_reducible assumption | omega | (simp only [wr, wl] at *; omega)), ?_⟩
            have z41 := TXT_b ht ((I 235 6) + 3)
            have z42 : (I 236 (Int.toNat (wr ((wr (1228 + (I 235 6))) + 3)))) = (I 236 (1228 + Int.toNat ((I 235 6) + 3))) := congrArg (I 236) (by omega)
            refine ⟨⟨11, (by decide), rfl⟩, ?_⟩
            refine Call_wp (lv := [some (vr 4117), some (vi 3)]) (by decide) ckJ0_charAt_5068e [] rfl rfl ?_
            refine ⟨⟨11, (by decide), rfl⟩, ?_⟩
            refine Call_wp (lv := [some (vr 4117)]) (by decide) ckJ0_isLatin1_aae02 [] rfl rfl ?_
            refine ⟨fun c => absurd c (show (¬ ((1 : Int) = 0)) from by decide), fun _ => ?_⟩
            refine ⟨11, (by decide), rfl, ?_⟩
            refine ⟨fun c => absurd (show ((0 : Int) = 0) from by decide) c, fun _ => ?_⟩
            refine ⟨rfl, (by decide), ?_⟩
            refine ⟨fun c => absurd c (show (¬ ((1 : Int) = 0)) from by decide), fun _ => ?_⟩
            refine ⟨11, (by decide), rfl, ?_⟩
            refine Call_wp (lv := [some (vr 4147), some (vi 3)]) (by decide) ckJ1_charAt_3b067 [] rfl rfl ?_
            refine Or.inr (Or.inr ⟨11, (by decide), rfl, ?_⟩)
            refine j_check (i := 3) (n := 4) (by omega) ?_
            refine ⟨11, (by decide), rfl, (by decide), (by decide), ?_⟩
            refine ⟨rfl, (by decide), ?_⟩
            refine ⟨rfl, (by decide), ?_⟩
            have a43 : -2147483648 ≤ (I 236 (Int.toNat (wr ((wr (1228 + (I 235 6))) + 3)))) ∧ (I 236 (Int.toNat (wr ((wr (1228 + (I 235 6))) + 3)))) < 2147483648 := hA.1 _ _
            refine ⟨fun (c44 : (¬ ((I 236 (Int.toNat (wr ((wr (1228 + (I 235 6))) + 3)))) : Int) = 100)) => ?_, fun (c44 : (((I 236 (Int.toNat (wr ((wr (1228 + (I 235 6))) + 3)))) : Int) = 100)) => ?_⟩
            ·
              replace z41 : ¬ tt ((I 235 6) + 3) = 100 := by omega
              refine ⟨fun _ => ?_, fun c => absurd (show ((0 : Int) = 0) from by decide) c⟩
              refine ⟨fun _ => ?_, fun c => absurd (show ((0 : Int) = 0) from by decide) c⟩
              have r45 : 0 ≤ (I 236 2) ∧ (I 236 2) ≤ 64 := Rg.n2 hR
              exact ⟨rfl, (by decide), fun hv hA' => hQ _ _ hR hA' (hv _ rfl) (fun _ _ _ => rfl) (show 0 = 1 → (I 235 6) + 4 ≤ (I 235 6) from fun z => absurd z (by decide)) (show (I 235 6) ≤ (I 235 7) from by first | with_reducible assumption | omega | (simp only [wr, wl] at *; omega)) (show (I 235 7) ≤ (I 236 2) from by first | with_reducible assumption | omega | (simp only [wr, wl] at *; omega)) (show (I 235 6) < (I 236 2) → (I 235 6) < (I 235 7) from by first | with_reducible assumption | omega | (simp only [wr, wl] at *; omega)) (show (I 235 6) ≤ (I 235 6) from Int.le_refl _) (show 0 = 1 → (I 235 8) = 0 ∧ ((I 235 7) - (I 235 6) = 4 ∧ tt (I 235 6) = 104 ∧ tt ((I 235 6) + 1) = 111 ∧ tt ((I 235 6) + 2) = 108 ∧ tt ((I 235 6) + 3) = 100) from fun z => absurd z (by decide)) (show 0 ≤ 0 ∧ 0 ≤ 1 from by decide) (show 0 = 0 → ¬ ((I 235 8) = 0 ∧ ((I 235 7) - (I 235 6) = 4 ∧ tt (I 235 6) = 104 ∧ tt ((I 235 6) + 1) = 111 ∧ tt ((I 235 6) + 2) = 108 ∧ tt ((I 235 6) + 3) = 100)) from by first | omega | (simp only [wr, wl] at *; omega)) (show 0 = 0 → (I 235 6) = (I 235 6) ∧ (I 235 7) = (I 235 7) from fun _ => ⟨rfl, rfl⟩) (fun z => absurd z (by decide))⟩
            ·
              replace z41 : tt ((I 235 6) + 3) = 100 := by omega
              refine ⟨fun c => absurd c (show (¬ ((1 : Int) = 0)) from by decide), fun _ => ?_⟩
              refine ⟨⟨11, (by decide), rfl⟩, ?_⟩
              refine Call_wp (lv := [some (vr 4117)]) (by decide) ckJ0_length_8abf5 [] rfl rfl ?_
              refine ⟨11, (by decide), rfl, ?_⟩
              refine Or.inr (Or.inr ⟨11, (by decide), rfl, ?_⟩)
              refine ⟨⟨11, (by decide), rfl⟩, ?_⟩
              refine Call_wp (lv := [some (vr 4117)]) (by decide) ckJ0_coder_7d493 [] rfl rfl ?_
              refine ⟨fun c => absurd c (show (¬ ((1 : Int) = 0)) from by decide), fun _ => ?_⟩
              refine ⟨11, (by decide), rfl, ?_⟩
              refine ⟨rfl, (by decide), ?_⟩
              refine ⟨rfl, ?_⟩
              refine ⟨fun _ => ?_, fun c => absurd (show ((4 : Int) ≤ 4) from by decide) c⟩
              refine ⟨fun c => absurd c (show (¬ ((1 : Int) = 0)) from by decide), fun _ => ?_⟩
              refine ⟨⟨_, rfl, (by decide)⟩, ?_⟩
              have r47 : 0 ≤ (I 236 2) ∧ (I 236 2) ≤ 64 := Rg.n2 hR
              refine r_goOn9  hF hR (hl) ht (show (I 235 7) ≤ (I 236 2) from by first | with_reducible assumption | omega | (simp only [wr, wl] at *; omega)) (fun I49 hR50 hA51 hW52 q53 q54 q55 q56 qr57 => ?_)
              have q53 : (I 235 7) ≤ (I49 235 6) := q53
              have q54 : (I49 235 6) ≤ (I49 235 7) := q54
              have q55 : (I49 235 7) ≤ (I 236 2) := q55
              have q56 : (I49 235 6) < (I 236 2) → (I49 235 6) < (I49 235 7) := q56
              have r58 : 0 ≤ (I49 235 6) ∧ (I49 235 6) ≤ 64 := Rg.f6 hR50
              have r60 : 0 ≤ (I49 235 7) ∧ (I49 235 7) ≤ 64 := Rg.f7 hR50
              exact ⟨rfl, (by decide), fun hv hA' => hQ _ _ hR50 hA' (hv _ rfl) (fun ka ja hk => (hW52 ka ja (by omega))) (show 1 = 1 → (I 235 6) + 4 ≤ (I49 235 6) from by first | with_reducible assumption | omega | (simp only [wr, wl] at *; omega)) (show (I49 235 6) ≤ (I49 235 7) from by first | with_reducible assumption | omega | (simp only [wr, wl] at *; omega)) (show (I49 235 7) ≤ (I 236 2) from by first | with_reducible assumption | omega | (simp only [wr, wl] at *; omega)) (show (I49 235 6) < (I 236 2) → (I49 235 6) < (I49 235 7) from by first | with_reducible assumption | omega | (simp only [wr, wl] at *; omega)) (show (I 235 6) ≤ (I49 235 6) from by first | with_reducible assumption | omega | (simp only [wr, wl] at *; omega)) (show 1 = 1 → (I 235 8) = 0 ∧ ((I 235 7) - (I 235 6) = 4 ∧ tt (I 235 6) = 104 ∧ tt ((I 235 6) + 1) = 111 ∧ tt ((I 235 6) + 2) = 108 ∧ tt ((I 235 6) + 3) = 100) from by first | omega | (simp only [wr, wl] at *; omega)) (show 0 ≤ 1 ∧ 1 ≤ 1 from by decide) (show 1 = 0 → ¬ ((I 235 8) = 0 ∧ ((I 235 7) - (I 235 6) = 4 ∧ tt (I 235 6) = 104 ∧ tt ((I 235 6) + 1) = 111 ∧ tt ((I 235 6) + 2) = 108 ∧ tt ((I 235 6) + 3) = 100)) from fun z => absurd z (by decide)) (show 1 = 0 → (I49 235 6) = (I 235 6) ∧ (I49 235 7) = (I 235 7) from fun z => absurd z (by decide)) (fun _ => qr57)⟩
theorem r_tk9_11 (hF : FS F) (hR : Rg I) {tt : Int → Int} {nn : Int} (hl : I 236 2 = nn) (ht : TXT tt nn (fun j => I 236 (1228 + j))) (h1 : I 235 6 ≤ I 235 7) (h2 : I 235 7 ≤ I 236 2) (h3 : I 235 6 < I 236 2 → I 235 6 < I 235 7) (h1' : ∀ I' : pI, Rg I' → AR I' → (∀ k j, ¬ ((k = 235 ∧ (j = 6 ∨ j = 7))) → I' k j = I k j) → I 235 8 = 0 → mkW3 tt (I 235 6) (I 235 7) → I 235 7 - I 235 6 = 4 → I 235 6 + 4 ≤ I' 235 6 → I' 235 6 ≤ I' 235 7 → I' 235 7 ≤ I 236 2 → (I' 235 6 < I 236 2 → I' 235 6 < I' 235 7) → Tok tt nn (I 235 7) (I' 235 6) (I' 235 7) → Q (some (vi 1)) F I') (h0' : ¬ (I 235 8 = 0 ∧ mkW3 tt (I 235 6) (I 235 7)) → Q (some (vi 0)) F I) : CallN G (d + 4) kX12_takes [vr 235, vr 4117] NP F I Q := by
  refine r_takes9_11 hF hR hl ht h1 h2 h3 (fun r I' hR' hA' _ hW q1 q2 q3 q4 q5 q6 q7 q8 q9 qr => ?_)
  by_cases e : r = 1
  · rw [e]; exact h1' I' hR' hA' hW (q6 e).1 (q6 e).2 (q6 e).2.1 (q1 e) q2 q3 q4 (qr e)
  · have e0 : r = 0 := by omega
    have hI : I' = I := funext (fun k => funext (fun j => by
      by_cases c : k = 235 ∧ (j = 6 ∨ j = 7)
      · obtain ⟨rfl, c⟩ := c
        rcases c with rfl | rfl
        · exact (q9 e0).1
        · exact (q9 e0).2
      · exact hW k j c))
    rw [e0, hI]; exact h0' (q8 e0)
theorem r_takes9_12 (hF : FS F) (hR : Rg I) {tt : Int → Int} {nn : Int} (hl : I 236 2 = nn) (ht : TXT tt nn (fun j => I 236 (1228 + j))) (h1 : I 235 6 ≤ I 235 7) (h2 : I 235 7 ≤ I 236 2) (h3 : I 235 6 < I 236 2 → I 235 6 < I 235 7) (hQ : ∀ (r : Int) (I' : pI), Rg I' → AR I' → iR r → (∀ k j, ¬ ((k = 235 ∧ (j = 6 ∨ j = 7))) → I' k j = I k j) → (r = 1 → (I 235 6) + 4 ≤ (I' 235 6)) → ((I' 235 6) ≤ (I' 235 7)) → ((I' 235 7) ≤ (I 236 2)) → ((I' 235 6) < (I 236 2) → (I' 235 6) < (I' 235 7)) → ((I 235 6) ≤ (I' 235 6)) → (r = 1 → (I 235 8) = 0 ∧ ((I 235 7) - (I 235 6) = 4 ∧ tt (I 235 6) = 98 ∧ tt ((I 235 6) + 1) = 97 ∧ tt ((I 235 6) + 2) = 99 ∧ tt ((I 235 6) + 3) = 107)) → (0 ≤ r ∧ r ≤ 1) → (r = 0 → ¬ ((I 235 8) = 0 ∧ ((I 235 7) - (I 235 6) = 4 ∧ tt (I 235 6) = 98 ∧ tt ((I 235 6) + 1) = 97 ∧ tt ((I 235 6) + 2) = 99 ∧ tt ((I 235 6) + 3) = 107))) → (r = 0 → (I' 235 6) = (I 235 6) ∧ (I' 235 7) = (I 235 7)) → (r = 1 → Tok tt nn (I 235 7) (I' 235 6) (I' 235 7)) → Q (some (vi r)) F I') : CallN G (d + 4) kX12_takes [vr 235, vr 4118] NP F I Q := by
  refine CallN_in (fun hok hA => CallN_out ?_)
  have hn2 := ht.1
  have g2 := Rg.n2 hR
  refine Call_wp (lv := [some (vr 235), some (vr 4118), none, none]) (by decide) ckX12_takes [] rfl rfl ?_
  refine ⟨_, rfl, (by decide), ?_⟩
  have a1 : -2147483648 ≤ (I 235 8) ∧ (I 235 8) < 2147483648 := hA.1 _ _
  refine ⟨fun (c2 : (¬ ((I 235 8) : Int) = 0)) => ?_, fun (c2 : (((I 235 8) : Int) = 0)) => ?_⟩
  ·
    refine ⟨fun _ => ?_, fun c => absurd (show ((0 : Int) = 0) from by decide) c⟩
    refine ⟨fun _ => ?_, fun c => absurd (show ((0 : Int) = 0) from by decide) c⟩
    have r3 : 0 ≤ (I 235 6) ∧ (I 235 6) ≤ 64 := Rg.f6 hR
    have r5 : 0 ≤ (I 235 7) ∧ (I 235 7) ≤ 64 := Rg.f7 hR
    have r7 : 0 ≤ (I 236 2) ∧ (I 236 2) ≤ 64 := Rg.n2 hR
    exact ⟨rfl, (by decide), fun hv hA' => hQ _ _ hR hA' (hv _ rfl) (fun _ _ _ => rfl) (show 0 = 1 → (I 235 6) + 4 ≤ (I 235 6) from fun z => absurd z (by decide)) (show (I 235 6) ≤ (I 235 7) from by first | with_reducible assumption | omega | (simp only [wr, wl] at *; omega)) (show (I 235 7) ≤ (I 236 2) from by first | with_reducible assumption | omega | (simp only [wr, wl] at *; omega)) (show (I 235 6) < (I 236 2) → (I 235 6) < (I 235 7) from by first | with_reducible assumption | omega | (simp only [wr, wl] at *; omega)) (show (I 235 6) ≤ (I 235 6) from Int.le_refl _) (show 0 = 1 → (I 235 8) = 0 ∧ ((I 235 7) - (I 235 6) = 4 ∧ tt (I 235 6) = 98 ∧ tt ((I 235 6) + 1) = 97 ∧ tt ((I 235 6) + 2) = 99 ∧ tt ((I 235 6) + 3) = 107) from fun z => absurd z (by decide)) (show 0 ≤ 0 ∧ 0 ≤ 1 from by decide) (show 0 = 0 → ¬ ((I 235 8) = 0 ∧ ((I 235 7) - (I 235 6) = 4 ∧ tt (I 235 6) = 98 ∧ tt ((I 235 6) + 1) = 97 ∧ tt ((I 235 6) + 2) = 99 ∧ tt ((I 235 6) + 3) = 107)) from by first | omega | (simp only [wr, wl] at *; omega)) (show 0 = 0 → (I 235 6) = (I 235 6) ∧ (I 235 7) = (I 235 7) from fun _ => ⟨rfl, rfl⟩) (fun z => absurd z (by decide))⟩
  ·
    refine ⟨_, rfl, (by decide), ?_⟩
    have r9 : 0 ≤ (I 235 7) ∧ (I 235 7) ≤ 64 := Rg.f7 hR
    refine ⟨_, rfl, (by decide), ?_⟩
    have r10 : 0 ≤ (I 235 6) ∧ (I 235 6) ≤ 64 := Rg.f6 hR
    refine ⟨⟨12, (by decide), rfl⟩, ?_⟩
    refine Call_wp (lv := [some (vr 4118)]) (by decide) ckJ0_length_8abf5 [] rfl rfl ?_
    refine ⟨12, (by decide), rfl, ?_⟩
    refine Or.inr (Or.inr ⟨12, (by decide), rfl, ?_⟩)
    refine ⟨⟨12, (by decide), rfl⟩, ?_⟩
    refine Call_wp (lv := [some (vr 4118)]) (by decide) ckJ0_coder_7d493 [] rfl rfl ?_
    refine ⟨fun c => absurd c (show (¬ ((1 : Int) = 0)) from by decide), fun _ => ?_⟩
    refine ⟨12, (by decide), rfl, ?_⟩
    refine ⟨rfl, (by decide), ?_⟩
    refine ⟨rfl, ?_⟩
    have n13 : (wr ((I 235 7) - (I 235 6))) = (I 235 7) - (I 235 6) := wr_id (show -2147483648 ≤ ((I 235 7) - (I 235 6) : Int) ∧ ((I 235 7) - (I 235 6) : Int) < 2147483648 from by omega)
    refine ⟨fun (c14 : (¬ ((wr ((I 235 7) - (I 235 6))) : Int) = 4)) => ?_, fun (c14 : (((wr ((I 235 7) - (I 235 6))) : Int) = 4)) => ?_⟩
    ·
      refine ⟨fun _ => ?_, fun c => absurd (show ((0 : Int) = 0) from by decide) c⟩
      refine ⟨fun _ => ?_, fun c => absurd (show ((0 : Int) = 0) from by decide) c⟩
      have r15 : 0 ≤ (I 236 2) ∧ (I 236 2) ≤ 64 := Rg.n2 hR
      exact ⟨rfl, (by decide), fun hv hA' => hQ _ _ hR hA' (hv _ rfl) (fun _ _ _ => rfl) (show 0 = 1 → (I 235 6) + 4 ≤ (I 235 6) from fun z => absurd z (by decide)) (show (I 235 6) ≤ (I 235 7) from by first | with_reducible assumption | omega | (simp only [wr, wl] at *; omega)) (show (I 235 7) ≤ (I 236 2) from by first | with_reducible assumption | omega | (simp only [wr, wl] at *; omega)) (show (I 235 6) < (I 236 2) → (I 235 6) < (I 235 7) from by first | with_reducible assumption | omega | (simp only [wr, wl] at *; omega)) (show (I 235 6) ≤ (I 235 6) from Int.le_refl _) (show 0 = 1 → (I 235 8) = 0 ∧ ((I 235 7) - (I 235 6) = 4 ∧ tt (I 235 6) = 98 ∧ tt ((I 235 6) + 1) = 97 ∧ tt ((I 235 6) + 2) = 99 ∧ tt ((I 235 6) + 3) = 107) from fun z => absurd z (by decide)) (show 0 ≤ 0 ∧ 0 ≤ 1 from by decide) (show 0 = 0 → ¬ ((I 235 8) = 0 ∧ ((I 235 7) - (I 235 6) = 4 ∧ tt (I 235 6) = 98 ∧ tt ((I 235 6) + 1) = 97 ∧ tt ((I 235 6) + 2) = 99 ∧ tt ((I 235 6) + 3) = 107)) from by first | omega | (simp only [wr, wl] at *; omega)) (show 0 = 0 → (I 235 6) = (I 235 6) ∧ (I 235 7) = (I 235 7) from fun _ => ⟨rfl, rfl⟩) (fun z => absurd z (by decide))⟩
    ·
      refine ⟨fun c => absurd c (show (¬ ((1 : Int) = 0)) from by decide), fun _ => ?_⟩
      refine ⟨⟨12, (by decide), rfl⟩, ?_⟩
      refine Call_wp (lv := [some (vr 4118)]) (by decide) ckJ0_length_8abf5 [] rfl rfl ?_
      refine ⟨12, (by decide), rfl, ?_⟩
      refine Or.inr (Or.inr ⟨12, (by decide), rfl, ?_⟩)
      refine ⟨⟨12, (by decide), rfl⟩, ?_⟩
      refine Call_wp (lv := [some (vr 4118)]) (by decide) ckJ0_coder_7d493 [] rfl rfl ?_
      refine ⟨fun c => absurd c (show (¬ ((1 : Int) = 0)) from by decide), fun _ => ?_⟩
      refine ⟨12, (by decide), rfl, ?_⟩
      refine ⟨rfl, (by decide), ?_⟩
      refine ⟨rfl, ?_⟩
      refine ⟨fun c => absurd c (show (¬ ((4 : Int) ≤ 0)) from by decide), fun _ => ?_⟩
      refine ⟨_, rfl, (by decide), ?_⟩
      refine fun w0 hw0 => ?_; obtain rfl : w0 = some 236 := hw0.symm.trans (FS.g hF rfl)
      refine ⟨_, rfl, (by decide), ?_⟩
      have n17 : (wr (1228 + (I 235 6))) = 1228 + (I 235 6) := wr_id (show -2147483648 ≤ (1228 + (I 235 6) : Int) ∧ (1228 + (I 235 6) : Int) < 2147483648 from by omega)
      have n18 : (wr ((wr (1228 + (I 235 6))) + 0)) = (wr (1228 + (I 235 6))) + 0 := wr_id (show -2147483648 ≤ ((wr (1228 + (I 235 6))) + 0 : Int) ∧ ((wr (1228 + (I 235 6))) + 0 : Int) < 2147483648 from by omega)
      refine ⟨_, rfl, (by decide), (show (0 : Int) ≤ (wr ((wr (1228 + (I 235 6))) + 0)) from by first | with_reducible assumption | omega | (simp only [wr, wl] at *; omega)), (show (wr ((wr (1228 + (I 235 6))) + 0)) < (1340 : Int) from by first | with_reducible assumption | omega | (simp only [wr, wl] at *; omega)), ?_⟩
      have z19 := TXT_b ht (I 235 6)
      have z20 : (I 236 (Int.toNat (wr ((wr (1228 + (I 235 6))) + 0)))) = (I 236 (1228 + Int.toNat (I 235 6))) := congrArg (I 236) (by omega)
      have r21 : 0 ≤ (I 236 (Int.toNat (wr ((wr (1228 + (I 235 6))) + 0)))) ∧ (I 236 (Int.toNat (wr ((wr (1228 + (I 235 6))) + 0)))) ≤ 255 := Pn_t (by omega) (hR.n (Int.toNat (wr ((wr (1228 + (I 235 6))) + 0))) (by omega))
      refine ⟨⟨12, (by decide), rfl⟩, ?_⟩
      refine Call_wp (lv := [some (vr 4118), some (vi 0)]) (by decide) ckJ0_charAt_5068e [] rfl rfl ?_
      refine ⟨⟨12, (by decide), rfl⟩, ?_⟩
      refine Call_wp (lv := [some (vr 4118)]) (by decide) ckJ0_isLatin1_aae02 [] rfl rfl ?_
      refine ⟨fun c => absurd c (show (¬ ((1 : Int) = 0)) from by decide), fun _ => ?_⟩
      refine ⟨12, (by decide), rfl, ?_⟩
      refine ⟨fun c => absurd (show ((0 : Int) = 0) from by decide) c, fun _ => ?_⟩
      refine ⟨rfl, (by decide), ?_⟩
      refine ⟨fun c => absurd c (show (¬ ((1 : Int) = 0)) from by decide), fun _ => ?_⟩
      refine ⟨12, (by decide), rfl, ?_⟩
      refine Call_wp (lv := [some (vr 4148), some (vi 0)]) (by decide) ckJ1_charAt_3b067 [] rfl rfl ?_
      refine Or.inr (Or.inr ⟨12, (by decide), rfl, ?_⟩)
      refine j_check (i := 0) (n := 4) (by omega) ?_
      refine ⟨12, (by decide), rfl, (by decide), (by decide), ?_⟩
      refine ⟨rfl, (by decide), ?_⟩
      refine ⟨rfl, (by decide), ?_⟩
      refine ⟨fun (c23 : (¬ ((I 236 (Int.toNat (wr ((wr (1228 + (I 235 6))) + 0)))) : Int) = 98)) => ?_, fun (c23 : (((I 236 (Int.toNat (wr ((wr (1228 + (I 235 6))) + 0)))) : Int) = 98)) => ?_⟩
      ·
        replace z19 : ¬ tt (I 235 6) = 98 := by omega
        refine ⟨fun _ => ?_, fun c => absurd (show ((0 : Int) = 0) from by decide) c⟩
        refine ⟨fun _ => ?_, fun c => absurd (show ((0 : Int) = 0) from by decide) c⟩
        have r24 : 0 ≤ (I 236 2) ∧ (I 236 2) ≤ 64 := Rg.n2 hR
        exact ⟨rfl, (by decide), fun hv hA' => hQ _ _ hR hA' (hv _ rfl) (fun _ _ _ => rfl) (show 0 = 1 → (I 235 6) + 4 ≤ (I 235 6) from fun z => absurd z (by decide)) (show (I 235 6) ≤ (I 235 7) from by first | with_reducible assumption | omega | (simp only [wr, wl] at *; omega)) (show (I 235 7) ≤ (I 236 2) from by first | with_reducible assumption | omega | (simp only [wr, wl] at *; omega)) (show (I 235 6) < (I 236 2) → (I 235 6) < (I 235 7) from by first | with_reducible assumption | omega | (simp only [wr, wl] at *; omega)) (show (I 235 6) ≤ (I 235 6) from Int.le_refl _) (show 0 = 1 → (I 235 8) = 0 ∧ ((I 235 7) - (I 235 6) = 4 ∧ tt (I 235 6) = 98 ∧ tt ((I 235 6) + 1) = 97 ∧ tt ((I 235 6) + 2) = 99 ∧ tt ((I 235 6) + 3) = 107) from fun z => absurd z (by decide)) (show 0 ≤ 0 ∧ 0 ≤ 1 from by decide) (show 0 = 0 → ¬ ((I 235 8) = 0 ∧ ((I 235 7) - (I 235 6) = 4 ∧ tt (I 235 6) = 98 ∧ tt ((I 235 6) + 1) = 97 ∧ tt ((I 235 6) + 2) = 99 ∧ tt ((I 235 6) + 3) = 107)) from by first | omega | (simp only [wr, wl] at *; omega)) (show 0 = 0 → (I 235 6) = (I 235 6) ∧ (I 235 7) = (I 235 7) from fun _ => ⟨rfl, rfl⟩) (fun z => absurd z (by decide))⟩
      ·
        replace z19 : tt (I 235 6) = 98 := by omega
        refine ⟨fun c => absurd c (show (¬ ((1 : Int) = 0)) from by decide), fun _ => ?_⟩
        refine ⟨⟨12, (by decide), rfl⟩, ?_⟩
        refine Call_wp (lv := [some (vr 4118)]) (by decide) ckJ0_length_8abf5 [] rfl rfl ?_
        refine ⟨12, (by decide), rfl, ?_⟩
        refine Or.inr (Or.inr ⟨12, (by decide), rfl, ?_⟩)
        refine ⟨⟨12, (by decide), rfl⟩, ?_⟩
        refine Call_wp (lv := [some (vr 4118)]) (by decide) ckJ0_coder_7d493 [] rfl rfl ?_
        refine ⟨fun c => absurd c (show (¬ ((1 : Int) = 0)) from by decide), fun _ => ?_⟩
        refine ⟨12, (by decide), rfl, ?_⟩
        refine ⟨rfl, (by decide), ?_⟩
        refine ⟨rfl, ?_⟩
        refine ⟨fun c => absurd c (show (¬ ((4 : Int) ≤ 1)) from by decide), fun _ => ?_⟩
        refine ⟨_, rfl, (by decide), ?_⟩
        refine fun w0 hw0 => ?_; obtain rfl : w0 = some 236 := hw0.symm.trans (FS.g hF rfl)
        refine ⟨_, rfl, (by decide), ?_⟩
        have n26 : (wr ((wr (1228 + (I 235 6))) + 1)) = (wr (1228 + (I 235 6))) + 1 := wr_id (show -2147483648 ≤ ((wr (1228 + (I 235 6))) + 1 : Int) ∧ ((wr (1228 + (I 235 6))) + 1 : Int) < 2147483648 from by omega)
        refine ⟨_, rfl, (by decide), (show (0 : Int) ≤ (wr ((wr (1228 + (I 235 6))) + 1)) from by first | with_reducible assumption | omega | (simp only [wr, wl] at *; omega)), (show (wr ((wr (1228 + (I 235 6))) + 1)) < (1340 : Int) from by first | with_reducible assumption | omega | (simp only [wr, wl] at *; omega)), ?_⟩
        have z27 := TXT_b ht ((I 235 6) + 1)
        have z28 : (I 236 (Int.toNat (wr ((wr (1228 + (I 235 6))) + 1)))) = (I 236 (1228 + Int.toNat ((I 235 6) + 1))) := congrArg (I 236) (by omega)
        refine ⟨⟨12, (by decide), rfl⟩, ?_⟩
        refine Call_wp (lv := [some (vr 4118), some (vi 1)]) (by decide) ckJ0_charAt_5068e [] rfl rfl ?_
        refine ⟨⟨12, (by decide), rfl⟩, ?_⟩
        refine Call_wp (lv := [some (vr 4118)]) (by decide) ckJ0_isLatin1_aae02 [] rfl rfl ?_
        refine ⟨fun c => absurd c (show (¬ ((1 : Int) = 0)) from by decide), fun _ => ?_⟩
        refine ⟨12, (by decide), rfl, ?_⟩
        refine ⟨fun c => absurd (show ((0 : Int) = 0) from by decide) c, fun _ => ?_⟩
        refine ⟨rfl, (by decide), ?_⟩
        refine ⟨fun c => absurd c (show (¬ ((1 : Int) = 0)) from by decide), fun _ => ?_⟩
        refine ⟨12, (by decide), rfl, ?_⟩
        refine Call_wp (lv := [some (vr 4148), some (vi 1)]) (by decide) ckJ1_charAt_3b067 [] rfl rfl ?_
        refine Or.inr (Or.inr ⟨12, (by decide), rfl, ?_⟩)
        refine j_check (i := 1) (n := 4) (by omega) ?_
        refine ⟨12, (by decide), rfl, (by decide), (by decide), ?_⟩
        refine ⟨rfl, (by decide), ?_⟩
        refine ⟨rfl, (by decide), ?_⟩
        have a29 : -2147483648 ≤ (I 236 (Int.toNat (wr ((wr (1228 + (I 235 6))) + 1)))) ∧ (I 236 (Int.toNat (wr ((wr (1228 + (I 235 6))) + 1)))) < 2147483648 := hA.1 _ _
        refine ⟨fun (c30 : (¬ ((I 236 (Int.toNat (wr ((wr (1228 + (I 235 6))) + 1)))) : Int) = 97)) => ?_, fun (c30 : (((I 236 (Int.toNat (wr ((wr (1228 + (I 235 6))) + 1)))) : Int) = 97)) => ?_⟩
        ·
          replace z27 : ¬ tt ((I 235 6) + 1) = 97 := by omega
          refine ⟨fun _ => ?_, fun c => absurd (show ((0 : Int) = 0) from by decide) c⟩
          refine ⟨fun _ => ?_, fun c => absurd (show ((0 : Int) = 0) from by decide) c⟩
          have r31 : 0 ≤ (I 236 2) ∧ (I 236 2) ≤ 64 := Rg.n2 hR
          exact ⟨rfl, (by decide), fun hv hA' => hQ _ _ hR hA' (hv _ rfl) (fun _ _ _ => rfl) (show 0 = 1 → (I 235 6) + 4 ≤ (I 235 6) from fun z => absurd z (by decide)) (show (I 235 6) ≤ (I 235 7) from by first | with_reducible assumption | omega | (simp only [wr, wl] at *; omega)) (show (I 235 7) ≤ (I 236 2) from by first | with_reducible assumption | omega | (simp only [wr, wl] at *; omega)) (show (I 235 6) < (I 236 2) → (I 235 6) < (I 235 7) from by first | with_reducible assumption | omega | (simp only [wr, wl] at *; omega)) (show (I 235 6) ≤ (I 235 6) from Int.le_refl _) (show 0 = 1 → (I 235 8) = 0 ∧ ((I 235 7) - (I 235 6) = 4 ∧ tt (I 235 6) = 98 ∧ tt ((I 235 6) + 1) = 97 ∧ tt ((I 235 6) + 2) = 99 ∧ tt ((I 235 6) + 3) = 107) from fun z => absurd z (by decide)) (show 0 ≤ 0 ∧ 0 ≤ 1 from by decide) (show 0 = 0 → ¬ ((I 235 8) = 0 ∧ ((I 235 7) - (I 235 6) = 4 ∧ tt (I 235 6) = 98 ∧ tt ((I 235 6) + 1) = 97 ∧ tt ((I 235 6) + 2) = 99 ∧ tt ((I 235 6) + 3) = 107)) from by first | omega | (simp only [wr, wl] at *; omega)) (show 0 = 0 → (I 235 6) = (I 235 6) ∧ (I 235 7) = (I 235 7) from fun _ => ⟨rfl, rfl⟩) (fun z => absurd z (by decide))⟩
        ·
          replace z27 : tt ((I 235 6) + 1) = 97 := by omega
          refine ⟨fun c => absurd c (show (¬ ((1 : Int) = 0)) from by decide), fun _ => ?_⟩
          refine ⟨⟨12, (by decide), rfl⟩, ?_⟩
          refine Call_wp (lv := [some (vr 4118)]) (by decide) ckJ0_length_8abf5 [] rfl rfl ?_
          refine ⟨12, (by decide), rfl, ?_⟩
          refine Or.inr (Or.inr ⟨12, (by decide), rfl, ?_⟩)
          refine ⟨⟨12, (by decide), rfl⟩, ?_⟩
          refine Call_wp (lv := [some (vr 4118)]) (by decide) ckJ0_coder_7d493 [] rfl rfl ?_
          refine ⟨fun c => absurd c (show (¬ ((1 : Int) = 0)) from by decide), fun _ => ?_⟩
          refine ⟨12, (by decide), rfl, ?_⟩
          refine ⟨rfl, (by decide), ?_⟩
          refine ⟨rfl, ?_⟩
          refine ⟨fun c => absurd c (show (¬ ((4 : Int) ≤ 2)) from by decide), fun _ => ?_⟩
          refine ⟨_, rfl, (by decide), ?_⟩
          refine fun w0 hw0 => ?_; obtain rfl : w0 = some 236 := hw0.symm.trans (FS.g hF rfl)
          refine ⟨_, rfl, (by decide), ?_⟩
          have n33 : (wr ((wr (1228 + (I 235 6))) + 2)) = (wr (1228 + (I 235 6))) + 2 := wr_id (show -2147483648 ≤ ((wr (1228 + (I 235 6))) + 2 : Int) ∧ ((wr (1228 + (I 235 6))) + 2 : Int) < 2147483648 from by omega)
          refine ⟨_, rfl, (by decide), (show (0 : Int) ≤ (wr ((wr (1228 + (I 235 6))) + 2)) from by first | with_reducible assumption | omega | (simp only [wr, wl] at *; omega)), (show (wr ((wr (1228 + (I 235 6))) + 2)) < (1340 : Int) from by first | with_reducible assumption | omega | (simp only [wr, wl] at *; omega)), ?_⟩
          have z34 := TXT_b ht ((I 235 6) + 2)
          have z35 : (I 236 (Int.toNat (wr ((wr (1228 + (I 235 6))) + 2)))) = (I 236 (1228 + Int.toNat ((I 235 6) + 2))) := congrArg (I 236) (by omega)
          refine ⟨⟨12, (by decide), rfl⟩, ?_⟩
          refine Call_wp (lv := [some (vr 4118), some (vi 2)]) (by decide) ckJ0_charAt_5068e [] rfl rfl ?_
          refine ⟨⟨12, (by decide), rfl⟩, ?_⟩
          refine Call_wp (lv := [some (vr 4118)]) (by decide) ckJ0_isLatin1_aae02 [] rfl rfl ?_
          refine ⟨fun c => absurd c (show (¬ ((1 : Int) = 0)) from by decide), fun _ => ?_⟩
          refine ⟨12, (by decide), rfl, ?_⟩
          refine ⟨fun c => absurd (show ((0 : Int) = 0) from by decide) c, fun _ => ?_⟩
          refine ⟨rfl, (by decide), ?_⟩
          refine ⟨fun c => absurd c (show (¬ ((1 : Int) = 0)) from by decide), fun _ => ?_⟩
          refine ⟨12, (by decide), rfl, ?_⟩
          refine Call_wp (lv := [some (vr 4148), some (vi 2)]) (by decide) ckJ1_charAt_3b067 [] rfl rfl ?_
          refine Or.inr (Or.inr ⟨12, (by decide), rfl, ?_⟩)
          refine j_check (i := 2) (n := 4) (by omega) ?_
          refine ⟨12, (by decide), rfl, (by decide), (by decide), ?_⟩
          refine ⟨rfl, (by decide), ?_⟩
          refine ⟨rfl, (by decide), ?_⟩
          have a36 : -2147483648 ≤ (I 236 (Int.toNat (wr ((wr (1228 + (I 235 6))) + 2)))) ∧ (I 236 (Int.toNat (wr ((wr (1228 + (I 235 6))) + 2)))) < 2147483648 := hA.1 _ _
          refine ⟨fun (c37 : (¬ ((I 236 (Int.toNat (wr ((wr (1228 + (I 235 6))) + 2)))) : Int) = 99)) => ?_, fun (c37 : (((I 236 (Int.toNat (wr ((wr (1228 + (I 235 6))) + 2)))) : Int) = 99)) => ?_⟩
          ·
            replace z34 : ¬ tt ((I 235 6) + 2) = 99 := by omega
            refine ⟨fun _ => ?_, fun c => absurd (show ((0 : Int) = 0) from by decide) c⟩
            refine ⟨fun _ => ?_, fun c => absurd (show ((0 : Int) = 0) from by decide) c⟩
            have r38 : 0 ≤ (I 236 2) ∧ (I 236 2) ≤ 64 := Rg.n2 hR
            exact ⟨rfl, (by decide), fun hv hA' => hQ _ _ hR hA' (hv _ rfl) (fun _ _ _ => rfl) (show 0 = 1 → (I 235 6) + 4 ≤ (I 235 6) from fun z => absurd z (by decide)) (show (I 235 6) ≤ (I 235 7) from by first | with_reducible assumption | omega | (simp only [wr, wl] at *; omega)) (show (I 235 7) ≤ (I 236 2) from by first | with_reducible assumption | omega | (simp only [wr, wl] at *; omega)) (show (I 235 6) < (I 236 2) → (I 235 6) < (I 235 7) from by first | with_reducible assumption | omega | (simp only [wr, wl] at *; omega)) (show (I 235 6) ≤ (I 235 6) from Int.le_refl _) (show 0 = 1 → (I 235 8) = 0 ∧ ((I 235 7) - (I 235 6) = 4 ∧ tt (I 235 6) = 98 ∧ tt ((I 235 6) + 1) = 97 ∧ tt ((I 235 6) + 2) = 99 ∧ tt ((I 235 6) + 3) = 107) from fun z => absurd z (by decide)) (show 0 ≤ 0 ∧ 0 ≤ 1 from by decide) (show 0 = 0 → ¬ ((I 235 8) = 0 ∧ ((I 235 7) - (I 235 6) = 4 ∧ tt (I 235 6) = 98 ∧ tt ((I 235 6) + 1) = 97 ∧ tt ((I 235 6) + 2) = 99 ∧ tt ((I 235 6) + 3) = 107)) from by first | omega | (simp only [wr, wl] at *; omega)) (show 0 = 0 → (I 235 6) = (I 235 6) ∧ (I 235 7) = (I 235 7) from fun _ => ⟨rfl, rfl⟩) (fun z => absurd z (by decide))⟩
          ·
            replace z34 : tt ((I 235 6) + 2) = 99 := by omega
            refine ⟨fun c => absurd c (show (¬ ((1 : Int) = 0)) from by decide), fun _ => ?_⟩
            refine ⟨⟨12, (by decide), rfl⟩, ?_⟩
            refine Call_wp (lv := [some (vr 4118)]) (by decide) ckJ0_length_8abf5 [] rfl rfl ?_
            refine ⟨12, (by decide), rfl, ?_⟩
            refine Or.inr (Or.inr ⟨12, (by decide), rfl, ?_⟩)
            refine ⟨⟨12, (by decide), rfl⟩, ?_⟩
            refine Call_wp (lv := [some (vr 4118)]) (by decide) ckJ0_coder_7d493 [] rfl rfl ?_
            refine ⟨fun c => absurd c (show (¬ ((1 : Int) = 0)) from by decide), fun _ => ?_⟩
            refine ⟨12, (by decide), rfl, ?_⟩
            refine ⟨rfl, (by decide), ?_⟩
            refine ⟨rfl, ?_⟩
            refine ⟨fun c => absurd c (show (¬ ((4 : Int) ≤ 3)) from by decide), fun _ => ?_⟩
            refine ⟨_, rfl, (by decide), ?_⟩
            refine fun w0 hw0 => ?_; obtain rfl : w0 = some 236 := hw0.symm.trans (FS.g hF rfl)
            refine ⟨_, rfl, (by decide), ?_⟩
            have n40 : (wr ((wr (1228 + (I 235 6))) + 3)) = (wr (1228 + (I 235 6))) + 3 := wr_id (show -2147483648 ≤ ((wr (1228 + (I 235 6))) + 3 : Int) ∧ ((wr (1228 + (I 235 6))) + 3 : Int) < 2147483648 from by omega)
            refine ⟨_, rfl, (by decide), (show (0 : Int) ≤ (wr ((wr (1228 + (I 235 6))) + 3)) from by first | with_reducible assumption | omega | (simp only [wr, wl] at *; omega)), (show (wr ((wr (1228 + (I 235 6))) + 3)) < (1340 : Int) from by first | with_reducible assumption | omega | (simp only [wr, wl] at *; omega)), ?_⟩
            have z41 := TXT_b ht ((I 235 6) + 3)
            have z42 : (I 236 (Int.toNat (wr ((wr (1228 + (I 235 6))) + 3)))) = (I 236 (1228 + Int.toNat ((I 235 6) + 3))) := congrArg (I 236) (by omega)
            refine ⟨⟨12, (by decide), rfl⟩, ?_⟩
            refine Call_wp (lv := [some (vr 4118), some (vi 3)]) (by decide) ckJ0_charAt_5068e [] rfl rfl ?_
            refine ⟨⟨12, (by decide), rfl⟩, ?_⟩
            refine Call_wp (lv := [some (vr 4118)]) (by decide) ckJ0_isLatin1_aae02 [] rfl rfl ?_
            refine ⟨fun c => absurd c (show (¬ ((1 : Int) = 0)) from by decide), fun _ => ?_⟩
            refine ⟨12, (by decide), rfl, ?_⟩
            refine ⟨fun c => absurd (show ((0 : Int) = 0) from by decide) c, fun _ => ?_⟩
            refine ⟨rfl, (by decide), ?_⟩
            refine ⟨fun c => absurd c (show (¬ ((1 : Int) = 0)) from by decide), fun _ => ?_⟩
            refine ⟨12, (by decide), rfl, ?_⟩
            refine Call_wp (lv := [some (vr 4148), some (vi 3)]) (by decide) ckJ1_charAt_3b067 [] rfl rfl ?_
            refine Or.inr (Or.inr ⟨12, (by decide), rfl, ?_⟩)
            refine j_check (i := 3) (n := 4) (by omega) ?_
            refine ⟨12, (by decide), rfl, (by decide), (by decide), ?_⟩
            refine ⟨rfl, (by decide), ?_⟩
            refine ⟨rfl, (by decide), ?_⟩
            have a43 : -2147483648 ≤ (I 236 (Int.toNat (wr ((wr (1228 + (I 235 6))) + 3)))) ∧ (I 236 (Int.toNat (wr ((wr (1228 + (I 235 6))) + 3)))) < 2147483648 := hA.1 _ _
            refine ⟨fun (c44 : (¬ ((I 236 (Int.toNat (wr ((wr (1228 + (I 235 6))) + 3)))) : Int) = 107)) => ?_, fun (c44 : (((I 236 (Int.toNat (wr ((wr (1228 + (I 235 6))) + 3)))) : Int) = 107)) => ?_⟩
            ·
              replace z41 : ¬ tt ((I 235 6) + 3) = 107 := by omega
              refine ⟨fun _ => ?_, fun c => absurd (show ((0 : Int) = 0) from by decide) c⟩
              refine ⟨fun _ => ?_, fun c => absurd (show ((0 : Int) = 0) from by decide) c⟩
              have r45 : 0 ≤ (I 236 2) ∧ (I 236 2) ≤ 64 := Rg.n2 hR
              exact ⟨rfl, (by decide), fun hv hA' => hQ _ _ hR hA' (hv _ rfl) (fun _ _ _ => rfl) (show 0 = 1 → (I 235 6) + 4 ≤ (I 235 6) from fun z => absurd z (by decide)) (show (I 235 6) ≤ (I 235 7) from by first | with_reducible assumption | omega | (simp only [wr, wl] at *; omega)) (show (I 235 7) ≤ (I 236 2) from by first | with_reducible assumption | omega | (simp only [wr, wl] at *; omega)) (show (I 235 6) < (I 236 2) → (I 235 6) < (I 235 7) from by first | with_reducible assumption | omega | (simp only [wr, wl] at *; omega)) (show (I 235 6) ≤ (I 235 6) from Int.le_refl _) (show 0 = 1 → (I 235 8) = 0 ∧ ((I 235 7) - (I 235 6) = 4 ∧ tt (I 235 6) = 98 ∧ tt ((I 235 6) + 1) = 97 ∧ tt ((I 235 6) + 2) = 99 ∧ tt ((I 235 6) + 3) = 107) from fun z => absurd z (by decide)) (show 0 ≤ 0 ∧ 0 ≤ 1 from by decide) (show 0 = 0 → ¬ ((I 235 8) = 0 ∧ ((I 235 7) - (I 235 6) = 4 ∧ tt (I 235 6) = 98 ∧ tt ((I 235 6) + 1) = 97 ∧ tt ((I 235 6) + 2) = 99 ∧ tt ((I 235 6) + 3) = 107)) from by first | omega | (simp only [wr, wl] at *; omega)) (show 0 = 0 → (I 235 6) = (I 235 6) ∧ (I 235 7) = (I 235 7) from fun _ => ⟨rfl, rfl⟩) (fun z => absurd z (by decide))⟩
            ·
              replace z41 : tt ((I 235 6) + 3) = 107 := by omega
              refine ⟨fun c => absurd c (show (¬ ((1 : Int) = 0)) from by decide), fun _ => ?_⟩
              refine ⟨⟨12, (by decide), rfl⟩, ?_⟩
              refine Call_wp (lv := [some (vr 4118)]) (by decide) ckJ0_length_8abf5 [] rfl rfl ?_
              refine ⟨12, (by decide), rfl, ?_⟩
              refine Or.inr (Or.inr ⟨12, (by decide), rfl, ?_⟩)
              refine ⟨⟨12, (by decide), rfl⟩, ?_⟩
              refine Call_wp (lv := [some (vr 4118)]) (by decide) ckJ0_coder_7d493 [] rfl rfl ?_
              refine ⟨fun c => absurd c (show (¬ ((1 : Int) = 0)) from by decide), fun _ => ?_⟩
              refine ⟨12, (by decide), rfl, ?_⟩
              refine ⟨rfl, (by decide), ?_⟩
              refine ⟨rfl, ?_⟩
              refine ⟨fun _ => ?_, fun c => absurd (show ((4 : Int) ≤ 4) from by decide) c⟩
              refine ⟨fun c => absurd c (show (¬ ((1 : Int) = 0)) from by decide), fun _ => ?_⟩
              refine ⟨⟨_, rfl, (by decide)⟩, ?_⟩
              have r47 : 0 ≤ (I 236 2) ∧ (I 236 2) ≤ 64 := Rg.n2 hR
              refine r_goOn9  hF hR (hl) ht (show (I 235 7) ≤ (I 236 2) from by first | with_reducible assumption | omega | (simp only [wr, wl] at *; omega)) (fun I49 hR50 hA51 hW52 q53 q54 q55 q56 qr57 => ?_)
              have q53 : (I 235 7) ≤ (I49 235 6) := q53
              have q54 : (I49 235 6) ≤ (I49 235 7) := q54
              have q55 : (I49 235 7) ≤ (I 236 2) := q55
              have q56 : (I49 235 6) < (I 236 2) → (I49 235 6) < (I49 235 7) := q56
              have r58 : 0 ≤ (I49 235 6) ∧ (I49 235 6) ≤ 64 := Rg.f6 hR50
              have r60 : 0 ≤ (I49 235 7) ∧ (I49 235 7) ≤ 64 := Rg.f7 hR50
              exact ⟨rfl, (by decide), fun hv hA' => hQ _ _ hR50 hA' (hv _ rfl) (fun ka ja hk => (hW52 ka ja (by omega))) (show 1 = 1 → (I 235 6) + 4 ≤ (I49 235 6) from by first | with_reducible assumption | omega | (simp only [wr, wl] at *; omega)) (show (I49 235 6) ≤ (I49 235 7) from by first | with_reducible assumption | omega | (simp only [wr, wl] at *; omega)) (show (I49 235 7) ≤ (I 236 2) from by first | with_reducible assumption | omega | (simp only [wr, wl] at *; omega)) (show (I49 235 6) < (I 236 2) → (I49 235 6) < (I49 235 7) from by first | with_reducible assumption | omega | (simp only [wr, wl] at *; omega)) (show (I 235 6) ≤ (I49 235 6) from by first | with_reducible assumption | omega | (simp only [wr, wl] at *; omega)) (show 1 = 1 → (I 235 8) = 0 ∧ ((I 235 7) - (I 235 6) = 4 ∧ tt (I 235 6) = 98 ∧ tt ((I 235 6) + 1) = 97 ∧ tt ((I 235 6) + 2) = 99 ∧ tt ((I 235 6) + 3) = 107) from by first | omega | (simp only [wr, wl] at *; omega)) (show 0 ≤ 1 ∧ 1 ≤ 1 from by decide) (show 1 = 0 → ¬ ((I 235 8) = 0 ∧ ((I 235 7) - (I 235 6) = 4 ∧ tt (I 235 6) = 98 ∧ tt ((I 235 6) + 1) = 97 ∧ tt ((I 235 6) + 2) = 99 ∧ tt ((I 235 6) + 3) = 107)) from fun z => absurd z (by decide)) (show 1 = 0 → (I49 235 6) = (I 235 6) ∧ (I49 235 7) = (I 235 7) from fun z => absurd z (by decide)) (fun _ => qr57)⟩
theorem r_tk9_12 (hF : FS F) (hR : Rg I) {tt : Int → Int} {nn : Int} (hl : I 236 2 = nn) (ht : TXT tt nn (fun j => I 236 (1228 + j))) (h1 : I 235 6 ≤ I 235 7) (h2 : I 235 7 ≤ I 236 2) (h3 : I 235 6 < I 236 2 → I 235 6 < I 235 7) (h1' : ∀ I' : pI, Rg I' → AR I' → (∀ k j, ¬ ((k = 235 ∧ (j = 6 ∨ j = 7))) → I' k j = I k j) → I 235 8 = 0 → mkW4 tt (I 235 6) (I 235 7) → I 235 7 - I 235 6 = 4 → I 235 6 + 4 ≤ I' 235 6 → I' 235 6 ≤ I' 235 7 → I' 235 7 ≤ I 236 2 → (I' 235 6 < I 236 2 → I' 235 6 < I' 235 7) → Tok tt nn (I 235 7) (I' 235 6) (I' 235 7) → Q (some (vi 1)) F I') (h0' : ¬ (I 235 8 = 0 ∧ mkW4 tt (I 235 6) (I 235 7)) → Q (some (vi 0)) F I) : CallN G (d + 4) kX12_takes [vr 235, vr 4118] NP F I Q := by
  refine r_takes9_12 hF hR hl ht h1 h2 h3 (fun r I' hR' hA' _ hW q1 q2 q3 q4 q5 q6 q7 q8 q9 qr => ?_)
  by_cases e : r = 1
  · rw [e]; exact h1' I' hR' hA' hW (q6 e).1 (q6 e).2 (q6 e).2.1 (q1 e) q2 q3 q4 (qr e)
  · have e0 : r = 0 := by omega
    have hI : I' = I := funext (fun k => funext (fun j => by
      by_cases c : k = 235 ∧ (j = 6 ∨ j = 7)
      · obtain ⟨rfl, c⟩ := c
        rcases c with rfl | rfl
        · exact (q9 e0).1
        · exact (q9 e0).2
      · exact hW k j c))
    rw [e0, hI]; exact h0' (q8 e0)
theorem r_takes9_13 (hF : FS F) (hR : Rg I) {tt : Int → Int} {nn : Int} (hl : I 236 2 = nn) (ht : TXT tt nn (fun j => I 236 (1228 + j))) (h1 : I 235 6 ≤ I 235 7) (h2 : I 235 7 ≤ I 236 2) (h3 : I 235 6 < I 236 2 → I 235 6 < I 235 7) (hQ : ∀ (r : Int) (I' : pI), Rg I' → AR I' → iR r → (∀ k j, ¬ ((k = 235 ∧ (j = 6 ∨ j = 7))) → I' k j = I k j) → (r = 1 → (I 235 6) + 4 ≤ (I' 235 6)) → ((I' 235 6) ≤ (I' 235 7)) → ((I' 235 7) ≤ (I 236 2)) → ((I' 235 6) < (I 236 2) → (I' 235 6) < (I' 235 7)) → ((I 235 6) ≤ (I' 235 6)) → (r = 1 → (I 235 8) = 0 ∧ ((I 235 7) - (I 235 6) = 4 ∧ tt (I 235 6) = 114 ∧ tt ((I 235 6) + 1) = 101 ∧ tt ((I 235 6) + 2) = 97 ∧ tt ((I 235 6) + 3) = 100)) → (0 ≤ r ∧ r ≤ 1) → (r = 0 → ¬ ((I 235 8) = 0 ∧ ((I 235 7) - (I 235 6) = 4 ∧ tt (I 235 6) = 114 ∧ tt ((I 235 6) + 1) = 101 ∧ tt ((I 235 6) + 2) = 97 ∧ tt ((I 235 6) + 3) = 100))) → (r = 0 → (I' 235 6) = (I 235 6) ∧ (I' 235 7) = (I 235 7)) → (r = 1 → Tok tt nn (I 235 7) (I' 235 6) (I' 235 7)) → Q (some (vi r)) F I') : CallN G (d + 4) kX12_takes [vr 235, vr 4119] NP F I Q := by
  refine CallN_in (fun hok hA => CallN_out ?_)
  have hn2 := ht.1
  have g2 := Rg.n2 hR
  refine Call_wp (lv := [some (vr 235), some (vr 4119), none, none]) (by decide) ckX12_takes [] rfl rfl ?_
  refine ⟨_, rfl, (by decide), ?_⟩
  have a1 : -2147483648 ≤ (I 235 8) ∧ (I 235 8) < 2147483648 := hA.1 _ _
  refine ⟨fun (c2 : (¬ ((I 235 8) : Int) = 0)) => ?_, fun (c2 : (((I 235 8) : Int) = 0)) => ?_⟩
  ·
    refine ⟨fun _ => ?_, fun c => absurd (show ((0 : Int) = 0) from by decide) c⟩
    refine ⟨fun _ => ?_, fun c => absurd (show ((0 : Int) = 0) from by decide) c⟩
    have r3 : 0 ≤ (I 235 6) ∧ (I 235 6) ≤ 64 := Rg.f6 hR
    have r5 : 0 ≤ (I 235 7) ∧ (I 235 7) ≤ 64 := Rg.f7 hR
    have r7 : 0 ≤ (I 236 2) ∧ (I 236 2) ≤ 64 := Rg.n2 hR
    exact ⟨rfl, (by decide), fun hv hA' => hQ _ _ hR hA' (hv _ rfl) (fun _ _ _ => rfl) (show 0 = 1 → (I 235 6) + 4 ≤ (I 235 6) from fun z => absurd z (by decide)) (show (I 235 6) ≤ (I 235 7) from by first | with_reducible assumption | omega | (simp only [wr, wl] at *; omega)) (show (I 235 7) ≤ (I 236 2) from by first | with_reducible assumption | omega | (simp only [wr, wl] at *; omega)) (show (I 235 6) < (I 236 2) → (I 235 6) < (I 235 7) from by first | with_reducible assumption | omega | (simp only [wr, wl] at *; omega)) (show (I 235 6) ≤ (I 235 6) from Int.le_refl _) (show 0 = 1 → (I 235 8) = 0 ∧ ((I 235 7) - (I 235 6) = 4 ∧ tt (I 235 6) = 114 ∧ tt ((I 235 6) + 1) = 101 ∧ tt ((I 235 6) + 2) = 97 ∧ tt ((I 235 6) + 3) = 100) from fun z => absurd z (by decide)) (show 0 ≤ 0 ∧ 0 ≤ 1 from by decide) (show 0 = 0 → ¬ ((I 235 8) = 0 ∧ ((I 235 7) - (I 235 6) = 4 ∧ tt (I 235 6) = 114 ∧ tt ((I 235 6) + 1) = 101 ∧ tt ((I 235 6) + 2) = 97 ∧ tt ((I 235 6) + 3) = 100)) from by first | omega | (simp only [wr, wl] at *; omega)) (show 0 = 0 → (I 235 6) = (I 235 6) ∧ (I 235 7) = (I 235 7) from fun _ => ⟨rfl, rfl⟩) (fun z => absurd z (by decide))⟩
  ·
    refine ⟨_, rfl, (by decide), ?_⟩
    have r9 : 0 ≤ (I 235 7) ∧ (I 235 7) ≤ 64 := Rg.f7 hR
    refine ⟨_, rfl, (by decide), ?_⟩
    have r10 : 0 ≤ (I 235 6) ∧ (I 235 6) ≤ 64 := Rg.f6 hR
    refine ⟨⟨13, (by decide), rfl⟩, ?_⟩
    refine Call_wp (lv := [some (vr 4119)]) (by decide) ckJ0_length_8abf5 [] rfl rfl ?_
    refine ⟨13, (by decide), rfl, ?_⟩
    refine Or.inr (Or.inr ⟨13, (by decide), rfl, ?_⟩)
    refine ⟨⟨13, (by decide), rfl⟩, ?_⟩
    refine Call_wp (lv := [some (vr 4119)]) (by decide) ckJ0_coder_7d493 [] rfl rfl ?_
    refine ⟨fun c => absurd c (show (¬ ((1 : Int) = 0)) from by decide), fun _ => ?_⟩
    refine ⟨13, (by decide), rfl, ?_⟩
    refine ⟨rfl, (by decide), ?_⟩
    refine ⟨rfl, ?_⟩
    have n13 : (wr ((I 235 7) - (I 235 6))) = (I 235 7) - (I 235 6) := wr_id (show -2147483648 ≤ ((I 235 7) - (I 235 6) : Int) ∧ ((I 235 7) - (I 235 6) : Int) < 2147483648 from by omega)
    refine ⟨fun (c14 : (¬ ((wr ((I 235 7) - (I 235 6))) : Int) = 4)) => ?_, fun (c14 : (((wr ((I 235 7) - (I 235 6))) : Int) = 4)) => ?_⟩
    ·
      refine ⟨fun _ => ?_, fun c => absurd (show ((0 : Int) = 0) from by decide) c⟩
      refine ⟨fun _ => ?_, fun c => absurd (show ((0 : Int) = 0) from by decide) c⟩
      have r15 : 0 ≤ (I 236 2) ∧ (I 236 2) ≤ 64 := Rg.n2 hR
      exact ⟨rfl, (by decide), fun hv hA' => hQ _ _ hR hA' (hv _ rfl) (fun _ _ _ => rfl) (show 0 = 1 → (I 235 6) + 4 ≤ (I 235 6) from fun z => absurd z (by decide)) (show (I 235 6) ≤ (I 235 7) from by first | with_reducible assumption | omega | (simp only [wr, wl] at *; omega)) (show (I 235 7) ≤ (I 236 2) from by first | with_reducible assumption | omega | (simp only [wr, wl] at *; omega)) (show (I 235 6) < (I 236 2) → (I 235 6) < (I 235 7) from by first | with_reducible assumption | omega | (simp only [wr, wl] at *; omega)) (show (I 235 6) ≤ (I 235 6) from Int.le_refl _) (show 0 = 1 → (I 235 8) = 0 ∧ ((I 235 7) - (I 235 6) = 4 ∧ tt (I 235 6) = 114 ∧ tt ((I 235 6) + 1) = 101 ∧ tt ((I 235 6) + 2) = 97 ∧ tt ((I 235 6) + 3) = 100) from fun z => absurd z (by decide)) (show 0 ≤ 0 ∧ 0 ≤ 1 from by decide) (show 0 = 0 → ¬ ((I 235 8) = 0 ∧ ((I 235 7) - (I 235 6) = 4 ∧ tt (I 235 6) = 114 ∧ tt ((I 235 6) + 1) = 101 ∧ tt ((I 235 6) + 2) = 97 ∧ tt ((I 235 6) + 3) = 100)) from by first | omega | (simp only [wr, wl] at *; omega)) (show 0 = 0 → (I 235 6) = (I 235 6) ∧ (I 235 7) = (I 235 7) from fun _ => ⟨rfl, rfl⟩) (fun z => absurd z (by decide))⟩
    ·
      refine ⟨fun c => absurd c (show (¬ ((1 : Int) = 0)) from by decide), fun _ => ?_⟩
      refine ⟨⟨13, (by decide), rfl⟩, ?_⟩
      refine Call_wp (lv := [some (vr 4119)]) (by decide) ckJ0_length_8abf5 [] rfl rfl ?_
      refine ⟨13, (by decide), rfl, ?_⟩
      refine Or.inr (Or.inr ⟨13, (by decide), rfl, ?_⟩)
      refine ⟨⟨13, (by decide), rfl⟩, ?_⟩
      refine Call_wp (lv := [some (vr 4119)]) (by decide) ckJ0_coder_7d493 [] rfl rfl ?_
      refine ⟨fun c => absurd c (show (¬ ((1 : Int) = 0)) from by decide), fun _ => ?_⟩
      refine ⟨13, (by decide), rfl, ?_⟩
      refine ⟨rfl, (by decide), ?_⟩
      refine ⟨rfl, ?_⟩
      refine ⟨fun c => absurd c (show (¬ ((4 : Int) ≤ 0)) from by decide), fun _ => ?_⟩
      refine ⟨_, rfl, (by decide), ?_⟩
      refine fun w0 hw0 => ?_; obtain rfl : w0 = some 236 := hw0.symm.trans (FS.g hF rfl)
      refine ⟨_, rfl, (by decide), ?_⟩
      have n17 : (wr (1228 + (I 235 6))) = 1228 + (I 235 6) := wr_id (show -2147483648 ≤ (1228 + (I 235 6) : Int) ∧ (1228 + (I 235 6) : Int) < 2147483648 from by omega)
      have n18 : (wr ((wr (1228 + (I 235 6))) + 0)) = (wr (1228 + (I 235 6))) + 0 := wr_id (show -2147483648 ≤ ((wr (1228 + (I 235 6))) + 0 : Int) ∧ ((wr (1228 + (I 235 6))) + 0 : Int) < 2147483648 from by omega)
      refine ⟨_, rfl, (by decide), (show (0 : Int) ≤ (wr ((wr (1228 + (I 235 6))) + 0)) from by first | with_reducible assumption | omega | (simp only [wr, wl] at *; omega)), (show (wr ((wr (1228 + (I 235 6))) + 0)) < (1340 : Int) from by first | with_reducible assumption | omega | (simp only [wr, wl] at *; omega)), ?_⟩
      have z19 := TXT_b ht (I 235 6)
      have z20 : (I 236 (Int.toNat (wr ((wr (1228 + (I 235 6))) + 0)))) = (I 236 (1228 + Int.toNat (I 235 6))) := congrArg (I 236) (by omega)
      have r21 : 0 ≤ (I 236 (Int.toNat (wr ((wr (1228 + (I 235 6))) + 0)))) ∧ (I 236 (Int.toNat (wr ((wr (1228 + (I 235 6))) + 0)))) ≤ 255 := Pn_t (by omega) (hR.n (Int.toNat (wr ((wr (1228 + (I 235 6))) + 0))) (by omega))
      refine ⟨⟨13, (by decide), rfl⟩, ?_⟩
      refine Call_wp (lv := [some (vr 4119), some (vi 0)]) (by decide) ckJ0_charAt_5068e [] rfl rfl ?_
      refine ⟨⟨13, (by decide), rfl⟩, ?_⟩
      refine Call_wp (lv := [some (vr 4119)]) (by decide) ckJ0_isLatin1_aae02 [] rfl rfl ?_
      refine ⟨fun c => absurd c (show (¬ ((1 : Int) = 0)) from by decide), fun _ => ?_⟩
      refine ⟨13, (by decide), rfl, ?_⟩
      refine ⟨fun c => absurd (show ((0 : Int) = 0) from by decide) c, fun _ => ?_⟩
      refine ⟨rfl, (by decide), ?_⟩
      refine ⟨fun c => absurd c (show (¬ ((1 : Int) = 0)) from by decide), fun _ => ?_⟩
      refine ⟨13, (by decide), rfl, ?_⟩
      refine Call_wp (lv := [some (vr 4149), some (vi 0)]) (by decide) ckJ1_charAt_3b067 [] rfl rfl ?_
      refine Or.inr (Or.inr ⟨13, (by decide), rfl, ?_⟩)
      refine j_check (i := 0) (n := 4) (by omega) ?_
      refine ⟨13, (by decide), rfl, (by decide), (by decide), ?_⟩
      refine ⟨rfl, (by decide), ?_⟩
      refine ⟨rfl, (by decide), ?_⟩
      refine ⟨fun (c23 : (¬ ((I 236 (Int.toNat (wr ((wr (1228 + (I 235 6))) + 0)))) : Int) = 114)) => ?_, fun (c23 : (((I 236 (Int.toNat (wr ((wr (1228 + (I 235 6))) + 0)))) : Int) = 114)) => ?_⟩
      ·
        replace z19 : ¬ tt (I 235 6) = 114 := by omega
        refine ⟨fun _ => ?_, fun c => absurd (show ((0 : Int) = 0) from by decide) c⟩
        refine ⟨fun _ => ?_, fun c => absurd (show ((0 : Int) = 0) from by decide) c⟩
        have r24 : 0 ≤ (I 236 2) ∧ (I 236 2) ≤ 64 := Rg.n2 hR
        exact ⟨rfl, (by decide), fun hv hA' => hQ _ _ hR hA' (hv _ rfl) (fun _ _ _ => rfl) (show 0 = 1 → (I 235 6) + 4 ≤ (I 235 6) from fun z => absurd z (by decide)) (show (I 235 6) ≤ (I 235 7) from by first | with_reducible assumption | omega | (simp only [wr, wl] at *; omega)) (show (I 235 7) ≤ (I 236 2) from by first | with_reducible assumption | omega | (simp only [wr, wl] at *; omega)) (show (I 235 6) < (I 236 2) → (I 235 6) < (I 235 7) from by first | with_reducible assumption | omega | (simp only [wr, wl] at *; omega)) (show (I 235 6) ≤ (I 235 6) from Int.le_refl _) (show 0 = 1 → (I 235 8) = 0 ∧ ((I 235 7) - (I 235 6) = 4 ∧ tt (I 235 6) = 114 ∧ tt ((I 235 6) + 1) = 101 ∧ tt ((I 235 6) + 2) = 97 ∧ tt ((I 235 6) + 3) = 100) from fun z => absurd z (by decide)) (show 0 ≤ 0 ∧ 0 ≤ 1 from by decide) (show 0 = 0 → ¬ ((I 235 8) = 0 ∧ ((I 235 7) - (I 235 6) = 4 ∧ tt (I 235 6) = 114 ∧ tt ((I 235 6) + 1) = 101 ∧ tt ((I 235 6) + 2) = 97 ∧ tt ((I 235 6) + 3) = 100)) from by first | omega | (simp only [wr, wl] at *; omega)) (show 0 = 0 → (I 235 6) = (I 235 6) ∧ (I 235 7) = (I 235 7) from fun _ => ⟨rfl, rfl⟩) (fun z => absurd z (by decide))⟩
      ·
        replace z19 : tt (I 235 6) = 114 := by omega
        refine ⟨fun c => absurd c (show (¬ ((1 : Int) = 0)) from by decide), fun _ => ?_⟩
        refine ⟨⟨13, (by decide), rfl⟩, ?_⟩
        refine Call_wp (lv := [some (vr 4119)]) (by decide) ckJ0_length_8abf5 [] rfl rfl ?_
        refine ⟨13, (by decide), rfl, ?_⟩
        refine Or.inr (Or.inr ⟨13, (by decide), rfl, ?_⟩)
        refine ⟨⟨13, (by decide), rfl⟩, ?_⟩
        refine Call_wp (lv := [some (vr 4119)]) (by decide) ckJ0_coder_7d493 [] rfl rfl ?_
        refine ⟨fun c => absurd c (show (¬ ((1 : Int) = 0)) from by decide), fun _ => ?_⟩
        refine ⟨13, (by decide), rfl, ?_⟩
        refine ⟨rfl, (by decide), ?_⟩
        refine ⟨rfl, ?_⟩
        refine ⟨fun c => absurd c (show (¬ ((4 : Int) ≤ 1)) from by decide), fun _ => ?_⟩
        refine ⟨_, rfl, (by decide), ?_⟩
        refine fun w0 hw0 => ?_; obtain rfl : w0 = some 236 := hw0.symm.trans (FS.g hF rfl)
        refine ⟨_, rfl, (by decide), ?_⟩
        have n26 : (wr ((wr (1228 + (I 235 6))) + 1)) = (wr (1228 + (I 235 6))) + 1 := wr_id (show -2147483648 ≤ ((wr (1228 + (I 235 6))) + 1 : Int) ∧ ((wr (1228 + (I 235 6))) + 1 : Int) < 2147483648 from by omega)
        refine ⟨_, rfl, (by decide), (show (0 : Int) ≤ (wr ((wr (1228 + (I 235 6))) + 1)) from by first | with_reducible assumption | omega | (simp only [wr, wl] at *; omega)), (show (wr ((wr (1228 + (I 235 6))) + 1)) < (1340 : Int) from by first | with_reducible assumption | omega | (simp only [wr, wl] at *; omega)), ?_⟩
        have z27 := TXT_b ht ((I 235 6) + 1)
        have z28 : (I 236 (Int.toNat (wr ((wr (1228 + (I 235 6))) + 1)))) = (I 236 (1228 + Int.toNat ((I 235 6) + 1))) := congrArg (I 236) (by omega)
        refine ⟨⟨13, (by decide), rfl⟩, ?_⟩
        refine Call_wp (lv := [some (vr 4119), some (vi 1)]) (by decide) ckJ0_charAt_5068e [] rfl rfl ?_
        refine ⟨⟨13, (by decide), rfl⟩, ?_⟩
        refine Call_wp (lv := [some (vr 4119)]) (by decide) ckJ0_isLatin1_aae02 [] rfl rfl ?_
        refine ⟨fun c => absurd c (show (¬ ((1 : Int) = 0)) from by decide), fun _ => ?_⟩
        refine ⟨13, (by decide), rfl, ?_⟩
        refine ⟨fun c => absurd (show ((0 : Int) = 0) from by decide) c, fun _ => ?_⟩
        refine ⟨rfl, (by decide), ?_⟩
        refine ⟨fun c => absurd c (show (¬ ((1 : Int) = 0)) from by decide), fun _ => ?_⟩
        refine ⟨13, (by decide), rfl, ?_⟩
        refine Call_wp (lv := [some (vr 4149), some (vi 1)]) (by decide) ckJ1_charAt_3b067 [] rfl rfl ?_
        refine Or.inr (Or.inr ⟨13, (by decide), rfl, ?_⟩)
        refine j_check (i := 1) (n := 4) (by omega) ?_
        refine ⟨13, (by decide), rfl, (by decide), (by decide), ?_⟩
        refine ⟨rfl, (by decide), ?_⟩
        refine ⟨rfl, (by decide), ?_⟩
        have a29 : -2147483648 ≤ (I 236 (Int.toNat (wr ((wr (1228 + (I 235 6))) + 1)))) ∧ (I 236 (Int.toNat (wr ((wr (1228 + (I 235 6))) + 1)))) < 2147483648 := hA.1 _ _
        refine ⟨fun (c30 : (¬ ((I 236 (Int.toNat (wr ((wr (1228 + (I 235 6))) + 1)))) : Int) = 101)) => ?_, fun (c30 : (((I 236 (Int.toNat (wr ((wr (1228 + (I 235 6))) + 1)))) : Int) = 101)) => ?_⟩
        ·
          replace z27 : ¬ tt ((I 235 6) + 1) = 101 := by omega
          refine ⟨fun _ => ?_, fun c => absurd (show ((0 : Int) = 0) from by decide) c⟩
          refine ⟨fun _ => ?_, fun c => absurd (show ((0 : Int) = 0) from by decide) c⟩
          have r31 : 0 ≤ (I 236 2) ∧ (I 236 2) ≤ 64 := Rg.n2 hR
          exact ⟨rfl, (by decide), fun hv hA' => hQ _ _ hR hA' (hv _ rfl) (fun _ _ _ => rfl) (show 0 = 1 → (I 235 6) + 4 ≤ (I 235 6) from fun z => absurd z (by decide)) (show (I 235 6) ≤ (I 235 7) from by first | with_reducible assumption | omega | (simp only [wr, wl] at *; omega)) (show (I 235 7) ≤ (I 236 2) from by first | with_reducible assumption | omega | (simp only [wr, wl] at *; omega)) (show (I 235 6) < (I 236 2) → (I 235 6) < (I 235 7) from by first | with_reducible assumption | omega | (simp only [wr, wl] at *; omega)) (show (I 235 6) ≤ (I 235 6) from Int.le_refl _) (show 0 = 1 → (I 235 8) = 0 ∧ ((I 235 7) - (I 235 6) = 4 ∧ tt (I 235 6) = 114 ∧ tt ((I 235 6) + 1) = 101 ∧ tt ((I 235 6) + 2) = 97 ∧ tt ((I 235 6) + 3) = 100) from fun z => absurd z (by decide)) (show 0 ≤ 0 ∧ 0 ≤ 1 from by decide) (show 0 = 0 → ¬ ((I 235 8) = 0 ∧ ((I 235 7) - (I 235 6) = 4 ∧ tt (I 235 6) = 114 ∧ tt ((I 235 6) + 1) = 101 ∧ tt ((I 235 6) + 2) = 97 ∧ tt ((I 235 6) + 3) = 100)) from by first | omega | (simp only [wr, wl] at *; omega)) (show 0 = 0 → (I 235 6) = (I 235 6) ∧ (I 235 7) = (I 235 7) from fun _ => ⟨rfl, rfl⟩) (fun z => absurd z (by decide))⟩
        ·
          replace z27 : tt ((I 235 6) + 1) = 101 := by omega
          refine ⟨fun c => absurd c (show (¬ ((1 : Int) = 0)) from by decide), fun _ => ?_⟩
          refine ⟨⟨13, (by decide), rfl⟩, ?_⟩
          refine Call_wp (lv := [some (vr 4119)]) (by decide) ckJ0_length_8abf5 [] rfl rfl ?_
          refine ⟨13, (by decide), rfl, ?_⟩
          refine Or.inr (Or.inr ⟨13, (by decide), rfl, ?_⟩)
          refine ⟨⟨13, (by decide), rfl⟩, ?_⟩
          refine Call_wp (lv := [some (vr 4119)]) (by decide) ckJ0_coder_7d493 [] rfl rfl ?_
          refine ⟨fun c => absurd c (show (¬ ((1 : Int) = 0)) from by decide), fun _ => ?_⟩
          refine ⟨13, (by decide), rfl, ?_⟩
          refine ⟨rfl, (by decide), ?_⟩
          refine ⟨rfl, ?_⟩
          refine ⟨fun c => absurd c (show (¬ ((4 : Int) ≤ 2)) from by decide), fun _ => ?_⟩
          refine ⟨_, rfl, (by decide), ?_⟩
          refine fun w0 hw0 => ?_; obtain rfl : w0 = some 236 := hw0.symm.trans (FS.g hF rfl)
          refine ⟨_, rfl, (by decide), ?_⟩
          have n33 : (wr ((wr (1228 + (I 235 6))) + 2)) = (wr (1228 + (I 235 6))) + 2 := wr_id (show -2147483648 ≤ ((wr (1228 + (I 235 6))) + 2 : Int) ∧ ((wr (1228 + (I 235 6))) + 2 : Int) < 2147483648 from by omega)
          refine ⟨_, rfl, (by decide), (show (0 : Int) ≤ (wr ((wr (1228 + (I 235 6))) + 2)) from by first | with_reducible assumption | omega | (simp only [wr, wl] at *; omega)), (show (wr ((wr (1228 + (I 235 6))) + 2)) < (1340 : Int) from by first | with_reducible assumption | omega | (simp only [wr, wl] at *; omega)), ?_⟩
          have z34 := TXT_b ht ((I 235 6) + 2)
          have z35 : (I 236 (Int.toNat (wr ((wr (1228 + (I 235 6))) + 2)))) = (I 236 (1228 + Int.toNat ((I 235 6) + 2))) := congrArg (I 236) (by omega)
          refine ⟨⟨13, (by decide), rfl⟩, ?_⟩
          refine Call_wp (lv := [some (vr 4119), some (vi 2)]) (by decide) ckJ0_charAt_5068e [] rfl rfl ?_
          refine ⟨⟨13, (by decide), rfl⟩, ?_⟩
          refine Call_wp (lv := [some (vr 4119)]) (by decide) ckJ0_isLatin1_aae02 [] rfl rfl ?_
          refine ⟨fun c => absurd c (show (¬ ((1 : Int) = 0)) from by decide), fun _ => ?_⟩
          refine ⟨13, (by decide), rfl, ?_⟩
          refine ⟨fun c => absurd (show ((0 : Int) = 0) from by decide) c, fun _ => ?_⟩
          refine ⟨rfl, (by decide), ?_⟩
          refine ⟨fun c => absurd c (show (¬ ((1 : Int) = 0)) from by decide), fun _ => ?_⟩
          refine ⟨13, (by decide), rfl, ?_⟩
          refine Call_wp (lv := [some (vr 4149), some (vi 2)]) (by decide) ckJ1_charAt_3b067 [] rfl rfl ?_
          refine Or.inr (Or.inr ⟨13, (by decide), rfl, ?_⟩)
          refine j_check (i := 2) (n := 4) (by omega) ?_
          refine ⟨13, (by decide), rfl, (by decide), (by decide), ?_⟩
          refine ⟨rfl, (by decide), ?_⟩
          refine ⟨rfl, (by decide), ?_⟩
          have a36 : -2147483648 ≤ (I 236 (Int.toNat (wr ((wr (1228 + (I 235 6))) + 2)))) ∧ (I 236 (Int.toNat (wr ((wr (1228 + (I 235 6))) + 2)))) < 2147483648 := hA.1 _ _
          refine ⟨fun (c37 : (¬ ((I 236 (Int.toNat (wr ((wr (1228 + (I 235 6))) + 2)))) : Int) = 97)) => ?_, fun (c37 : (((I 236 (Int.toNat (wr ((wr (1228 + (I 235 6))) + 2)))) : Int) = 97)) => ?_⟩
          ·
            replace z34 : ¬ tt ((I 235 6) + 2) = 97 := by omega
            refine ⟨fun _ => ?_, fun c => absurd (show ((0 : Int) = 0) from by decide) c⟩
            refine ⟨fun _ => ?_, fun c => absurd (show ((0 : Int) = 0) from by decide) c⟩
            have r38 : 0 ≤ (I 236 2) ∧ (I 236 2) ≤ 64 := Rg.n2 hR
            exact ⟨rfl, (by decide), fun hv hA' => hQ _ _ hR hA' (hv _ rfl) (fun _ _ _ => rfl) (show 0 = 1 → (I 235 6) + 4 ≤ (I 235 6) from fun z => absurd z (by decide)) (show (I 235 6) ≤ (I 235 7) from by first | with_reducible assumption | omega | (simp only [wr, wl] at *; omega)) (show (I 235 7) ≤ (I 236 2) from by first | with_reducible assumption | omega | (simp only [wr, wl] at *; omega)) (show (I 235 6) < (I 236 2) → (I 235 6) < (I 235 7) from by first | with_reducible assumption | omega | (simp only [wr, wl] at *; omega)) (show (I 235 6) ≤ (I 235 6) from Int.le_refl _) (show 0 = 1 → (I 235 8) = 0 ∧ ((I 235 7) - (I 235 6) = 4 ∧ tt (I 235 6) = 114 ∧ tt ((I 235 6) + 1) = 101 ∧ tt ((I 235 6) + 2) = 97 ∧ tt ((I 235 6) + 3) = 100) from fun z => absurd z (by decide)) (show 0 ≤ 0 ∧ 0 ≤ 1 from by decide) (show 0 = 0 → ¬ ((I 235 8) = 0 ∧ ((I 235 7) - (I 235 6) = 4 ∧ tt (I 235 6) = 114 ∧ tt ((I 235 6) + 1) = 101 ∧ tt ((I 235 6) + 2) = 97 ∧ tt ((I 235 6) + 3) = 100)) from by first | omega | (simp only [wr, wl] at *; omega)) (show 0 = 0 → (I 235 6) = (I 235 6) ∧ (I 235 7) = (I 235 7) from fun _ => ⟨rfl, rfl⟩) (fun z => absurd z (by decide))⟩
          ·
            replace z34 : tt ((I 235 6) + 2) = 97 := by omega
            refine ⟨fun c => absurd c (show (¬ ((1 : Int) = 0)) from by decide), fun _ => ?_⟩
            refine ⟨⟨13, (by decide), rfl⟩, ?_⟩
            refine Call_wp (lv := [some (vr 4119)]) (by decide) ckJ0_length_8abf5 [] rfl rfl ?_
            refine ⟨13, (by decide), rfl, ?_⟩
            refine Or.inr (Or.inr ⟨13, (by decide), rfl, ?_⟩)
            refine ⟨⟨13, (by decide), rfl⟩, ?_⟩
            refine Call_wp (lv := [some (vr 4119)]) (by decide) ckJ0_coder_7d493 [] rfl rfl ?_
            refine ⟨fun c => absurd c (show (¬ ((1 : Int) = 0)) from by decide), fun _ => ?_⟩
            refine ⟨13, (by decide), rfl, ?_⟩
            refine ⟨rfl, (by decide), ?_⟩
            refine ⟨rfl, ?_⟩
            refine ⟨fun c => absurd c (show (¬ ((4 : Int) ≤ 3)) from by decide), fun _ => ?_⟩
            refine ⟨_, rfl, (by decide), ?_⟩
            refine fun w0 hw0 => ?_; obtain rfl : w0 = some 236 := hw0.symm.trans (FS.g hF rfl)
            refine ⟨_, rfl, (by decide), ?_⟩
            have n40 : (wr ((wr (1228 + (I 235 6))) + 3)) = (wr (1228 + (I 235 6))) + 3 := wr_id (show -2147483648 ≤ ((wr (1228 + (I 235 6))) + 3 : Int) ∧ ((wr (1228 + (I 235 6))) + 3 : Int) < 2147483648 from by omega)
            refine ⟨_, rfl, (by decide), (show (0 : Int) ≤ (wr ((wr (1228 + (I 235 6))) + 3)) from by first | with_reducible assumption | omega | (simp only [wr, wl] at *; omega)), (show (wr ((wr (1228 + (I 235 6))) + 3)) < (1340 : Int) from by first | with_reducible assumption | omega | (simp only [wr, wl] at *; omega)), ?_⟩
            have z41 := TXT_b ht ((I 235 6) + 3)
            have z42 : (I 236 (Int.toNat (wr ((wr (1228 + (I 235 6))) + 3)))) = (I 236 (1228 + Int.toNat ((I 235 6) + 3))) := congrArg (I 236) (by omega)
            refine ⟨⟨13, (by decide), rfl⟩, ?_⟩
            refine Call_wp (lv := [some (vr 4119), some (vi 3)]) (by decide) ckJ0_charAt_5068e [] rfl rfl ?_
            refine ⟨⟨13, (by decide), rfl⟩, ?_⟩
            refine Call_wp (lv := [some (vr 4119)]) (by decide) ckJ0_isLatin1_aae02 [] rfl rfl ?_
            refine ⟨fun c => absurd c (show (¬ ((1 : Int) = 0)) from by decide), fun _ => ?_⟩
            refine ⟨13, (by decide), rfl, ?_⟩
            refine ⟨fun c => absurd (show ((0 : Int) = 0) from by decide) c, fun _ => ?_⟩
            refine ⟨rfl, (by decide), ?_⟩
            refine ⟨fun c => absurd c (show (¬ ((1 : Int) = 0)) from by decide), fun _ => ?_⟩
            refine ⟨13, (by decide), rfl, ?_⟩
            refine Call_wp (lv := [some (vr 4149), some (vi 3)]) (by decide) ckJ1_charAt_3b067 [] rfl rfl ?_
            refine Or.inr (Or.inr ⟨13, (by decide), rfl, ?_⟩)
            refine j_check (i := 3) (n := 4) (by omega) ?_
            refine ⟨13, (by decide), rfl, (by decide), (by decide), ?_⟩
            refine ⟨rfl, (by decide), ?_⟩
            refine ⟨rfl, (by decide), ?_⟩
            have a43 : -2147483648 ≤ (I 236 (Int.toNat (wr ((wr (1228 + (I 235 6))) + 3)))) ∧ (I 236 (Int.toNat (wr ((wr (1228 + (I 235 6))) + 3)))) < 2147483648 := hA.1 _ _
            refine ⟨fun (c44 : (¬ ((I 236 (Int.toNat (wr ((wr (1228 + (I 235 6))) + 3)))) : Int) = 100)) => ?_, fun (c44 : (((I 236 (Int.toNat (wr ((wr (1228 + (I 235 6))) + 3)))) : Int) = 100)) => ?_⟩
            ·
              replace z41 : ¬ tt ((I 235 6) + 3) = 100 := by omega
              refine ⟨fun _ => ?_, fun c => absurd (show ((0 : Int) = 0) from by decide) c⟩
              refine ⟨fun _ => ?_, fun c => absurd (show ((0 : Int) = 0) from by decide) c⟩
              have r45 : 0 ≤ (I 236 2) ∧ (I 236 2) ≤ 64 := Rg.n2 hR
              exact ⟨rfl, (by decide), fun hv hA' => hQ _ _ hR hA' (hv _ rfl) (fun _ _ _ => rfl) (show 0 = 1 → (I 235 6) + 4 ≤ (I 235 6) from fun z => absurd z (by decide)) (show (I 235 6) ≤ (I 235 7) from by first | with_reducible assumption | omega | (simp only [wr, wl] at *; omega)) (show (I 235 7) ≤ (I 236 2) from by first | with_reducible assumption | omega | (simp only [wr, wl] at *; omega)) (show (I 235 6) < (I 236 2) → (I 235 6) < (I 235 7) from by first | with_reducible assumption | omega | (simp only [wr, wl] at *; omega)) (show (I 235 6) ≤ (I 235 6) from Int.le_refl _) (show 0 = 1 → (I 235 8) = 0 ∧ ((I 235 7) - (I 235 6) = 4 ∧ tt (I 235 6) = 114 ∧ tt ((I 235 6) + 1) = 101 ∧ tt ((I 235 6) + 2) = 97 ∧ tt ((I 235 6) + 3) = 100) from fun z => absurd z (by decide)) (show 0 ≤ 0 ∧ 0 ≤ 1 from by decide) (show 0 = 0 → ¬ ((I 235 8) = 0 ∧ ((I 235 7) - (I 235 6) = 4 ∧ tt (I 235 6) = 114 ∧ tt ((I 235 6) + 1) = 101 ∧ tt ((I 235 6) + 2) = 97 ∧ tt ((I 235 6) + 3) = 100)) from by first | omega | (simp only [wr, wl] at *; omega)) (show 0 = 0 → (I 235 6) = (I 235 6) ∧ (I 235 7) = (I 235 7) from fun _ => ⟨rfl, rfl⟩) (fun z => absurd z (by decide))⟩
            ·
              replace z41 : tt ((I 235 6) + 3) = 100 := by omega
              refine ⟨fun c => absurd c (show (¬ ((1 : Int) = 0)) from by decide), fun _ => ?_⟩
              refine ⟨⟨13, (by decide), rfl⟩, ?_⟩
              refine Call_wp (lv := [some (vr 4119)]) (by decide) ckJ0_length_8abf5 [] rfl rfl ?_
              refine ⟨13, (by decide), rfl, ?_⟩
              refine Or.inr (Or.inr ⟨13, (by decide), rfl, ?_⟩)
              refine ⟨⟨13, (by decide), rfl⟩, ?_⟩
              refine Call_wp (lv := [some (vr 4119)]) (by decide) ckJ0_coder_7d493 [] rfl rfl ?_
              refine ⟨fun c => absurd c (show (¬ ((1 : Int) = 0)) from by decide), fun _ => ?_⟩
              refine ⟨13, (by decide), rfl, ?_⟩
              refine ⟨rfl, (by decide), ?_⟩
              refine ⟨rfl, ?_⟩
              refine ⟨fun _ => ?_, fun c => absurd (show ((4 : Int) ≤ 4) from by decide) c⟩
              refine ⟨fun c => absurd c (show (¬ ((1 : Int) = 0)) from by decide), fun _ => ?_⟩
              refine ⟨⟨_, rfl, (by decide)⟩, ?_⟩
              have r47 : 0 ≤ (I 236 2) ∧ (I 236 2) ≤ 64 := Rg.n2 hR
              refine r_goOn9  hF hR (hl) ht (show (I 235 7) ≤ (I 236 2) from by first | with_reducible assumption | omega | (simp only [wr, wl] at *; omega)) (fun I49 hR50 hA51 hW52 q53 q54 q55 q56 qr57 => ?_)
              have q53 : (I 235 7) ≤ (I49 235 6) := q53
              have q54 : (I49 235 6) ≤ (I49 235 7) := q54
              have q55 : (I49 235 7) ≤ (I 236 2) := q55
              have q56 : (I49 235 6) < (I 236 2) → (I49 235 6) < (I49 235 7) := q56
              have r58 : 0 ≤ (I49 235 6) ∧ (I49 235 6) ≤ 64 := Rg.f6 hR50
              have r60 : 0 ≤ (I49 235 7) ∧ (I49 235 7) ≤ 64 := Rg.f7 hR50
              exact ⟨rfl, (by decide), fun hv hA' => hQ _ _ hR50 hA' (hv _ rfl) (fun ka ja hk => (hW52 ka ja (by omega))) (show 1 = 1 → (I 235 6) + 4 ≤ (I49 235 6) from by first | with_reducible assumption | omega | (simp only [wr, wl] at *; omega)) (show (I49 235 6) ≤ (I49 235 7) from by first | with_reducible assumption | omega | (simp only [wr, wl] at *; omega)) (show (I49 235 7) ≤ (I 236 2) from by first | with_reducible assumption | omega | (simp only [wr, wl] at *; omega)) (show (I49 235 6) < (I 236 2) → (I49 235 6) < (I49 235 7) from by first | with_reducible assumption | omega | (simp only [wr, wl] at *; omega)) (show (I 235 6) ≤ (I49 235 6) from by first | with_reducible assumption | omega | (simp only [wr, wl] at *; omega)) (show 1 = 1 → (I 235 8) = 0 ∧ ((I 235 7) - (I 235 6) = 4 ∧ tt (I 235 6) = 114 ∧ tt ((I 235 6) + 1) = 101 ∧ tt ((I 235 6) + 2) = 97 ∧ tt ((I 235 6) + 3) = 100) from by first | omega | (simp only [wr, wl] at *; omega)) (show 0 ≤ 1 ∧ 1 ≤ 1 from by decide) (show 1 = 0 → ¬ ((I 235 8) = 0 ∧ ((I 235 7) - (I 235 6) = 4 ∧ tt (I 235 6) = 114 ∧ tt ((I 235 6) + 1) = 101 ∧ tt ((I 235 6) + 2) = 97 ∧ tt ((I 235 6) + 3) = 100)) from fun z => absurd z (by decide)) (show 1 = 0 → (I49 235 6) = (I 235 6) ∧ (I49 235 7) = (I 235 7) from fun z => absurd z (by decide)) (fun _ => qr57)⟩
theorem r_tk9_13 (hF : FS F) (hR : Rg I) {tt : Int → Int} {nn : Int} (hl : I 236 2 = nn) (ht : TXT tt nn (fun j => I 236 (1228 + j))) (h1 : I 235 6 ≤ I 235 7) (h2 : I 235 7 ≤ I 236 2) (h3 : I 235 6 < I 236 2 → I 235 6 < I 235 7) (h1' : ∀ I' : pI, Rg I' → AR I' → (∀ k j, ¬ ((k = 235 ∧ (j = 6 ∨ j = 7))) → I' k j = I k j) → I 235 8 = 0 → mkW5 tt (I 235 6) (I 235 7) → I 235 7 - I 235 6 = 4 → I 235 6 + 4 ≤ I' 235 6 → I' 235 6 ≤ I' 235 7 → I' 235 7 ≤ I 236 2 → (I' 235 6 < I 236 2 → I' 235 6 < I' 235 7) → Tok tt nn (I 235 7) (I' 235 6) (I' 235 7) → Q (some (vi 1)) F I') (h0' : ¬ (I 235 8 = 0 ∧ mkW5 tt (I 235 6) (I 235 7)) → Q (some (vi 0)) F I) : CallN G (d + 4) kX12_takes [vr 235, vr 4119] NP F I Q := by
  refine r_takes9_13 hF hR hl ht h1 h2 h3 (fun r I' hR' hA' _ hW q1 q2 q3 q4 q5 q6 q7 q8 q9 qr => ?_)
  by_cases e : r = 1
  · rw [e]; exact h1' I' hR' hA' hW (q6 e).1 (q6 e).2 (q6 e).2.1 (q1 e) q2 q3 q4 (qr e)
  · have e0 : r = 0 := by omega
    have hI : I' = I := funext (fun k => funext (fun j => by
      by_cases c : k = 235 ∧ (j = 6 ∨ j = 7)
      · obtain ⟨rfl, c⟩ := c
        rcases c with rfl | rfl
        · exact (q9 e0).1
        · exact (q9 e0).2
      · exact hW k j c))
    rw [e0, hI]; exact h0' (q8 e0)
theorem r_takes9_14 (hF : FS F) (hR : Rg I) {tt : Int → Int} {nn : Int} (hl : I 236 2 = nn) (ht : TXT tt nn (fun j => I 236 (1228 + j))) (h1 : I 235 6 ≤ I 235 7) (h2 : I 235 7 ≤ I 236 2) (h3 : I 235 6 < I 236 2 → I 235 6 < I 235 7) (hQ : ∀ (r : Int) (I' : pI), Rg I' → AR I' → iR r → (∀ k j, ¬ ((k = 235 ∧ (j = 6 ∨ j = 7))) → I' k j = I k j) → (r = 1 → (I 235 6) + 4 ≤ (I' 235 6)) → ((I' 235 6) ≤ (I' 235 7)) → ((I' 235 7) ≤ (I 236 2)) → ((I' 235 6) < (I 236 2) → (I' 235 6) < (I' 235 7)) → ((I 235 6) ≤ (I' 235 6)) → (r = 1 → (I 235 8) = 0 ∧ ((I 235 7) - (I 235 6) = 4 ∧ tt (I 235 6) = 116 ∧ tt ((I 235 6) + 1) = 105 ∧ tt ((I 235 6) + 2) = 108 ∧ tt ((I 235 6) + 3) = 108)) → (0 ≤ r ∧ r ≤ 1) → (r = 0 → ¬ ((I 235 8) = 0 ∧ ((I 235 7) - (I 235 6) = 4 ∧ tt (I 235 6) = 116 ∧ tt ((I 235 6) + 1) = 105 ∧ tt ((I 235 6) + 2) = 108 ∧ tt ((I 235 6) + 3) = 108))) → (r = 0 → (I' 235 6) = (I 235 6) ∧ (I' 235 7) = (I 235 7)) → (r = 1 → Tok tt nn (I 235 7) (I' 235 6) (I' 235 7)) → Q (some (vi r)) F I') : CallN G (d + 4) kX12_takes [vr 235, vr 4120] NP F I Q := by
  refine CallN_in (fun hok hA => CallN_out ?_)
  have hn2 := ht.1
  have g2 := Rg.n2 hR
  refine Call_wp (lv := [some (vr 235), some (vr 4120), none, none]) (by decide) ckX12_takes [] rfl rfl ?_
  refine ⟨_, rfl, (by decide), ?_⟩
  have a1 : -2147483648 ≤ (I 235 8) ∧ (I 235 8) < 2147483648 := hA.1 _ _
  refine ⟨fun (c2 : (¬ ((I 235 8) : Int) = 0)) => ?_, fun (c2 : (((I 235 8) : Int) = 0)) => ?_⟩
  ·
    refine ⟨fun _ => ?_, fun c => absurd (show ((0 : Int) = 0) from by decide) c⟩
    refine ⟨fun _ => ?_, fun c => absurd (show ((0 : Int) = 0) from by decide) c⟩
    have r3 : 0 ≤ (I 235 6) ∧ (I 235 6) ≤ 64 := Rg.f6 hR
    have r5 : 0 ≤ (I 235 7) ∧ (I 235 7) ≤ 64 := Rg.f7 hR
    have r7 : 0 ≤ (I 236 2) ∧ (I 236 2) ≤ 64 := Rg.n2 hR
    exact ⟨rfl, (by decide), fun hv hA' => hQ _ _ hR hA' (hv _ rfl) (fun _ _ _ => rfl) (show 0 = 1 → (I 235 6) + 4 ≤ (I 235 6) from fun z => absurd z (by decide)) (show (I 235 6) ≤ (I 235 7) from by first | with_reducible assumption | omega | (simp only [wr, wl] at *; omega)) (show (I 235 7) ≤ (I 236 2) from by first | with_reducible assumption | omega | (simp only [wr, wl] at *; omega)) (show (I 235 6) < (I 236 2) → (I 235 6) < (I 235 7) from by first | with_reducible assumption | omega | (simp only [wr, wl] at *; omega)) (show (I 235 6) ≤ (I 235 6) from Int.le_refl _) (show 0 = 1 → (I 235 8) = 0 ∧ ((I 235 7) - (I 235 6) = 4 ∧ tt (I 235 6) = 116 ∧ tt ((I 235 6) + 1) = 105 ∧ tt ((I 235 6) + 2) = 108 ∧ tt ((I 235 6) + 3) = 108) from fun z => absurd z (by decide)) (show 0 ≤ 0 ∧ 0 ≤ 1 from by decide) (show 0 = 0 → ¬ ((I 235 8) = 0 ∧ ((I 235 7) - (I 235 6) = 4 ∧ tt (I 235 6) = 116 ∧ tt ((I 235 6) + 1) = 105 ∧ tt ((I 235 6) + 2) = 108 ∧ tt ((I 235 6) + 3) = 108)) from by first | omega | (simp only [wr, wl] at *; omega)) (show 0 = 0 → (I 235 6) = (I 235 6) ∧ (I 235 7) = (I 235 7) from fun _ => ⟨rfl, rfl⟩) (fun z => absurd z (by decide))⟩
  ·
    refine ⟨_, rfl, (by decide), ?_⟩
    have r9 : 0 ≤ (I 235 7) ∧ (I 235 7) ≤ 64 := Rg.f7 hR
    refine ⟨_, rfl, (by decide), ?_⟩
    have r10 : 0 ≤ (I 235 6) ∧ (I 235 6) ≤ 64 := Rg.f6 hR
    refine ⟨⟨14, (by decide), rfl⟩, ?_⟩
    refine Call_wp (lv := [some (vr 4120)]) (by decide) ckJ0_length_8abf5 [] rfl rfl ?_
    refine ⟨14, (by decide), rfl, ?_⟩
    refine Or.inr (Or.inr ⟨14, (by decide), rfl, ?_⟩)
    refine ⟨⟨14, (by decide), rfl⟩, ?_⟩
    refine Call_wp (lv := [some (vr 4120)]) (by decide) ckJ0_coder_7d493 [] rfl rfl ?_
    refine ⟨fun c => absurd c (show (¬ ((1 : Int) = 0)) from by decide), fun _ => ?_⟩
    refine ⟨14, (by decide), rfl, ?_⟩
    refine ⟨rfl, (by decide), ?_⟩
    refine ⟨rfl, ?_⟩
    have n13 : (wr ((I 235 7) - (I 235 6))) = (I 235 7) - (I 235 6) := wr_id (show -2147483648 ≤ ((I 235 7) - (I 235 6) : Int) ∧ ((I 235 7) - (I 235 6) : Int) < 2147483648 from by omega)
    refine ⟨fun (c14 : (¬ ((wr ((I 235 7) - (I 235 6))) : Int) = 4)) => ?_, fun (c14 : (((wr ((I 235 7) - (I 235 6))) : Int) = 4)) => ?_⟩
    ·
      refine ⟨fun _ => ?_, fun c => absurd (show ((0 : Int) = 0) from by decide) c⟩
      refine ⟨fun _ => ?_, fun c => absurd (show ((0 : Int) = 0) from by decide) c⟩
      have r15 : 0 ≤ (I 236 2) ∧ (I 236 2) ≤ 64 := Rg.n2 hR
      exact ⟨rfl, (by decide), fun hv hA' => hQ _ _ hR hA' (hv _ rfl) (fun _ _ _ => rfl) (show 0 = 1 → (I 235 6) + 4 ≤ (I 235 6) from fun z => absurd z (by decide)) (show (I 235 6) ≤ (I 235 7) from by first | with_reducible assumption | omega | (simp only [wr, wl] at *; omega)) (show (I 235 7) ≤ (I 236 2) from by first | with_reducible assumption | omega | (simp only [wr, wl] at *; omega)) (show (I 235 6) < (I 236 2) → (I 235 6) < (I 235 7) from by first | with_reducible assumption | omega | (simp only [wr, wl] at *; omega)) (show (I 235 6) ≤ (I 235 6) from Int.le_refl _) (show 0 = 1 → (I 235 8) = 0 ∧ ((I 235 7) - (I 235 6) = 4 ∧ tt (I 235 6) = 116 ∧ tt ((I 235 6) + 1) = 105 ∧ tt ((I 235 6) + 2) = 108 ∧ tt ((I 235 6) + 3) = 108) from fun z => absurd z (by decide)) (show 0 ≤ 0 ∧ 0 ≤ 1 from by decide) (show 0 = 0 → ¬ ((I 235 8) = 0 ∧ ((I 235 7) - (I 235 6) = 4 ∧ tt (I 235 6) = 116 ∧ tt ((I 235 6) + 1) = 105 ∧ tt ((I 235 6) + 2) = 108 ∧ tt ((I 235 6) + 3) = 108)) from by first | omega | (simp only [wr, wl] at *; omega)) (show 0 = 0 → (I 235 6) = (I 235 6) ∧ (I 235 7) = (I 235 7) from fun _ => ⟨rfl, rfl⟩) (fun z => absurd z (by decide))⟩
    ·
      refine ⟨fun c => absurd c (show (¬ ((1 : Int) = 0)) from by decide), fun _ => ?_⟩
      refine ⟨⟨14, (by decide), rfl⟩, ?_⟩
      refine Call_wp (lv := [some (vr 4120)]) (by decide) ckJ0_length_8abf5 [] rfl rfl ?_
      refine ⟨14, (by decide), rfl, ?_⟩
      refine Or.inr (Or.inr ⟨14, (by decide), rfl, ?_⟩)
      refine ⟨⟨14, (by decide), rfl⟩, ?_⟩
      refine Call_wp (lv := [some (vr 4120)]) (by decide) ckJ0_coder_7d493 [] rfl rfl ?_
      refine ⟨fun c => absurd c (show (¬ ((1 : Int) = 0)) from by decide), fun _ => ?_⟩
      refine ⟨14, (by decide), rfl, ?_⟩
      refine ⟨rfl, (by decide), ?_⟩
      refine ⟨rfl, ?_⟩
      refine ⟨fun c => absurd c (show (¬ ((4 : Int) ≤ 0)) from by decide), fun _ => ?_⟩
      refine ⟨_, rfl, (by decide), ?_⟩
      refine fun w0 hw0 => ?_; obtain rfl : w0 = some 236 := hw0.symm.trans (FS.g hF rfl)
      refine ⟨_, rfl, (by decide), ?_⟩
      have n17 : (wr (1228 + (I 235 6))) = 1228 + (I 235 6) := wr_id (show -2147483648 ≤ (1228 + (I 235 6) : Int) ∧ (1228 + (I 235 6) : Int) < 2147483648 from by omega)
      have n18 : (wr ((wr (1228 + (I 235 6))) + 0)) = (wr (1228 + (I 235 6))) + 0 := wr_id (show -2147483648 ≤ ((wr (1228 + (I 235 6))) + 0 : Int) ∧ ((wr (1228 + (I 235 6))) + 0 : Int) < 2147483648 from by omega)
      refine ⟨_, rfl, (by decide), (show (0 : Int) ≤ (wr ((wr (1228 + (I 235 6))) + 0)) from by first | with_reducible assumption | omega | (simp only [wr, wl] at *; omega)), (show (wr ((wr (1228 + (I 235 6))) + 0)) < (1340 : Int) from by first | with_reducible assumption | omega | (simp only [wr, wl] at *; omega)), ?_⟩
      have z19 := TXT_b ht (I 235 6)
      have z20 : (I 236 (Int.toNat (wr ((wr (1228 + (I 235 6))) + 0)))) = (I 236 (1228 + Int.toNat (I 235 6))) := congrArg (I 236) (by omega)
      have r21 : 0 ≤ (I 236 (Int.toNat (wr ((wr (1228 + (I 235 6))) + 0)))) ∧ (I 236 (Int.toNat (wr ((wr (1228 + (I 235 6))) + 0)))) ≤ 255 := Pn_t (by omega) (hR.n (Int.toNat (wr ((wr (1228 + (I 235 6))) + 0))) (by omega))
      refine ⟨⟨14, (by decide), rfl⟩, ?_⟩
      refine Call_wp (lv := [some (vr 4120), some (vi 0)]) (by decide) ckJ0_charAt_5068e [] rfl rfl ?_
      refine ⟨⟨14, (by decide), rfl⟩, ?_⟩
      refine Call_wp (lv := [some (vr 4120)]) (by decide) ckJ0_isLatin1_aae02 [] rfl rfl ?_
      refine ⟨fun c => absurd c (show (¬ ((1 : Int) = 0)) from by decide), fun _ => ?_⟩
      refine ⟨14, (by decide), rfl, ?_⟩
      refine ⟨fun c => absurd (show ((0 : Int) = 0) from by decide) c, fun _ => ?_⟩
      refine ⟨rfl, (by decide), ?_⟩
      refine ⟨fun c => absurd c (show (¬ ((1 : Int) = 0)) from by decide), fun _ => ?_⟩
      refine ⟨14, (by decide), rfl, ?_⟩
      refine Call_wp (lv := [some (vr 4150), some (vi 0)]) (by decide) ckJ1_charAt_3b067 [] rfl rfl ?_
      refine Or.inr (Or.inr ⟨14, (by decide), rfl, ?_⟩)
      refine j_check (i := 0) (n := 4) (by omega) ?_
      refine ⟨14, (by decide), rfl, (by decide), (by decide), ?_⟩
      refine ⟨rfl, (by decide), ?_⟩
      refine ⟨rfl, (by decide), ?_⟩
      refine ⟨fun (c23 : (¬ ((I 236 (Int.toNat (wr ((wr (1228 + (I 235 6))) + 0)))) : Int) = 116)) => ?_, fun (c23 : (((I 236 (Int.toNat (wr ((wr (1228 + (I 235 6))) + 0)))) : Int) = 116)) => ?_⟩
      ·
        replace z19 : ¬ tt (I 235 6) = 116 := by omega
        refine ⟨fun _ => ?_, fun c => absurd (show ((0 : Int) = 0) from by decide) c⟩
        refine ⟨fun _ => ?_, fun c => absurd (show ((0 : Int) = 0) from by decide) c⟩
        have r24 : 0 ≤ (I 236 2) ∧ (I 236 2) ≤ 64 := Rg.n2 hR
        exact ⟨rfl, (by decide), fun hv hA' => hQ _ _ hR hA' (hv _ rfl) (fun _ _ _ => rfl) (show 0 = 1 → (I 235 6) + 4 ≤ (I 235 6) from fun z => absurd z (by decide)) (show (I 235 6) ≤ (I 235 7) from by first | with_reducible assumption | omega | (simp only [wr, wl] at *; omega)) (show (I 235 7) ≤ (I 236 2) from by first | with_reducible assumption | omega | (simp only [wr, wl] at *; omega)) (show (I 235 6) < (I 236 2) → (I 235 6) < (I 235 7) from by first | with_reducible assumption | omega | (simp only [wr, wl] at *; omega)) (show (I 235 6) ≤ (I 235 6) from Int.le_refl _) (show 0 = 1 → (I 235 8) = 0 ∧ ((I 235 7) - (I 235 6) = 4 ∧ tt (I 235 6) = 116 ∧ tt ((I 235 6) + 1) = 105 ∧ tt ((I 235 6) + 2) = 108 ∧ tt ((I 235 6) + 3) = 108) from fun z => absurd z (by decide)) (show 0 ≤ 0 ∧ 0 ≤ 1 from by decide) (show 0 = 0 → ¬ ((I 235 8) = 0 ∧ ((I 235 7) - (I 235 6) = 4 ∧ tt (I 235 6) = 116 ∧ tt ((I 235 6) + 1) = 105 ∧ tt ((I 235 6) + 2) = 108 ∧ tt ((I 235 6) + 3) = 108)) from by first | omega | (simp only [wr, wl] at *; omega)) (show 0 = 0 → (I 235 6) = (I 235 6) ∧ (I 235 7) = (I 235 7) from fun _ => ⟨rfl, rfl⟩) (fun z => absurd z (by decide))⟩
      ·
        replace z19 : tt (I 235 6) = 116 := by omega
        refine ⟨fun c => absurd c (show (¬ ((1 : Int) = 0)) from by decide), fun _ => ?_⟩
        refine ⟨⟨14, (by decide), rfl⟩, ?_⟩
        refine Call_wp (lv := [some (vr 4120)]) (by decide) ckJ0_length_8abf5 [] rfl rfl ?_
        refine ⟨14, (by decide), rfl, ?_⟩
        refine Or.inr (Or.inr ⟨14, (by decide), rfl, ?_⟩)
        refine ⟨⟨14, (by decide), rfl⟩, ?_⟩
        refine Call_wp (lv := [some (vr 4120)]) (by decide) ckJ0_coder_7d493 [] rfl rfl ?_
        refine ⟨fun c => absurd c (show (¬ ((1 : Int) = 0)) from by decide), fun _ => ?_⟩
        refine ⟨14, (by decide), rfl, ?_⟩
        refine ⟨rfl, (by decide), ?_⟩
        refine ⟨rfl, ?_⟩
        refine ⟨fun c => absurd c (show (¬ ((4 : Int) ≤ 1)) from by decide), fun _ => ?_⟩
        refine ⟨_, rfl, (by decide), ?_⟩
        refine fun w0 hw0 => ?_; obtain rfl : w0 = some 236 := hw0.symm.trans (FS.g hF rfl)
        refine ⟨_, rfl, (by decide), ?_⟩
        have n26 : (wr ((wr (1228 + (I 235 6))) + 1)) = (wr (1228 + (I 235 6))) + 1 := wr_id (show -2147483648 ≤ ((wr (1228 + (I 235 6))) + 1 : Int) ∧ ((wr (1228 + (I 235 6))) + 1 : Int) < 2147483648 from by omega)
        refine ⟨_, rfl, (by decide), (show (0 : Int) ≤ (wr ((wr (1228 + (I 235 6))) + 1)) from by first | with_reducible assumption | omega | (simp only [wr, wl] at *; omega)), (show (wr ((wr (1228 + (I 235 6))) + 1)) < (1340 : Int) from by first | with_reducible assumption | omega | (simp only [wr, wl] at *; omega)), ?_⟩
        have z27 := TXT_b ht ((I 235 6) + 1)
        have z28 : (I 236 (Int.toNat (wr ((wr (1228 + (I 235 6))) + 1)))) = (I 236 (1228 + Int.toNat ((I 235 6) + 1))) := congrArg (I 236) (by omega)
        refine ⟨⟨14, (by decide), rfl⟩, ?_⟩
        refine Call_wp (lv := [some (vr 4120), some (vi 1)]) (by decide) ckJ0_charAt_5068e [] rfl rfl ?_
        refine ⟨⟨14, (by decide), rfl⟩, ?_⟩
        refine Call_wp (lv := [some (vr 4120)]) (by decide) ckJ0_isLatin1_aae02 [] rfl rfl ?_
        refine ⟨fun c => absurd c (show (¬ ((1 : Int) = 0)) from by decide), fun _ => ?_⟩
        refine ⟨14, (by decide), rfl, ?_⟩
        refine ⟨fun c => absurd (show ((0 : Int) = 0) from by decide) c, fun _ => ?_⟩
        refine ⟨rfl, (by decide), ?_⟩
        refine ⟨fun c => absurd c (show (¬ ((1 : Int) = 0)) from by decide), fun _ => ?_⟩
        refine ⟨14, (by decide), rfl, ?_⟩
        refine Call_wp (lv := [some (vr 4150), some (vi 1)]) (by decide) ckJ1_charAt_3b067 [] rfl rfl ?_
        refine Or.inr (Or.inr ⟨14, (by decide), rfl, ?_⟩)
        refine j_check (i := 1) (n := 4) (by omega) ?_
        refine ⟨14, (by decide), rfl, (by decide), (by decide), ?_⟩
        refine ⟨rfl, (by decide), ?_⟩
        refine ⟨rfl, (by decide), ?_⟩
        have a29 : -2147483648 ≤ (I 236 (Int.toNat (wr ((wr (1228 + (I 235 6))) + 1)))) ∧ (I 236 (Int.toNat (wr ((wr (1228 + (I 235 6))) + 1)))) < 2147483648 := hA.1 _ _
        refine ⟨fun (c30 : (¬ ((I 236 (Int.toNat (wr ((wr (1228 + (I 235 6))) + 1)))) : Int) = 105)) => ?_, fun (c30 : (((I 236 (Int.toNat (wr ((wr (1228 + (I 235 6))) + 1)))) : Int) = 105)) => ?_⟩
        ·
          replace z27 : ¬ tt ((I 235 6) + 1) = 105 := by omega
          refine ⟨fun _ => ?_, fun c => absurd (show ((0 : Int) = 0) from by decide) c⟩
          refine ⟨fun _ => ?_, fun c => absurd (show ((0 : Int) = 0) from by decide) c⟩
          have r31 : 0 ≤ (I 236 2) ∧ (I 236 2) ≤ 64 := Rg.n2 hR
          exact ⟨rfl, (by decide), fun hv hA' => hQ _ _ hR hA' (hv _ rfl) (fun _ _ _ => rfl) (show 0 = 1 → (I 235 6) + 4 ≤ (I 235 6) from fun z => absurd z (by decide)) (show (I 235 6) ≤ (I 235 7) from by first | with_reducible assumption | omega | (simp only [wr, wl] at *; omega)) (show (I 235 7) ≤ (I 236 2) from by first | with_reducible assumption | omega | (simp only [wr, wl] at *; omega)) (show (I 235 6) < (I 236 2) → (I 235 6) < (I 235 7) from by first | with_reducible assumption | omega | (simp only [wr, wl] at *; omega)) (show (I 235 6) ≤ (I 235 6) from Int.le_refl _) (show 0 = 1 → (I 235 8) = 0 ∧ ((I 235 7) - (I 235 6) = 4 ∧ tt (I 235 6) = 116 ∧ tt ((I 235 6) + 1) = 105 ∧ tt ((I 235 6) + 2) = 108 ∧ tt ((I 235 6) + 3) = 108) from fun z => absurd z (by decide)) (show 0 ≤ 0 ∧ 0 ≤ 1 from by decide) (show 0 = 0 → ¬ ((I 235 8) = 0 ∧ ((I 235 7) - (I 235 6) = 4 ∧ tt (I 235 6) = 116 ∧ tt ((I 235 6) + 1) = 105 ∧ tt ((I 235 6) + 2) = 108 ∧ tt ((I 235 6) + 3) = 108)) from by first | omega | (simp only [wr, wl] at *; omega)) (show 0 = 0 → (I 235 6) = (I 235 6) ∧ (I 235 7) = (I 235 7) from fun _ => ⟨rfl, rfl⟩) (fun z => absurd z (by decide))⟩
        ·
          replace z27 : tt ((I 235 6) + 1) = 105 := by omega
          refine ⟨fun c => absurd c (show (¬ ((1 : Int) = 0)) from by decide), fun _ => ?_⟩
          refine ⟨⟨14, (by decide), rfl⟩, ?_⟩
          refine Call_wp (lv := [some (vr 4120)]) (by decide) ckJ0_length_8abf5 [] rfl rfl ?_
          refine ⟨14, (by decide), rfl, ?_⟩
          refine Or.inr (Or.inr ⟨14, (by decide), rfl, ?_⟩)
          refine ⟨⟨14, (by decide), rfl⟩, ?_⟩
          refine Call_wp (lv := [some (vr 4120)]) (by decide) ckJ0_coder_7d493 [] rfl rfl ?_
          refine ⟨fun c => absurd c (show (¬ ((1 : Int) = 0)) from by decide), fun _ => ?_⟩
          refine ⟨14, (by decide), rfl, ?_⟩
          refine ⟨rfl, (by decide), ?_⟩
          refine ⟨rfl, ?_⟩
          refine ⟨fun c => absurd c (show (¬ ((4 : Int) ≤ 2)) from by decide), fun _ => ?_⟩
          refine ⟨_, rfl, (by decide), ?_⟩
          refine fun w0 hw0 => ?_; obtain rfl : w0 = some 236 := hw0.symm.trans (FS.g hF rfl)
          refine ⟨_, rfl, (by decide), ?_⟩
          have n33 : (wr ((wr (1228 + (I 235 6))) + 2)) = (wr (1228 + (I 235 6))) + 2 := wr_id (show -2147483648 ≤ ((wr (1228 + (I 235 6))) + 2 : Int) ∧ ((wr (1228 + (I 235 6))) + 2 : Int) < 2147483648 from by omega)
          refine ⟨_, rfl, (by decide), (show (0 : Int) ≤ (wr ((wr (1228 + (I 235 6))) + 2)) from by first | with_reducible assumption | omega | (simp only [wr, wl] at *; omega)), (show (wr ((wr (1228 + (I 235 6))) + 2)) < (1340 : Int) from by first | with_reducible assumption | omega | (simp only [wr, wl] at *; omega)), ?_⟩
          have z34 := TXT_b ht ((I 235 6) + 2)
          have z35 : (I 236 (Int.toNat (wr ((wr (1228 + (I 235 6))) + 2)))) = (I 236 (1228 + Int.toNat ((I 235 6) + 2))) := congrArg (I 236) (by omega)
          refine ⟨⟨14, (by decide), rfl⟩, ?_⟩
          refine Call_wp (lv := [some (vr 4120), some (vi 2)]) (by decide) ckJ0_charAt_5068e [] rfl rfl ?_
          refine ⟨⟨14, (by decide), rfl⟩, ?_⟩
          refine Call_wp (lv := [some (vr 4120)]) (by decide) ckJ0_isLatin1_aae02 [] rfl rfl ?_
          refine ⟨fun c => absurd c (show (¬ ((1 : Int) = 0)) from by decide), fun _ => ?_⟩
          refine ⟨14, (by decide), rfl, ?_⟩
          refine ⟨fun c => absurd (show ((0 : Int) = 0) from by decide) c, fun _ => ?_⟩
          refine ⟨rfl, (by decide), ?_⟩
          refine ⟨fun c => absurd c (show (¬ ((1 : Int) = 0)) from by decide), fun _ => ?_⟩
          refine ⟨14, (by decide), rfl, ?_⟩
          refine Call_wp (lv := [some (vr 4150), some (vi 2)]) (by decide) ckJ1_charAt_3b067 [] rfl rfl ?_
          refine Or.inr (Or.inr ⟨14, (by decide), rfl, ?_⟩)
          refine j_check (i := 2) (n := 4) (by omega) ?_
          refine ⟨14, (by decide), rfl, (by decide), (by decide), ?_⟩
          refine ⟨rfl, (by decide), ?_⟩
          refine ⟨rfl, (by decide), ?_⟩
          have a36 : -2147483648 ≤ (I 236 (Int.toNat (wr ((wr (1228 + (I 235 6))) + 2)))) ∧ (I 236 (Int.toNat (wr ((wr (1228 + (I 235 6))) + 2)))) < 2147483648 := hA.1 _ _
          refine ⟨fun (c37 : (¬ ((I 236 (Int.toNat (wr ((wr (1228 + (I 235 6))) + 2)))) : Int) = 108)) => ?_, fun (c37 : (((I 236 (Int.toNat (wr ((wr (1228 + (I 235 6))) + 2)))) : Int) = 108)) => ?_⟩
          ·
            replace z34 : ¬ tt ((I 235 6) + 2) = 108 := by omega
            refine ⟨fun _ => ?_, fun c => absurd (show ((0 : Int) = 0) from by decide) c⟩
            refine ⟨fun _ => ?_, fun c => absurd (show ((0 : Int) = 0) from by decide) c⟩
            have r38 : 0 ≤ (I 236 2) ∧ (I 236 2) ≤ 64 := Rg.n2 hR
            exact ⟨rfl, (by decide), fun hv hA' => hQ _ _ hR hA' (hv _ rfl) (fun _ _ _ => rfl) (show 0 = 1 → (I 235 6) + 4 ≤ (I 235 6) from fun z => absurd z (by decide)) (show (I 235 6) ≤ (I 235 7) from by first | with_reducible assumption | omega | (simp only [wr, wl] at *; omega)) (show (I 235 7) ≤ (I 236 2) from by first | with_reducible assumption | omega | (simp only [wr, wl] at *; omega)) (show (I 235 6) < (I 236 2) → (I 235 6) < (I 235 7) from by first | with_reducible assumption | omega | (simp only [wr, wl] at *; omega)) (show (I 235 6) ≤ (I 235 6) from Int.le_refl _) (show 0 = 1 → (I 235 8) = 0 ∧ ((I 235 7) - (I 235 6) = 4 ∧ tt (I 235 6) = 116 ∧ tt ((I 235 6) + 1) = 105 ∧ tt ((I 235 6) + 2) = 108 ∧ tt ((I 235 6) + 3) = 108) from fun z => absurd z (by decide)) (show 0 ≤ 0 ∧ 0 ≤ 1 from by decide) (show 0 = 0 → ¬ ((I 235 8) = 0 ∧ ((I 235 7) - (I 235 6) = 4 ∧ tt (I 235 6) = 116 ∧ tt ((I 235 6) + 1) = 105 ∧ tt ((I 235 6) + 2) = 108 ∧ tt ((I 235 6) + 3) = 108)) from by first | omega | (simp only [wr, wl] at *; omega)) (show 0 = 0 → (I 235 6) = (I 235 6) ∧ (I 235 7) = (I 235 7) from fun _ => ⟨rfl, rfl⟩) (fun z => absurd z (by decide))⟩
          ·
            replace z34 : tt ((I 235 6) + 2) = 108 := by omega
            refine ⟨fun c => absurd c (show (¬ ((1 : Int) = 0)) from by decide), fun _ => ?_⟩
            refine ⟨⟨14, (by decide), rfl⟩, ?_⟩
            refine Call_wp (lv := [some (vr 4120)]) (by decide) ckJ0_length_8abf5 [] rfl rfl ?_
            refine ⟨14, (by decide), rfl, ?_⟩
            refine Or.inr (Or.inr ⟨14, (by decide), rfl, ?_⟩)
            refine ⟨⟨14, (by decide), rfl⟩, ?_⟩
            refine Call_wp (lv := [some (vr 4120)]) (by decide) ckJ0_coder_7d493 [] rfl rfl ?_
            refine ⟨fun c => absurd c (show (¬ ((1 : Int) = 0)) from by decide), fun _ => ?_⟩
            refine ⟨14, (by decide), rfl, ?_⟩
            refine ⟨rfl, (by decide), ?_⟩
            refine ⟨rfl, ?_⟩
            refine ⟨fun c => absurd c (show (¬ ((4 : Int) ≤ 3)) from by decide), fun _ => ?_⟩
            refine ⟨_, rfl, (by decide), ?_⟩
            refine fun w0 hw0 => ?_; obtain rfl : w0 = some 236 := hw0.symm.trans (FS.g hF rfl)
            refine ⟨_, rfl, (by decide), ?_⟩
            have n40 : (wr ((wr (1228 + (I 235 6))) + 3)) = (wr (1228 + (I 235 6))) + 3 := wr_id (show -2147483648 ≤ ((wr (1228 + (I 235 6))) + 3 : Int) ∧ ((wr (1228 + (I 235 6))) + 3 : Int) < 2147483648 from by omega)
            refine ⟨_, rfl, (by decide), (show (0 : Int) ≤ (wr ((wr (1228 + (I 235 6))) + 3)) from by first | with_reducible assumption | omega | (simp only [wr, wl] at *; omega)), (show (wr ((wr (1228 + (I 235 6))) + 3)) < (1340 : Int) from by first | with_reducible assumption | omega | (simp only [wr, wl] at *; omega)), ?_⟩
            have z41 := TXT_b ht ((I 235 6) + 3)
            have z42 : (I 236 (Int.toNat (wr ((wr (1228 + (I 235 6))) + 3)))) = (I 236 (1228 + Int.toNat ((I 235 6) + 3))) := congrArg (I 236) (by omega)
            refine ⟨⟨14, (by decide), rfl⟩, ?_⟩
            refine Call_wp (lv := [some (vr 4120), some (vi 3)]) (by decide) ckJ0_charAt_5068e [] rfl rfl ?_
            refine ⟨⟨14, (by decide), rfl⟩, ?_⟩
            refine Call_wp (lv := [some (vr 4120)]) (by decide) ckJ0_isLatin1_aae02 [] rfl rfl ?_
            refine ⟨fun c => absurd c (show (¬ ((1 : Int) = 0)) from by decide), fun _ => ?_⟩
            refine ⟨14, (by decide), rfl, ?_⟩
            refine ⟨fun c => absurd (show ((0 : Int) = 0) from by decide) c, fun _ => ?_⟩
            refine ⟨rfl, (by decide), ?_⟩
            refine ⟨fun c => absurd c (show (¬ ((1 : Int) = 0)) from by decide), fun _ => ?_⟩
            refine ⟨14, (by decide), rfl, ?_⟩
            refine Call_wp (lv := [some (vr 4150), some (vi 3)]) (by decide) ckJ1_charAt_3b067 [] rfl rfl ?_
            refine Or.inr (Or.inr ⟨14, (by decide), rfl, ?_⟩)
            refine j_check (i := 3) (n := 4) (by omega) ?_
            refine ⟨14, (by decide), rfl, (by decide), (by decide), ?_⟩
            refine ⟨rfl, (by decide), ?_⟩
            refine ⟨rfl, (by decide), ?_⟩
            have a43 : -2147483648 ≤ (I 236 (Int.toNat (wr ((wr (1228 + (I 235 6))) + 3)))) ∧ (I 236 (Int.toNat (wr ((wr (1228 + (I 235 6))) + 3)))) < 2147483648 := hA.1 _ _
            refine ⟨fun (c44 : (¬ ((I 236 (Int.toNat (wr ((wr (1228 + (I 235 6))) + 3)))) : Int) = 108)) => ?_, fun (c44 : (((I 236 (Int.toNat (wr ((wr (1228 + (I 235 6))) + 3)))) : Int) = 108)) => ?_⟩
            ·
              replace z41 : ¬ tt ((I 235 6) + 3) = 108 := by omega
              refine ⟨fun _ => ?_, fun c => absurd (show ((0 : Int) = 0) from by decide) c⟩
              refine ⟨fun _ => ?_, fun c => absurd (show ((0 : Int) = 0) from by decide) c⟩
              have r45 : 0 ≤ (I 236 2) ∧ (I 236 2) ≤ 64 := Rg.n2 hR
              exact ⟨rfl, (by decide), fun hv hA' => hQ _ _ hR hA' (hv _ rfl) (fun _ _ _ => rfl) (show 0 = 1 → (I 235 6) + 4 ≤ (I 235 6) from fun z => absurd z (by decide)) (show (I 235 6) ≤ (I 235 7) from by first | with_reducible assumption | omega | (simp only [wr, wl] at *; omega)) (show (I 235 7) ≤ (I 236 2) from by first | with_reducible assumption | omega | (simp only [wr, wl] at *; omega)) (show (I 235 6) < (I 236 2) → (I 235 6) < (I 235 7) from by first | with_reducible assumption | omega | (simp only [wr, wl] at *; omega)) (show (I 235 6) ≤ (I 235 6) from Int.le_refl _) (show 0 = 1 → (I 235 8) = 0 ∧ ((I 235 7) - (I 235 6) = 4 ∧ tt (I 235 6) = 116 ∧ tt ((I 235 6) + 1) = 105 ∧ tt ((I 235 6) + 2) = 108 ∧ tt ((I 235 6) + 3) = 108) from fun z => absurd z (by decide)) (show 0 ≤ 0 ∧ 0 ≤ 1 from by decide) (show 0 = 0 → ¬ ((I 235 8) = 0 ∧ ((I 235 7) - (I 235 6) = 4 ∧ tt (I 235 6) = 116 ∧ tt ((I 235 6) + 1) = 105 ∧ tt ((I 235 6) + 2) = 108 ∧ tt ((I 235 6) + 3) = 108)) from by first | omega | (simp only [wr, wl] at *; omega)) (show 0 = 0 → (I 235 6) = (I 235 6) ∧ (I 235 7) = (I 235 7) from fun _ => ⟨rfl, rfl⟩) (fun z => absurd z (by decide))⟩
            ·
              replace z41 : tt ((I 235 6) + 3) = 108 := by omega
              refine ⟨fun c => absurd c (show (¬ ((1 : Int) = 0)) from by decide), fun _ => ?_⟩
              refine ⟨⟨14, (by decide), rfl⟩, ?_⟩
              refine Call_wp (lv := [some (vr 4120)]) (by decide) ckJ0_length_8abf5 [] rfl rfl ?_
              refine ⟨14, (by decide), rfl, ?_⟩
              refine Or.inr (Or.inr ⟨14, (by decide), rfl, ?_⟩)
              refine ⟨⟨14, (by decide), rfl⟩, ?_⟩
              refine Call_wp (lv := [some (vr 4120)]) (by decide) ckJ0_coder_7d493 [] rfl rfl ?_
              refine ⟨fun c => absurd c (show (¬ ((1 : Int) = 0)) from by decide), fun _ => ?_⟩
              refine ⟨14, (by decide), rfl, ?_⟩
              refine ⟨rfl, (by decide), ?_⟩
              refine ⟨rfl, ?_⟩
              refine ⟨fun _ => ?_, fun c => absurd (show ((4 : Int) ≤ 4) from by decide) c⟩
              refine ⟨fun c => absurd c (show (¬ ((1 : Int) = 0)) from by decide), fun _ => ?_⟩
              refine ⟨⟨_, rfl, (by decide)⟩, ?_⟩
              have r47 : 0 ≤ (I 236 2) ∧ (I 236 2) ≤ 64 := Rg.n2 hR
              refine r_goOn9  hF hR (hl) ht (show (I 235 7) ≤ (I 236 2) from by first | with_reducible assumption | omega | (simp only [wr, wl] at *; omega)) (fun I49 hR50 hA51 hW52 q53 q54 q55 q56 qr57 => ?_)
              have q53 : (I 235 7) ≤ (I49 235 6) := q53
              have q54 : (I49 235 6) ≤ (I49 235 7) := q54
              have q55 : (I49 235 7) ≤ (I 236 2) := q55
              have q56 : (I49 235 6) < (I 236 2) → (I49 235 6) < (I49 235 7) := q56
              have r58 : 0 ≤ (I49 235 6) ∧ (I49 235 6) ≤ 64 := Rg.f6 hR50
              have r60 : 0 ≤ (I49 235 7) ∧ (I49 235 7) ≤ 64 := Rg.f7 hR50
              exact ⟨rfl, (by decide), fun hv hA' => hQ _ _ hR50 hA' (hv _ rfl) (fun ka ja hk => (hW52 ka ja (by omega))) (show 1 = 1 → (I 235 6) + 4 ≤ (I49 235 6) from by first | with_reducible assumption | omega | (simp only [wr, wl] at *; omega)) (show (I49 235 6) ≤ (I49 235 7) from by first | with_reducible assumption | omega | (simp only [wr, wl] at *; omega)) (show (I49 235 7) ≤ (I 236 2) from by first | with_reducible assumption | omega | (simp only [wr, wl] at *; omega)) (show (I49 235 6) < (I 236 2) → (I49 235 6) < (I49 235 7) from by first | with_reducible assumption | omega | (simp only [wr, wl] at *; omega)) (show (I 235 6) ≤ (I49 235 6) from by first | with_reducible assumption | omega | (simp only [wr, wl] at *; omega)) (show 1 = 1 → (I 235 8) = 0 ∧ ((I 235 7) - (I 235 6) = 4 ∧ tt (I 235 6) = 116 ∧ tt ((I 235 6) + 1) = 105 ∧ tt ((I 235 6) + 2) = 108 ∧ tt ((I 235 6) + 3) = 108) from by first | omega | (simp only [wr, wl] at *; omega)) (show 0 ≤ 1 ∧ 1 ≤ 1 from by decide) (show 1 = 0 → ¬ ((I 235 8) = 0 ∧ ((I 235 7) - (I 235 6) = 4 ∧ tt (I 235 6) = 116 ∧ tt ((I 235 6) + 1) = 105 ∧ tt ((I 235 6) + 2) = 108 ∧ tt ((I 235 6) + 3) = 108)) from fun z => absurd z (by decide)) (show 1 = 0 → (I49 235 6) = (I 235 6) ∧ (I49 235 7) = (I 235 7) from fun z => absurd z (by decide)) (fun _ => qr57)⟩
theorem r_tk9_14 (hF : FS F) (hR : Rg I) {tt : Int → Int} {nn : Int} (hl : I 236 2 = nn) (ht : TXT tt nn (fun j => I 236 (1228 + j))) (h1 : I 235 6 ≤ I 235 7) (h2 : I 235 7 ≤ I 236 2) (h3 : I 235 6 < I 236 2 → I 235 6 < I 235 7) (h1' : ∀ I' : pI, Rg I' → AR I' → (∀ k j, ¬ ((k = 235 ∧ (j = 6 ∨ j = 7))) → I' k j = I k j) → I 235 8 = 0 → mkW6 tt (I 235 6) (I 235 7) → I 235 7 - I 235 6 = 4 → I 235 6 + 4 ≤ I' 235 6 → I' 235 6 ≤ I' 235 7 → I' 235 7 ≤ I 236 2 → (I' 235 6 < I 236 2 → I' 235 6 < I' 235 7) → Tok tt nn (I 235 7) (I' 235 6) (I' 235 7) → Q (some (vi 1)) F I') (h0' : ¬ (I 235 8 = 0 ∧ mkW6 tt (I 235 6) (I 235 7)) → Q (some (vi 0)) F I) : CallN G (d + 4) kX12_takes [vr 235, vr 4120] NP F I Q := by
  refine r_takes9_14 hF hR hl ht h1 h2 h3 (fun r I' hR' hA' _ hW q1 q2 q3 q4 q5 q6 q7 q8 q9 qr => ?_)
  by_cases e : r = 1
  · rw [e]; exact h1' I' hR' hA' hW (q6 e).1 (q6 e).2 (q6 e).2.1 (q1 e) q2 q3 q4 (qr e)
  · have e0 : r = 0 := by omega
    have hI : I' = I := funext (fun k => funext (fun j => by
      by_cases c : k = 235 ∧ (j = 6 ∨ j = 7)
      · obtain ⟨rfl, c⟩ := c
        rcases c with rfl | rfl
        · exact (q9 e0).1
        · exact (q9 e0).2
      · exact hW k j c))
    rw [e0, hI]; exact h0' (q8 e0)
theorem r_takes9_15 (hF : FS F) (hR : Rg I) {tt : Int → Int} {nn : Int} (hl : I 236 2 = nn) (ht : TXT tt nn (fun j => I 236 (1228 + j))) (h1 : I 235 6 ≤ I 235 7) (h2 : I 235 7 ≤ I 236 2) (h3 : I 235 6 < I 236 2 → I 235 6 < I 235 7) (hQ : ∀ (r : Int) (I' : pI), Rg I' → AR I' → iR r → (∀ k j, ¬ ((k = 235 ∧ (j = 6 ∨ j = 7))) → I' k j = I k j) → (r = 1 → (I 235 6) + 1 ≤ (I' 235 6)) → ((I' 235 6) ≤ (I' 235 7)) → ((I' 235 7) ≤ (I 236 2)) → ((I' 235 6) < (I 236 2) → (I' 235 6) < (I' 235 7)) → ((I 235 6) ≤ (I' 235 6)) → (r = 1 → (I 235 8) = 0 ∧ ((I 235 7) - (I 235 6) = 1 ∧ tt (I 235 6) = 44)) → (0 ≤ r ∧ r ≤ 1) → (r = 0 → ¬ ((I 235 8) = 0 ∧ ((I 235 7) - (I 235 6) = 1 ∧ tt (I 235 6) = 44))) → (r = 0 → (I' 235 6) = (I 235 6) ∧ (I' 235 7) = (I 235 7)) → (r = 1 → Tok tt nn (I 235 7) (I' 235 6) (I' 235 7)) → Q (some (vi r)) F I') : CallN G (d + 4) kX12_takes [vr 235, vr 4121] NP F I Q := by
  refine CallN_in (fun hok hA => CallN_out ?_)
  have hn2 := ht.1
  have g2 := Rg.n2 hR
  refine Call_wp (lv := [some (vr 235), some (vr 4121), none, none]) (by decide) ckX12_takes [] rfl rfl ?_
  refine ⟨_, rfl, (by decide), ?_⟩
  have a1 : -2147483648 ≤ (I 235 8) ∧ (I 235 8) < 2147483648 := hA.1 _ _
  refine ⟨fun (c2 : (¬ ((I 235 8) : Int) = 0)) => ?_, fun (c2 : (((I 235 8) : Int) = 0)) => ?_⟩
  ·
    refine ⟨fun _ => ?_, fun c => absurd (show ((0 : Int) = 0) from by decide) c⟩
    refine ⟨fun _ => ?_, fun c => absurd (show ((0 : Int) = 0) from by decide) c⟩
    have r3 : 0 ≤ (I 235 6) ∧ (I 235 6) ≤ 64 := Rg.f6 hR
    have r5 : 0 ≤ (I 235 7) ∧ (I 235 7) ≤ 64 := Rg.f7 hR
    have r7 : 0 ≤ (I 236 2) ∧ (I 236 2) ≤ 64 := Rg.n2 hR
    exact ⟨rfl, (by decide), fun hv hA' => hQ _ _ hR hA' (hv _ rfl) (fun _ _ _ => rfl) (show 0 = 1 → (I 235 6) + 1 ≤ (I 235 6) from fun z => absurd z (by decide)) (show (I 235 6) ≤ (I 235 7) from by first | with_reducible assumption | omega | (simp only [wr, wl] at *; omega)) (show (I 235 7) ≤ (I 236 2) from by first | with_reducible assumption | omega | (simp only [wr, wl] at *; omega)) (show (I 235 6) < (I 236 2) → (I 235 6) < (I 235 7) from by first | with_reducible assumption | omega | (simp only [wr, wl] at *; omega)) (show (I 235 6) ≤ (I 235 6) from Int.le_refl _) (show 0 = 1 → (I 235 8) = 0 ∧ ((I 235 7) - (I 235 6) = 1 ∧ tt (I 235 6) = 44) from fun z => absurd z (by decide)) (show 0 ≤ 0 ∧ 0 ≤ 1 from by decide) (show 0 = 0 → ¬ ((I 235 8) = 0 ∧ ((I 235 7) - (I 235 6) = 1 ∧ tt (I 235 6) = 44)) from by first | with_reducible assumption | omega | (simp only [wr, wl] at *; omega)) (show 0 = 0 → (I 235 6) = (I 235 6) ∧ (I 235 7) = (I 235 7) from fun _ => ⟨rfl, rfl⟩) (fun z => absurd z (by decide))⟩
  ·
    refine ⟨_, rfl, (by decide), ?_⟩
    have r9 : 0 ≤ (I 235 7) ∧ (I 235 7) ≤ 64 := Rg.f7 hR
    refine ⟨_, rfl, (by decide), ?_⟩
    have r10 : 0 ≤ (I 235 6) ∧ (I 235 6) ≤ 64 := Rg.f6 hR
    refine ⟨⟨15, (by decide), rfl⟩, ?_⟩
    refine Call_wp (lv := [some (vr 4121)]) (by decide) ckJ0_length_8abf5 [] rfl rfl ?_
    refine ⟨15, (by decide), rfl, ?_⟩
    refine Or.inr (Or.inr ⟨15, (by decide), rfl, ?_⟩)
    refine ⟨⟨15, (by decide), rfl⟩, ?_⟩
    refine Call_wp (lv := [some (vr 4121)]) (by decide) ckJ0_coder_7d493 [] rfl rfl ?_
    refine ⟨fun c => absurd c (show (¬ ((1 : Int) = 0)) from by decide), fun _ => ?_⟩
    refine ⟨15, (by decide), rfl, ?_⟩
    refine ⟨rfl, (by decide), ?_⟩
    refine ⟨rfl, ?_⟩
    have n13 : (wr ((I 235 7) - (I 235 6))) = (I 235 7) - (I 235 6) := wr_id (show -2147483648 ≤ ((I 235 7) - (I 235 6) : Int) ∧ ((I 235 7) - (I 235 6) : Int) < 2147483648 from by omega)
    refine ⟨fun (c14 : (¬ ((wr ((I 235 7) - (I 235 6))) : Int) = 1)) => ?_, fun (c14 : (((wr ((I 235 7) - (I 235 6))) : Int) = 1)) => ?_⟩
    ·
      refine ⟨fun _ => ?_, fun c => absurd (show ((0 : Int) = 0) from by decide) c⟩
      refine ⟨fun _ => ?_, fun c => absurd (show ((0 : Int) = 0) from by decide) c⟩
      have r15 : 0 ≤ (I 236 2) ∧ (I 236 2) ≤ 64 := Rg.n2 hR
      exact ⟨rfl, (by decide), fun hv hA' => hQ _ _ hR hA' (hv _ rfl) (fun _ _ _ => rfl) (show 0 = 1 → (I 235 6) + 1 ≤ (I 235 6) from fun z => absurd z (by decide)) (show (I 235 6) ≤ (I 235 7) from by first | with_reducible assumption | omega | (simp only [wr, wl] at *; omega)) (show (I 235 7) ≤ (I 236 2) from by first | with_reducible assumption | omega | (simp only [wr, wl] at *; omega)) (show (I 235 6) < (I 236 2) → (I 235 6) < (I 235 7) from by first | with_reducible assumption | omega | (simp only [wr, wl] at *; omega)) (show (I 235 6) ≤ (I 235 6) from Int.le_refl _) (show 0 = 1 → (I 235 8) = 0 ∧ ((I 235 7) - (I 235 6) = 1 ∧ tt (I 235 6) = 44) from fun z => absurd z (by decide)) (show 0 ≤ 0 ∧ 0 ≤ 1 from by decide) (show 0 = 0 → ¬ ((I 235 8) = 0 ∧ ((I 235 7) - (I 235 6) = 1 ∧ tt (I 235 6) = 44)) from by first | with_reducible assumption | omega | (simp only [wr, wl] at *; omega)) (show 0 = 0 → (I 235 6) = (I 235 6) ∧ (I 235 7) = (I 235 7) from fun _ => ⟨rfl, rfl⟩) (fun z => absurd z (by decide))⟩
    ·
      refine ⟨fun c => absurd c (show (¬ ((1 : Int) = 0)) from by decide), fun _ => ?_⟩
      refine ⟨⟨15, (by decide), rfl⟩, ?_⟩
      refine Call_wp (lv := [some (vr 4121)]) (by decide) ckJ0_length_8abf5 [] rfl rfl ?_
      refine ⟨15, (by decide), rfl, ?_⟩
      refine Or.inr (Or.inr ⟨15, (by decide), rfl, ?_⟩)
      refine ⟨⟨15, (by decide), rfl⟩, ?_⟩
      refine Call_wp (lv := [some (vr 4121)]) (by decide) ckJ0_coder_7d493 [] rfl rfl ?_
      refine ⟨fun c => absurd c (show (¬ ((1 : Int) = 0)) from by decide), fun _ => ?_⟩
      refine ⟨15, (by decide), rfl, ?_⟩
      refine ⟨rfl, (by decide), ?_⟩
      refine ⟨rfl, ?_⟩
      refine ⟨fun c => absurd c (show (¬ ((1 : Int) ≤ 0)) from by decide), fun _ => ?_⟩
      refine ⟨_, rfl, (by decide), ?_⟩
      refine fun w0 hw0 => ?_; obtain rfl : w0 = some 236 := hw0.symm.trans (FS.g hF rfl)
      refine ⟨_, rfl, (by decide), ?_⟩
      have n17 : (wr (1228 + (I 235 6))) = 1228 + (I 235 6) := wr_id (show -2147483648 ≤ (1228 + (I 235 6) : Int) ∧ (1228 + (I 235 6) : Int) < 2147483648 from by omega)
      have n18 : (wr ((wr (1228 + (I 235 6))) + 0)) = (wr (1228 + (I 235 6))) + 0 := wr_id (show -2147483648 ≤ ((wr (1228 + (I 235 6))) + 0 : Int) ∧ ((wr (1228 + (I 235 6))) + 0 : Int) < 2147483648 from by omega)
      refine ⟨_, rfl, (by decide), (show (0 : Int) ≤ (wr ((wr (1228 + (I 235 6))) + 0)) from by first | with_reducible assumption | omega | (simp only [wr, wl] at *; omega)), (show (wr ((wr (1228 + (I 235 6))) + 0)) < (1340 : Int) from by first | with_reducible assumption | omega | (simp only [wr, wl] at *; omega)), ?_⟩
      have z19 := TXT_b ht (I 235 6)
      have z20 : (I 236 (Int.toNat (wr ((wr (1228 + (I 235 6))) + 0)))) = (I 236 (1228 + Int.toNat (I 235 6))) := congrArg (I 236) (by omega)
      have r21 : 0 ≤ (I 236 (Int.toNat (wr ((wr (1228 + (I 235 6))) + 0)))) ∧ (I 236 (Int.toNat (wr ((wr (1228 + (I 235 6))) + 0)))) ≤ 255 := Pn_t (by omega) (hR.n (Int.toNat (wr ((wr (1228 + (I 235 6))) + 0))) (by omega))
      refine ⟨⟨15, (by decide), rfl⟩, ?_⟩
      refine Call_wp (lv := [some (vr 4121), some (vi 0)]) (by decide) ckJ0_charAt_5068e [] rfl rfl ?_
      refine ⟨⟨15, (by decide), rfl⟩, ?_⟩
      refine Call_wp (lv := [some (vr 4121)]) (by decide) ckJ0_isLatin1_aae02 [] rfl rfl ?_
      refine ⟨fun c => absurd c (show (¬ ((1 : Int) = 0)) from by decide), fun _ => ?_⟩
      refine ⟨15, (by decide), rfl, ?_⟩
      refine ⟨fun c => absurd (show ((0 : Int) = 0) from by decide) c, fun _ => ?_⟩
      refine ⟨rfl, (by decide), ?_⟩
      refine ⟨fun c => absurd c (show (¬ ((1 : Int) = 0)) from by decide), fun _ => ?_⟩
      refine ⟨15, (by decide), rfl, ?_⟩
      refine Call_wp (lv := [some (vr 4151), some (vi 0)]) (by decide) ckJ1_charAt_3b067 [] rfl rfl ?_
      refine Or.inr (Or.inr ⟨15, (by decide), rfl, ?_⟩)
      refine j_check (i := 0) (n := 1) (by omega) ?_
      refine ⟨15, (by decide), rfl, (by decide), (by decide), ?_⟩
      refine ⟨rfl, (by decide), ?_⟩
      refine ⟨rfl, (by decide), ?_⟩
      refine ⟨fun (c23 : (¬ ((I 236 (Int.toNat (wr ((wr (1228 + (I 235 6))) + 0)))) : Int) = 44)) => ?_, fun (c23 : (((I 236 (Int.toNat (wr ((wr (1228 + (I 235 6))) + 0)))) : Int) = 44)) => ?_⟩
      ·
        replace z19 : ¬ tt (I 235 6) = 44 := by omega
        refine ⟨fun _ => ?_, fun c => absurd (show ((0 : Int) = 0) from by decide) c⟩
        refine ⟨fun _ => ?_, fun c => absurd (show ((0 : Int) = 0) from by decide) c⟩
        have r24 : 0 ≤ (I 236 2) ∧ (I 236 2) ≤ 64 := Rg.n2 hR
        exact ⟨rfl, (by decide), fun hv hA' => hQ _ _ hR hA' (hv _ rfl) (fun _ _ _ => rfl) (show 0 = 1 → (I 235 6) + 1 ≤ (I 235 6) from fun z => absurd z (by decide)) (show (I 235 6) ≤ (I 235 7) from by first | with_reducible assumption | omega | (simp only [wr, wl] at *; omega)) (show (I 235 7) ≤ (I 236 2) from by first | with_reducible assumption | omega | (simp only [wr, wl] at *; omega)) (show (I 235 6) < (I 236 2) → (I 235 6) < (I 235 7) from by first | with_reducible assumption | omega | (simp only [wr, wl] at *; omega)) (show (I 235 6) ≤ (I 235 6) from Int.le_refl _) (show 0 = 1 → (I 235 8) = 0 ∧ ((I 235 7) - (I 235 6) = 1 ∧ tt (I 235 6) = 44) from fun z => absurd z (by decide)) (show 0 ≤ 0 ∧ 0 ≤ 1 from by decide) (show 0 = 0 → ¬ ((I 235 8) = 0 ∧ ((I 235 7) - (I 235 6) = 1 ∧ tt (I 235 6) = 44)) from by first | with_reducible assumption | omega | (simp only [wr, wl] at *; omega)) (show 0 = 0 → (I 235 6) = (I 235 6) ∧ (I 235 7) = (I 235 7) from fun _ => ⟨rfl, rfl⟩) (fun z => absurd z (by decide))⟩
      ·
        replace z19 : tt (I 235 6) = 44 := by omega
        refine ⟨fun c => absurd c (show (¬ ((1 : Int) = 0)) from by decide), fun _ => ?_⟩
        refine ⟨⟨15, (by decide), rfl⟩, ?_⟩
        refine Call_wp (lv := [some (vr 4121)]) (by decide) ckJ0_length_8abf5 [] rfl rfl ?_
        refine ⟨15, (by decide), rfl, ?_⟩
        refine Or.inr (Or.inr ⟨15, (by decide), rfl, ?_⟩)
        refine ⟨⟨15, (by decide), rfl⟩, ?_⟩
        refine Call_wp (lv := [some (vr 4121)]) (by decide) ckJ0_coder_7d493 [] rfl rfl ?_
        refine ⟨fun c => absurd c (show (¬ ((1 : Int) = 0)) from by decide), fun _ => ?_⟩
        refine ⟨15, (by decide), rfl, ?_⟩
        refine ⟨rfl, (by decide), ?_⟩
        refine ⟨rfl, ?_⟩
        refine ⟨fun _ => ?_, fun c => absurd (show ((1 : Int) ≤ 1) from by decide) c⟩
        refine ⟨fun c => absurd c (show (¬ ((1 : Int) = 0)) from by decide), fun _ => ?_⟩
        refine ⟨⟨_, rfl, (by decide)⟩, ?_⟩
        have r26 : 0 ≤ (I 236 2) ∧ (I 236 2) ≤ 64 := Rg.n2 hR
        refine r_goOn9  hF hR (hl) ht (show (I 235 7) ≤ (I 236 2) from by first | with_reducible assumption | omega | (simp only [wr, wl] at *; omega)) (fun I28 hR29 hA30 hW31 q32 q33 q34 q35 qr36 => ?_)
        have q32 : (I 235 7) ≤ (I28 235 6) := q32
        have q33 : (I28 235 6) ≤ (I28 235 7) := q33
        have q34 : (I28 235 7) ≤ (I 236 2) := q34
        have q35 : (I28 235 6) < (I 236 2) → (I28 235 6) < (I28 235 7) := q35
        have r37 : 0 ≤ (I28 235 6) ∧ (I28 235 6) ≤ 64 := Rg.f6 hR29
        have r39 : 0 ≤ (I28 235 7) ∧ (I28 235 7) ≤ 64 := Rg.f7 hR29
        exact ⟨rfl, (by decide), fun hv hA' => hQ _ _ hR29 hA' (hv _ rfl) (fun ka ja hk => (hW31 ka ja (by omega))) (show 1 = 1 → (I 235 6) + 1 ≤ (I28 235 6) from by first | with_reducible assumption | omega | (simp only [wr, wl] at *; omega)) (show (I28 235 6) ≤ (I28 235 7) from by first | with_reducible assumption | omega | (simp only [wr, wl] at *; omega)) (show (I28 235 7) ≤ (I 236 2) from by first | with_reducible assumption | omega | (simp only [wr, wl] at *; omega)) (show (I28 235 6) < (I 236 2) → (I28 235 6) < (I28 235 7) from by first | with_reducible assumption | omega | (simp only [wr, wl] at *; omega)) (show (I 235 6) ≤ (I28 235 6) from by first | with_reducible assumption | omega | (simp only [wr, wl] at *; omega)) (show 1 = 1 → (I 235 8) = 0 ∧ ((I 235 7) - (I 235 6) = 1 ∧ tt (I 235 6) = 44) from by first | with_reducible assumption | omega | (simp only [wr, wl] at *; omega)) (show 0 ≤ 1 ∧ 1 ≤ 1 from by decide) (show 1 = 0 → ¬ ((I 235 8) = 0 ∧ ((I 235 7) - (I 235 6) = 1 ∧ tt (I 235 6) = 44)) from fun z => absurd z (by decide)) (show 1 = 0 → (I28 235 6) = (I 235 6) ∧ (I28 235 7) = (I 235 7) from fun z => absurd z (by decide)) (fun _ => qr36)⟩
theorem r_tk9_15 (hF : FS F) (hR : Rg I) {tt : Int → Int} {nn : Int} (hl : I 236 2 = nn) (ht : TXT tt nn (fun j => I 236 (1228 + j))) (h1 : I 235 6 ≤ I 235 7) (h2 : I 235 7 ≤ I 236 2) (h3 : I 235 6 < I 236 2 → I 235 6 < I 235 7) (h1' : ∀ I' : pI, Rg I' → AR I' → (∀ k j, ¬ ((k = 235 ∧ (j = 6 ∨ j = 7))) → I' k j = I k j) → I 235 8 = 0 → mkW7 tt (I 235 6) (I 235 7) → I 235 7 - I 235 6 = 1 → I 235 6 + 1 ≤ I' 235 6 → I' 235 6 ≤ I' 235 7 → I' 235 7 ≤ I 236 2 → (I' 235 6 < I 236 2 → I' 235 6 < I' 235 7) → Tok tt nn (I 235 7) (I' 235 6) (I' 235 7) → Q (some (vi 1)) F I') (h0' : ¬ (I 235 8 = 0 ∧ mkW7 tt (I 235 6) (I 235 7)) → Q (some (vi 0)) F I) : CallN G (d + 4) kX12_takes [vr 235, vr 4121] NP F I Q := by
  refine r_takes9_15 hF hR hl ht h1 h2 h3 (fun r I' hR' hA' _ hW q1 q2 q3 q4 q5 q6 q7 q8 q9 qr => ?_)
  by_cases e : r = 1
  · rw [e]; exact h1' I' hR' hA' hW (q6 e).1 (q6 e).2 (q6 e).2.1 (q1 e) q2 q3 q4 (qr e)
  · have e0 : r = 0 := by omega
    have hI : I' = I := funext (fun k => funext (fun j => by
      by_cases c : k = 235 ∧ (j = 6 ∨ j = 7)
      · obtain ⟨rfl, c⟩ := c
        rcases c with rfl | rfl
        · exact (q9 e0).1
        · exact (q9 e0).2
      · exact hW k j c))
    rw [e0, hI]; exact h0' (q8 e0)
theorem r_takes9_16 (hF : FS F) (hR : Rg I) {tt : Int → Int} {nn : Int} (hl : I 236 2 = nn) (ht : TXT tt nn (fun j => I 236 (1228 + j))) (h1 : I 235 6 ≤ I 235 7) (h2 : I 235 7 ≤ I 236 2) (h3 : I 235 6 < I 236 2 → I 235 6 < I 235 7) (hQ : ∀ (r : Int) (I' : pI), Rg I' → AR I' → iR r → (∀ k j, ¬ ((k = 235 ∧ (j = 6 ∨ j = 7))) → I' k j = I k j) → (r = 1 → (I 235 6) + 1 ≤ (I' 235 6)) → ((I' 235 6) ≤ (I' 235 7)) → ((I' 235 7) ≤ (I 236 2)) → ((I' 235 6) < (I 236 2) → (I' 235 6) < (I' 235 7)) → ((I 235 6) ≤ (I' 235 6)) → (r = 1 → (I 235 8) = 0 ∧ ((I 235 7) - (I 235 6) = 1 ∧ tt (I 235 6) = 59)) → (0 ≤ r ∧ r ≤ 1) → (r = 0 → ¬ ((I 235 8) = 0 ∧ ((I 235 7) - (I 235 6) = 1 ∧ tt (I 235 6) = 59))) → (r = 0 → (I' 235 6) = (I 235 6) ∧ (I' 235 7) = (I 235 7)) → (r = 1 → Tok tt nn (I 235 7) (I' 235 6) (I' 235 7)) → Q (some (vi r)) F I') : CallN G (d + 4) kX12_takes [vr 235, vr 4122] NP F I Q := by
  refine CallN_in (fun hok hA => CallN_out ?_)
  have hn2 := ht.1
  have g2 := Rg.n2 hR
  refine Call_wp (lv := [some (vr 235), some (vr 4122), none, none]) (by decide) ckX12_takes [] rfl rfl ?_
  refine ⟨_, rfl, (by decide), ?_⟩
  have a1 : -2147483648 ≤ (I 235 8) ∧ (I 235 8) < 2147483648 := hA.1 _ _
  refine ⟨fun (c2 : (¬ ((I 235 8) : Int) = 0)) => ?_, fun (c2 : (((I 235 8) : Int) = 0)) => ?_⟩
  ·
    refine ⟨fun _ => ?_, fun c => absurd (show ((0 : Int) = 0) from by decide) c⟩
    refine ⟨fun _ => ?_, fun c => absurd (show ((0 : Int) = 0) from by decide) c⟩
    have r3 : 0 ≤ (I 235 6) ∧ (I 235 6) ≤ 64 := Rg.f6 hR
    have r5 : 0 ≤ (I 235 7) ∧ (I 235 7) ≤ 64 := Rg.f7 hR
    have r7 : 0 ≤ (I 236 2) ∧ (I 236 2) ≤ 64 := Rg.n2 hR
    exact ⟨rfl, (by decide), fun hv hA' => hQ _ _ hR hA' (hv _ rfl) (fun _ _ _ => rfl) (show 0 = 1 → (I 235 6) + 1 ≤ (I 235 6) from fun z => absurd z (by decide)) (show (I 235 6) ≤ (I 235 7) from by first | with_reducible assumption | omega | (simp only [wr, wl] at *; omega)) (show (I 235 7) ≤ (I 236 2) from by first | with_reducible assumption | omega | (simp only [wr, wl] at *; omega)) (show (I 235 6) < (I 236 2) → (I 235 6) < (I 235 7) from by first | with_reducible assumption | omega | (simp only [wr, wl] at *; omega)) (show (I 235 6) ≤ (I 235 6) from Int.le_refl _) (show 0 = 1 → (I 235 8) = 0 ∧ ((I 235 7) - (I 235 6) = 1 ∧ tt (I 235 6) = 59) from fun z => absurd z (by decide)) (show 0 ≤ 0 ∧ 0 ≤ 1 from by decide) (show 0 = 0 → ¬ ((I 235 8) = 0 ∧ ((I 235 7) - (I 235 6) = 1 ∧ tt (I 235 6) = 59)) from by first | with_reducible assumption | omega | (simp only [wr, wl] at *; omega)) (show 0 = 0 → (I 235 6) = (I 235 6) ∧ (I 235 7) = (I 235 7) from fun _ => ⟨rfl, rfl⟩) (fun z => absurd z (by decide))⟩
  ·
    refine ⟨_, rfl, (by decide), ?_⟩
    have r9 : 0 ≤ (I 235 7) ∧ (I 235 7) ≤ 64 := Rg.f7 hR
    refine ⟨_, rfl, (by decide), ?_⟩
    have r10 : 0 ≤ (I 235 6) ∧ (I 235 6) ≤ 64 := Rg.f6 hR
    refine ⟨⟨16, (by decide), rfl⟩, ?_⟩
    refine Call_wp (lv := [some (vr 4122)]) (by decide) ckJ0_length_8abf5 [] rfl rfl ?_
    refine ⟨16, (by decide), rfl, ?_⟩
    refine Or.inr (Or.inr ⟨16, (by decide), rfl, ?_⟩)
    refine ⟨⟨16, (by decide), rfl⟩, ?_⟩
    refine Call_wp (lv := [some (vr 4122)]) (by decide) ckJ0_coder_7d493 [] rfl rfl ?_
    refine ⟨fun c => absurd c (show (¬ ((1 : Int) = 0)) from by decide), fun _ => ?_⟩
    refine ⟨16, (by decide), rfl, ?_⟩
    refine ⟨rfl, (by decide), ?_⟩
    refine ⟨rfl, ?_⟩
    have n13 : (wr ((I 235 7) - (I 235 6))) = (I 235 7) - (I 235 6) := wr_id (show -2147483648 ≤ ((I 235 7) - (I 235 6) : Int) ∧ ((I 235 7) - (I 235 6) : Int) < 2147483648 from by omega)
    refine ⟨fun (c14 : (¬ ((wr ((I 235 7) - (I 235 6))) : Int) = 1)) => ?_, fun (c14 : (((wr ((I 235 7) - (I 235 6))) : Int) = 1)) => ?_⟩
    ·
      refine ⟨fun _ => ?_, fun c => absurd (show ((0 : Int) = 0) from by decide) c⟩
      refine ⟨fun _ => ?_, fun c => absurd (show ((0 : Int) = 0) from by decide) c⟩
      have r15 : 0 ≤ (I 236 2) ∧ (I 236 2) ≤ 64 := Rg.n2 hR
      exact ⟨rfl, (by decide), fun hv hA' => hQ _ _ hR hA' (hv _ rfl) (fun _ _ _ => rfl) (show 0 = 1 → (I 235 6) + 1 ≤ (I 235 6) from fun z => absurd z (by decide)) (show (I 235 6) ≤ (I 235 7) from by first | with_reducible assumption | omega | (simp only [wr, wl] at *; omega)) (show (I 235 7) ≤ (I 236 2) from by first | with_reducible assumption | omega | (simp only [wr, wl] at *; omega)) (show (I 235 6) < (I 236 2) → (I 235 6) < (I 235 7) from by first | with_reducible assumption | omega | (simp only [wr, wl] at *; omega)) (show (I 235 6) ≤ (I 235 6) from Int.le_refl _) (show 0 = 1 → (I 235 8) = 0 ∧ ((I 235 7) - (I 235 6) = 1 ∧ tt (I 235 6) = 59) from fun z => absurd z (by decide)) (show 0 ≤ 0 ∧ 0 ≤ 1 from by decide) (show 0 = 0 → ¬ ((I 235 8) = 0 ∧ ((I 235 7) - (I 235 6) = 1 ∧ tt (I 235 6) = 59)) from by first | with_reducible assumption | omega | (simp only [wr, wl] at *; omega)) (show 0 = 0 → (I 235 6) = (I 235 6) ∧ (I 235 7) = (I 235 7) from fun _ => ⟨rfl, rfl⟩) (fun z => absurd z (by decide))⟩
    ·
      refine ⟨fun c => absurd c (show (¬ ((1 : Int) = 0)) from by decide), fun _ => ?_⟩
      refine ⟨⟨16, (by decide), rfl⟩, ?_⟩
      refine Call_wp (lv := [some (vr 4122)]) (by decide) ckJ0_length_8abf5 [] rfl rfl ?_
      refine ⟨16, (by decide), rfl, ?_⟩
      refine Or.inr (Or.inr ⟨16, (by decide), rfl, ?_⟩)
      refine ⟨⟨16, (by decide), rfl⟩, ?_⟩
      refine Call_wp (lv := [some (vr 4122)]) (by decide) ckJ0_coder_7d493 [] rfl rfl ?_
      refine ⟨fun c => absurd c (show (¬ ((1 : Int) = 0)) from by decide), fun _ => ?_⟩
      refine ⟨16, (by decide), rfl, ?_⟩
      refine ⟨rfl, (by decide), ?_⟩
      refine ⟨rfl, ?_⟩
      refine ⟨fun c => absurd c (show (¬ ((1 : Int) ≤ 0)) from by decide), fun _ => ?_⟩
      refine ⟨_, rfl, (by decide), ?_⟩
      refine fun w0 hw0 => ?_; obtain rfl : w0 = some 236 := hw0.symm.trans (FS.g hF rfl)
      refine ⟨_, rfl, (by decide), ?_⟩
      have n17 : (wr (1228 + (I 235 6))) = 1228 + (I 235 6) := wr_id (show -2147483648 ≤ (1228 + (I 235 6) : Int) ∧ (1228 + (I 235 6) : Int) < 2147483648 from by omega)
      have n18 : (wr ((wr (1228 + (I 235 6))) + 0)) = (wr (1228 + (I 235 6))) + 0 := wr_id (show -2147483648 ≤ ((wr (1228 + (I 235 6))) + 0 : Int) ∧ ((wr (1228 + (I 235 6))) + 0 : Int) < 2147483648 from by omega)
      refine ⟨_, rfl, (by decide), (show (0 : Int) ≤ (wr ((wr (1228 + (I 235 6))) + 0)) from by first | with_reducible assumption | omega | (simp only [wr, wl] at *; omega)), (show (wr ((wr (1228 + (I 235 6))) + 0)) < (1340 : Int) from by first | with_reducible assumption | omega | (simp only [wr, wl] at *; omega)), ?_⟩
      have z19 := TXT_b ht (I 235 6)
      have z20 : (I 236 (Int.toNat (wr ((wr (1228 + (I 235 6))) + 0)))) = (I 236 (1228 + Int.toNat (I 235 6))) := congrArg (I 236) (by omega)
      have r21 : 0 ≤ (I 236 (Int.toNat (wr ((wr (1228 + (I 235 6))) + 0)))) ∧ (I 236 (Int.toNat (wr ((wr (1228 + (I 235 6))) + 0)))) ≤ 255 := Pn_t (by omega) (hR.n (Int.toNat (wr ((wr (1228 + (I 235 6))) + 0))) (by omega))
      refine ⟨⟨16, (by decide), rfl⟩, ?_⟩
      refine Call_wp (lv := [some (vr 4122), some (vi 0)]) (by decide) ckJ0_charAt_5068e [] rfl rfl ?_
      refine ⟨⟨16, (by decide), rfl⟩, ?_⟩
      refine Call_wp (lv := [some (vr 4122)]) (by decide) ckJ0_isLatin1_aae02 [] rfl rfl ?_
      refine ⟨fun c => absurd c (show (¬ ((1 : Int) = 0)) from by decide), fun _ => ?_⟩
      refine ⟨16, (by decide), rfl, ?_⟩
      refine ⟨fun c => absurd (show ((0 : Int) = 0) from by decide) c, fun _ => ?_⟩
      refine ⟨rfl, (by decide), ?_⟩
      refine ⟨fun c => absurd c (show (¬ ((1 : Int) = 0)) from by decide), fun _ => ?_⟩
      refine ⟨16, (by decide), rfl, ?_⟩
      refine Call_wp (lv := [some (vr 4152), some (vi 0)]) (by decide) ckJ1_charAt_3b067 [] rfl rfl ?_
      refine Or.inr (Or.inr ⟨16, (by decide), rfl, ?_⟩)
      refine j_check (i := 0) (n := 1) (by omega) ?_
      refine ⟨16, (by decide), rfl, (by decide), (by decide), ?_⟩
      refine ⟨rfl, (by decide), ?_⟩
      refine ⟨rfl, (by decide), ?_⟩
      refine ⟨fun (c23 : (¬ ((I 236 (Int.toNat (wr ((wr (1228 + (I 235 6))) + 0)))) : Int) = 59)) => ?_, fun (c23 : (((I 236 (Int.toNat (wr ((wr (1228 + (I 235 6))) + 0)))) : Int) = 59)) => ?_⟩
      ·
        replace z19 : ¬ tt (I 235 6) = 59 := by omega
        refine ⟨fun _ => ?_, fun c => absurd (show ((0 : Int) = 0) from by decide) c⟩
        refine ⟨fun _ => ?_, fun c => absurd (show ((0 : Int) = 0) from by decide) c⟩
        have r24 : 0 ≤ (I 236 2) ∧ (I 236 2) ≤ 64 := Rg.n2 hR
        exact ⟨rfl, (by decide), fun hv hA' => hQ _ _ hR hA' (hv _ rfl) (fun _ _ _ => rfl) (show 0 = 1 → (I 235 6) + 1 ≤ (I 235 6) from fun z => absurd z (by decide)) (show (I 235 6) ≤ (I 235 7) from by first | with_reducible assumption | omega | (simp only [wr, wl] at *; omega)) (show (I 235 7) ≤ (I 236 2) from by first | with_reducible assumption | omega | (simp only [wr, wl] at *; omega)) (show (I 235 6) < (I 236 2) → (I 235 6) < (I 235 7) from by first | with_reducible assumption | omega | (simp only [wr, wl] at *; omega)) (show (I 235 6) ≤ (I 235 6) from Int.le_refl _) (show 0 = 1 → (I 235 8) = 0 ∧ ((I 235 7) - (I 235 6) = 1 ∧ tt (I 235 6) = 59) from fun z => absurd z (by decide)) (show 0 ≤ 0 ∧ 0 ≤ 1 from by decide) (show 0 = 0 → ¬ ((I 235 8) = 0 ∧ ((I 235 7) - (I 235 6) = 1 ∧ tt (I 235 6) = 59)) from by first | with_reducible assumption | omega | (simp only [wr, wl] at *; omega)) (show 0 = 0 → (I 235 6) = (I 235 6) ∧ (I 235 7) = (I 235 7) from fun _ => ⟨rfl, rfl⟩) (fun z => absurd z (by decide))⟩
      ·
        replace z19 : tt (I 235 6) = 59 := by omega
        refine ⟨fun c => absurd c (show (¬ ((1 : Int) = 0)) from by decide), fun _ => ?_⟩
        refine ⟨⟨16, (by decide), rfl⟩, ?_⟩
        refine Call_wp (lv := [some (vr 4122)]) (by decide) ckJ0_length_8abf5 [] rfl rfl ?_
        refine ⟨16, (by decide), rfl, ?_⟩
        refine Or.inr (Or.inr ⟨16, (by decide), rfl, ?_⟩)
        refine ⟨⟨16, (by decide), rfl⟩, ?_⟩
        refine Call_wp (lv := [some (vr 4122)]) (by decide) ckJ0_coder_7d493 [] rfl rfl ?_
        refine ⟨fun c => absurd c (show (¬ ((1 : Int) = 0)) from by decide), fun _ => ?_⟩
        refine ⟨16, (by decide), rfl, ?_⟩
        refine ⟨rfl, (by decide), ?_⟩
        refine ⟨rfl, ?_⟩
        refine ⟨fun _ => ?_, fun c => absurd (show ((1 : Int) ≤ 1) from by decide) c⟩
        refine ⟨fun c => absurd c (show (¬ ((1 : Int) = 0)) from by decide), fun _ => ?_⟩
        refine ⟨⟨_, rfl, (by decide)⟩, ?_⟩
        have r26 : 0 ≤ (I 236 2) ∧ (I 236 2) ≤ 64 := Rg.n2 hR
        refine r_goOn9  hF hR (hl) ht (show (I 235 7) ≤ (I 236 2) from by first | with_reducible assumption | omega | (simp only [wr, wl] at *; omega)) (fun I28 hR29 hA30 hW31 q32 q33 q34 q35 qr36 => ?_)
        have q32 : (I 235 7) ≤ (I28 235 6) := q32
        have q33 : (I28 235 6) ≤ (I28 235 7) := q33
        have q34 : (I28 235 7) ≤ (I 236 2) := q34
        have q35 : (I28 235 6) < (I 236 2) → (I28 235 6) < (I28 235 7) := q35
        have r37 : 0 ≤ (I28 235 6) ∧ (I28 235 6) ≤ 64 := Rg.f6 hR29
        have r39 : 0 ≤ (I28 235 7) ∧ (I28 235 7) ≤ 64 := Rg.f7 hR29
        exact ⟨rfl, (by decide), fun hv hA' => hQ _ _ hR29 hA' (hv _ rfl) (fun ka ja hk => (hW31 ka ja (by omega))) (show 1 = 1 → (I 235 6) + 1 ≤ (I28 235 6) from by first | with_reducible assumption | omega | (simp only [wr, wl] at *; omega)) (show (I28 235 6) ≤ (I28 235 7) from by first | with_reducible assumption | omega | (simp only [wr, wl] at *; omega)) (show (I28 235 7) ≤ (I 236 2) from by first | with_reducible assumption | omega | (simp only [wr, wl] at *; omega)) (show (I28 235 6) < (I 236 2) → (I28 235 6) < (I28 235 7) from by first | with_reducible assumption | omega | (simp only [wr, wl] at *; omega)) (show (I 235 6) ≤ (I28 235 6) from by first | with_reducible assumption | omega | (simp only [wr, wl] at *; omega)) (show 1 = 1 → (I 235 8) = 0 ∧ ((I 235 7) - (I 235 6) = 1 ∧ tt (I 235 6) = 59) from by first | with_reducible assumption | omega | (simp only [wr, wl] at *; omega)) (show 0 ≤ 1 ∧ 1 ≤ 1 from by decide) (show 1 = 0 → ¬ ((I 235 8) = 0 ∧ ((I 235 7) - (I 235 6) = 1 ∧ tt (I 235 6) = 59)) from fun z => absurd z (by decide)) (show 1 = 0 → (I28 235 6) = (I 235 6) ∧ (I28 235 7) = (I 235 7) from fun z => absurd z (by decide)) (fun _ => qr36)⟩
theorem r_tk9_16 (hF : FS F) (hR : Rg I) {tt : Int → Int} {nn : Int} (hl : I 236 2 = nn) (ht : TXT tt nn (fun j => I 236 (1228 + j))) (h1 : I 235 6 ≤ I 235 7) (h2 : I 235 7 ≤ I 236 2) (h3 : I 235 6 < I 236 2 → I 235 6 < I 235 7) (h1' : ∀ I' : pI, Rg I' → AR I' → (∀ k j, ¬ ((k = 235 ∧ (j = 6 ∨ j = 7))) → I' k j = I k j) → I 235 8 = 0 → mkW8 tt (I 235 6) (I 235 7) → I 235 7 - I 235 6 = 1 → I 235 6 + 1 ≤ I' 235 6 → I' 235 6 ≤ I' 235 7 → I' 235 7 ≤ I 236 2 → (I' 235 6 < I 236 2 → I' 235 6 < I' 235 7) → Tok tt nn (I 235 7) (I' 235 6) (I' 235 7) → Q (some (vi 1)) F I') (h0' : ¬ (I 235 8 = 0 ∧ mkW8 tt (I 235 6) (I 235 7)) → Q (some (vi 0)) F I) : CallN G (d + 4) kX12_takes [vr 235, vr 4122] NP F I Q := by
  refine r_takes9_16 hF hR hl ht h1 h2 h3 (fun r I' hR' hA' _ hW q1 q2 q3 q4 q5 q6 q7 q8 q9 qr => ?_)
  by_cases e : r = 1
  · rw [e]; exact h1' I' hR' hA' hW (q6 e).1 (q6 e).2 (q6 e).2.1 (q1 e) q2 q3 q4 (qr e)
  · have e0 : r = 0 := by omega
    have hI : I' = I := funext (fun k => funext (fun j => by
      by_cases c : k = 235 ∧ (j = 6 ∨ j = 7)
      · obtain ⟨rfl, c⟩ := c
        rcases c with rfl | rfl
        · exact (q9 e0).1
        · exact (q9 e0).2
      · exact hW k j c))
    rw [e0, hI]; exact h0' (q8 e0)
theorem r_takes9_17 (hF : FS F) (hR : Rg I) {tt : Int → Int} {nn : Int} (hl : I 236 2 = nn) (ht : TXT tt nn (fun j => I 236 (1228 + j))) (h1 : I 235 6 ≤ I 235 7) (h2 : I 235 7 ≤ I 236 2) (h3 : I 235 6 < I 236 2 → I 235 6 < I 235 7) (hQ : ∀ (r : Int) (I' : pI), Rg I' → AR I' → iR r → (∀ k j, ¬ ((k = 235 ∧ (j = 6 ∨ j = 7))) → I' k j = I k j) → (r = 1 → (I 235 6) + 4 ≤ (I' 235 6)) → ((I' 235 6) ≤ (I' 235 7)) → ((I' 235 7) ≤ (I 236 2)) → ((I' 235 6) < (I 236 2) → (I' 235 6) < (I' 235 7)) → ((I 235 6) ≤ (I' 235 6)) → (r = 1 → (I 235 8) = 0 ∧ ((I 235 7) - (I 235 6) = 4 ∧ tt (I 235 6) = 108 ∧ tt ((I 235 6) + 1) = 97 ∧ tt ((I 235 6) + 2) = 115 ∧ tt ((I 235 6) + 3) = 116)) → (0 ≤ r ∧ r ≤ 1) → (r = 0 → ¬ ((I 235 8) = 0 ∧ ((I 235 7) - (I 235 6) = 4 ∧ tt (I 235 6) = 108 ∧ tt ((I 235 6) + 1) = 97 ∧ tt ((I 235 6) + 2) = 115 ∧ tt ((I 235 6) + 3) = 116))) → (r = 0 → (I' 235 6) = (I 235 6) ∧ (I' 235 7) = (I 235 7)) → (r = 1 → Tok tt nn (I 235 7) (I' 235 6) (I' 235 7)) → Q (some (vi r)) F I') : CallN G (d + 4) kX12_takes [vr 235, vr 4123] NP F I Q := by
  refine CallN_in (fun hok hA => CallN_out ?_)
  have hn2 := ht.1
  have g2 := Rg.n2 hR
  refine Call_wp (lv := [some (vr 235), some (vr 4123), none, none]) (by decide) ckX12_takes [] rfl rfl ?_
  refine ⟨_, rfl, (by decide), ?_⟩
  have a1 : -2147483648 ≤ (I 235 8) ∧ (I 235 8) < 2147483648 := hA.1 _ _
  refine ⟨fun (c2 : (¬ ((I 235 8) : Int) = 0)) => ?_, fun (c2 : (((I 235 8) : Int) = 0)) => ?_⟩
  ·
    refine ⟨fun _ => ?_, fun c => absurd (show ((0 : Int) = 0) from by decide) c⟩
    refine ⟨fun _ => ?_, fun c => absurd (show ((0 : Int) = 0) from by decide) c⟩
    have r3 : 0 ≤ (I 235 6) ∧ (I 235 6) ≤ 64 := Rg.f6 hR
    have r5 : 0 ≤ (I 235 7) ∧ (I 235 7) ≤ 64 := Rg.f7 hR
    have r7 : 0 ≤ (I 236 2) ∧ (I 236 2) ≤ 64 := Rg.n2 hR
    exact ⟨rfl, (by decide), fun hv hA' => hQ _ _ hR hA' (hv _ rfl) (fun _ _ _ => rfl) (show 0 = 1 → (I 235 6) + 4 ≤ (I 235 6) from fun z => absurd z (by decide)) (show (I 235 6) ≤ (I 235 7) from by first | with_reducible assumption | omega | (simp only [wr, wl] at *; omega)) (show (I 235 7) ≤ (I 236 2) from by first | with_reducible assumption | omega | (simp only [wr, wl] at *; omega)) (show (I 235 6) < (I 236 2) → (I 235 6) < (I 235 7) from by first | with_reducible assumption | omega | (simp only [wr, wl] at *; omega)) (show (I 235 6) ≤ (I 235 6) from Int.le_refl _) (show 0 = 1 → (I 235 8) = 0 ∧ ((I 235 7) - (I 235 6) = 4 ∧ tt (I 235 6) = 108 ∧ tt ((I 235 6) + 1) = 97 ∧ tt ((I 235 6) + 2) = 115 ∧ tt ((I 235 6) + 3) = 116) from fun z => absurd z (by decide)) (show 0 ≤ 0 ∧ 0 ≤ 1 from by decide) (show 0 = 0 → ¬ ((I 235 8) = 0 ∧ ((I 235 7) - (I 235 6) = 4 ∧ tt (I 235 6) = 108 ∧ tt ((I 235 6) + 1) = 97 ∧ tt ((I 235 6) + 2) = 115 ∧ tt ((I 235 6) + 3) = 116)) from by first | omega | (simp only [wr, wl] at *; omega)) (show 0 = 0 → (I 235 6) = (I 235 6) ∧ (I 235 7) = (I 235 7) from fun _ => ⟨rfl, rfl⟩) (fun z => absurd z (by decide))⟩
  ·
    refine ⟨_, rfl, (by decide), ?_⟩
    have r9 : 0 ≤ (I 235 7) ∧ (I 235 7) ≤ 64 := Rg.f7 hR
    refine ⟨_, rfl, (by decide), ?_⟩
    have r10 : 0 ≤ (I 235 6) ∧ (I 235 6) ≤ 64 := Rg.f6 hR
    refine ⟨⟨17, (by decide), rfl⟩, ?_⟩
    refine Call_wp (lv := [some (vr 4123)]) (by decide) ckJ0_length_8abf5 [] rfl rfl ?_
    refine ⟨17, (by decide), rfl, ?_⟩
    refine Or.inr (Or.inr ⟨17, (by decide), rfl, ?_⟩)
    refine ⟨⟨17, (by decide), rfl⟩, ?_⟩
    refine Call_wp (lv := [some (vr 4123)]) (by decide) ckJ0_coder_7d493 [] rfl rfl ?_
    refine ⟨fun c => absurd c (show (¬ ((1 : Int) = 0)) from by decide), fun _ => ?_⟩
    refine ⟨17, (by decide), rfl, ?_⟩
    refine ⟨rfl, (by decide), ?_⟩
    refine ⟨rfl, ?_⟩
    have n13 : (wr ((I 235 7) - (I 235 6))) = (I 235 7) - (I 235 6) := wr_id (show -2147483648 ≤ ((I 235 7) - (I 235 6) : Int) ∧ ((I 235 7) - (I 235 6) : Int) < 2147483648 from by omega)
    refine ⟨fun (c14 : (¬ ((wr ((I 235 7) - (I 235 6))) : Int) = 4)) => ?_, fun (c14 : (((wr ((I 235 7) - (I 235 6))) : Int) = 4)) => ?_⟩
    ·
      refine ⟨fun _ => ?_, fun c => absurd (show ((0 : Int) = 0) from by decide) c⟩
      refine ⟨fun _ => ?_, fun c => absurd (show ((0 : Int) = 0) from by decide) c⟩
      have r15 : 0 ≤ (I 236 2) ∧ (I 236 2) ≤ 64 := Rg.n2 hR
      exact ⟨rfl, (by decide), fun hv hA' => hQ _ _ hR hA' (hv _ rfl) (fun _ _ _ => rfl) (show 0 = 1 → (I 235 6) + 4 ≤ (I 235 6) from fun z => absurd z (by decide)) (show (I 235 6) ≤ (I 235 7) from by first | with_reducible assumption | omega | (simp only [wr, wl] at *; omega)) (show (I 235 7) ≤ (I 236 2) from by first | with_reducible assumption | omega | (simp only [wr, wl] at *; omega)) (show (I 235 6) < (I 236 2) → (I 235 6) < (I 235 7) from by first | with_reducible assumption | omega | (simp only [wr, wl] at *; omega)) (show (I 235 6) ≤ (I 235 6) from Int.le_refl _) (show 0 = 1 → (I 235 8) = 0 ∧ ((I 235 7) - (I 235 6) = 4 ∧ tt (I 235 6) = 108 ∧ tt ((I 235 6) + 1) = 97 ∧ tt ((I 235 6) + 2) = 115 ∧ tt ((I 235 6) + 3) = 116) from fun z => absurd z (by decide)) (show 0 ≤ 0 ∧ 0 ≤ 1 from by decide) (show 0 = 0 → ¬ ((I 235 8) = 0 ∧ ((I 235 7) - (I 235 6) = 4 ∧ tt (I 235 6) = 108 ∧ tt ((I 235 6) + 1) = 97 ∧ tt ((I 235 6) + 2) = 115 ∧ tt ((I 235 6) + 3) = 116)) from by first | omega | (simp only [wr, wl] at *; omega)) (show 0 = 0 → (I 235 6) = (I 235 6) ∧ (I 235 7) = (I 235 7) from fun _ => ⟨rfl, rfl⟩) (fun z => absurd z (by decide))⟩
    ·
      refine ⟨fun c => absurd c (show (¬ ((1 : Int) = 0)) from by decide), fun _ => ?_⟩
      refine ⟨⟨17, (by decide), rfl⟩, ?_⟩
      refine Call_wp (lv := [some (vr 4123)]) (by decide) ckJ0_length_8abf5 [] rfl rfl ?_
      refine ⟨17, (by decide), rfl, ?_⟩
      refine Or.inr (Or.inr ⟨17, (by decide), rfl, ?_⟩)
      refine ⟨⟨17, (by decide), rfl⟩, ?_⟩
      refine Call_wp (lv := [some (vr 4123)]) (by decide) ckJ0_coder_7d493 [] rfl rfl ?_
      refine ⟨fun c => absurd c (show (¬ ((1 : Int) = 0)) from by decide), fun _ => ?_⟩
      refine ⟨17, (by decide), rfl, ?_⟩
      refine ⟨rfl, (by decide), ?_⟩
      refine ⟨rfl, ?_⟩
      refine ⟨fun c => absurd c (show (¬ ((4 : Int) ≤ 0)) from by decide), fun _ => ?_⟩
      refine ⟨_, rfl, (by decide), ?_⟩
      refine fun w0 hw0 => ?_; obtain rfl : w0 = some 236 := hw0.symm.trans (FS.g hF rfl)
      refine ⟨_, rfl, (by decide), ?_⟩
      have n17 : (wr (1228 + (I 235 6))) = 1228 + (I 235 6) := wr_id (show -2147483648 ≤ (1228 + (I 235 6) : Int) ∧ (1228 + (I 235 6) : Int) < 2147483648 from by omega)
      have n18 : (wr ((wr (1228 + (I 235 6))) + 0)) = (wr (1228 + (I 235 6))) + 0 := wr_id (show -2147483648 ≤ ((wr (1228 + (I 235 6))) + 0 : Int) ∧ ((wr (1228 + (I 235 6))) + 0 : Int) < 2147483648 from by omega)
      refine ⟨_, rfl, (by decide), (show (0 : Int) ≤ (wr ((wr (1228 + (I 235 6))) + 0)) from by first | with_reducible assumption | omega | (simp only [wr, wl] at *; omega)), (show (wr ((wr (1228 + (I 235 6))) + 0)) < (1340 : Int) from by first | with_reducible assumption | omega | (simp only [wr, wl] at *; omega)), ?_⟩
      have z19 := TXT_b ht (I 235 6)
      have z20 : (I 236 (Int.toNat (wr ((wr (1228 + (I 235 6))) + 0)))) = (I 236 (1228 + Int.toNat (I 235 6))) := congrArg (I 236) (by omega)
      have r21 : 0 ≤ (I 236 (Int.toNat (wr ((wr (1228 + (I 235 6))) + 0)))) ∧ (I 236 (Int.toNat (wr ((wr (1228 + (I 235 6))) + 0)))) ≤ 255 := Pn_t (by omega) (hR.n (Int.toNat (wr ((wr (1228 + (I 235 6))) + 0))) (by omega))
      refine ⟨⟨17, (by decide), rfl⟩, ?_⟩
      refine Call_wp (lv := [some (vr 4123), some (vi 0)]) (by decide) ckJ0_charAt_5068e [] rfl rfl ?_
      refine ⟨⟨17, (by decide), rfl⟩, ?_⟩
      refine Call_wp (lv := [some (vr 4123)]) (by decide) ckJ0_isLatin1_aae02 [] rfl rfl ?_
      refine ⟨fun c => absurd c (show (¬ ((1 : Int) = 0)) from by decide), fun _ => ?_⟩
      refine ⟨17, (by decide), rfl, ?_⟩
      refine ⟨fun c => absurd (show ((0 : Int) = 0) from by decide) c, fun _ => ?_⟩
      refine ⟨rfl, (by decide), ?_⟩
      refine ⟨fun c => absurd c (show (¬ ((1 : Int) = 0)) from by decide), fun _ => ?_⟩
      refine ⟨17, (by decide), rfl, ?_⟩
      refine Call_wp (lv := [some (vr 4153), some (vi 0)]) (by decide) ckJ1_charAt_3b067 [] rfl rfl ?_
      refine Or.inr (Or.inr ⟨17, (by decide), rfl, ?_⟩)
      refine j_check (i := 0) (n := 4) (by omega) ?_
      refine ⟨17, (by decide), rfl, (by decide), (by decide), ?_⟩
      refine ⟨rfl, (by decide), ?_⟩
      refine ⟨rfl, (by decide), ?_⟩
      refine ⟨fun (c23 : (¬ ((I 236 (Int.toNat (wr ((wr (1228 + (I 235 6))) + 0)))) : Int) = 108)) => ?_, fun (c23 : (((I 236 (Int.toNat (wr ((wr (1228 + (I 235 6))) + 0)))) : Int) = 108)) => ?_⟩
      ·
        replace z19 : ¬ tt (I 235 6) = 108 := by omega
        refine ⟨fun _ => ?_, fun c => absurd (show ((0 : Int) = 0) from by decide) c⟩
        refine ⟨fun _ => ?_, fun c => absurd (show ((0 : Int) = 0) from by decide) c⟩
        have r24 : 0 ≤ (I 236 2) ∧ (I 236 2) ≤ 64 := Rg.n2 hR
        exact ⟨rfl, (by decide), fun hv hA' => hQ _ _ hR hA' (hv _ rfl) (fun _ _ _ => rfl) (show 0 = 1 → (I 235 6) + 4 ≤ (I 235 6) from fun z => absurd z (by decide)) (show (I 235 6) ≤ (I 235 7) from by first | with_reducible assumption | omega | (simp only [wr, wl] at *; omega)) (show (I 235 7) ≤ (I 236 2) from by first | with_reducible assumption | omega | (simp only [wr, wl] at *; omega)) (show (I 235 6) < (I 236 2) → (I 235 6) < (I 235 7) from by first | with_reducible assumption | omega | (simp only [wr, wl] at *; omega)) (show (I 235 6) ≤ (I 235 6) from Int.le_refl _) (show 0 = 1 → (I 235 8) = 0 ∧ ((I 235 7) - (I 235 6) = 4 ∧ tt (I 235 6) = 108 ∧ tt ((I 235 6) + 1) = 97 ∧ tt ((I 235 6) + 2) = 115 ∧ tt ((I 235 6) + 3) = 116) from fun z => absurd z (by decide)) (show 0 ≤ 0 ∧ 0 ≤ 1 from by decide) (show 0 = 0 → ¬ ((I 235 8) = 0 ∧ ((I 235 7) - (I 235 6) = 4 ∧ tt (I 235 6) = 108 ∧ tt ((I 235 6) + 1) = 97 ∧ tt ((I 235 6) + 2) = 115 ∧ tt ((I 235 6) + 3) = 116)) from by first | omega | (simp only [wr, wl] at *; omega)) (show 0 = 0 → (I 235 6) = (I 235 6) ∧ (I 235 7) = (I 235 7) from fun _ => ⟨rfl, rfl⟩) (fun z => absurd z (by decide))⟩
      ·
        replace z19 : tt (I 235 6) = 108 := by omega
        refine ⟨fun c => absurd c (show (¬ ((1 : Int) = 0)) from by decide), fun _ => ?_⟩
        refine ⟨⟨17, (by decide), rfl⟩, ?_⟩
        refine Call_wp (lv := [some (vr 4123)]) (by decide) ckJ0_length_8abf5 [] rfl rfl ?_
        refine ⟨17, (by decide), rfl, ?_⟩
        refine Or.inr (Or.inr ⟨17, (by decide), rfl, ?_⟩)
        refine ⟨⟨17, (by decide), rfl⟩, ?_⟩
        refine Call_wp (lv := [some (vr 4123)]) (by decide) ckJ0_coder_7d493 [] rfl rfl ?_
        refine ⟨fun c => absurd c (show (¬ ((1 : Int) = 0)) from by decide), fun _ => ?_⟩
        refine ⟨17, (by decide), rfl, ?_⟩
        refine ⟨rfl, (by decide), ?_⟩
        refine ⟨rfl, ?_⟩
        refine ⟨fun c => absurd c (show (¬ ((4 : Int) ≤ 1)) from by decide), fun _ => ?_⟩
        refine ⟨_, rfl, (by decide), ?_⟩
        refine fun w0 hw0 => ?_; obtain rfl : w0 = some 236 := hw0.symm.trans (FS.g hF rfl)
        refine ⟨_, rfl, (by decide), ?_⟩
        have n26 : (wr ((wr (1228 + (I 235 6))) + 1)) = (wr (1228 + (I 235 6))) + 1 := wr_id (show -2147483648 ≤ ((wr (1228 + (I 235 6))) + 1 : Int) ∧ ((wr (1228 + (I 235 6))) + 1 : Int) < 2147483648 from by omega)
        refine ⟨_, rfl, (by decide), (show (0 : Int) ≤ (wr ((wr (1228 + (I 235 6))) + 1)) from by first | with_reducible assumption | omega | (simp only [wr, wl] at *; omega)), (show (wr ((wr (1228 + (I 235 6))) + 1)) < (1340 : Int) from by first | with_reducible assumption | omega | (simp only [wr, wl] at *; omega)), ?_⟩
        have z27 := TXT_b ht ((I 235 6) + 1)
        have z28 : (I 236 (Int.toNat (wr ((wr (1228 + (I 235 6))) + 1)))) = (I 236 (1228 + Int.toNat ((I 235 6) + 1))) := congrArg (I 236) (by omega)
        refine ⟨⟨17, (by decide), rfl⟩, ?_⟩
        refine Call_wp (lv := [some (vr 4123), some (vi 1)]) (by decide) ckJ0_charAt_5068e [] rfl rfl ?_
        refine ⟨⟨17, (by decide), rfl⟩, ?_⟩
        refine Call_wp (lv := [some (vr 4123)]) (by decide) ckJ0_isLatin1_aae02 [] rfl rfl ?_
        refine ⟨fun c => absurd c (show (¬ ((1 : Int) = 0)) from by decide), fun _ => ?_⟩
        refine ⟨17, (by decide), rfl, ?_⟩
        refine ⟨fun c => absurd (show ((0 : Int) = 0) from by decide) c, fun _ => ?_⟩
        refine ⟨rfl, (by decide), ?_⟩
        refine ⟨fun c => absurd c (show (¬ ((1 : Int) = 0)) from by decide), fun _ => ?_⟩
        refine ⟨17, (by decide), rfl, ?_⟩
        refine Call_wp (lv := [some (vr 4153), some (vi 1)]) (by decide) ckJ1_charAt_3b067 [] rfl rfl ?_
        refine Or.inr (Or.inr ⟨17, (by decide), rfl, ?_⟩)
        refine j_check (i := 1) (n := 4) (by omega) ?_
        refine ⟨17, (by decide), rfl, (by decide), (by decide), ?_⟩
        refine ⟨rfl, (by decide), ?_⟩
        refine ⟨rfl, (by decide), ?_⟩
        have a29 : -2147483648 ≤ (I 236 (Int.toNat (wr ((wr (1228 + (I 235 6))) + 1)))) ∧ (I 236 (Int.toNat (wr ((wr (1228 + (I 235 6))) + 1)))) < 2147483648 := hA.1 _ _
        refine ⟨fun (c30 : (¬ ((I 236 (Int.toNat (wr ((wr (1228 + (I 235 6))) + 1)))) : Int) = 97)) => ?_, fun (c30 : (((I 236 (Int.toNat (wr ((wr (1228 + (I 235 6))) + 1)))) : Int) = 97)) => ?_⟩
        ·
          replace z27 : ¬ tt ((I 235 6) + 1) = 97 := by omega
          refine ⟨fun _ => ?_, fun c => absurd (show ((0 : Int) = 0) from by decide) c⟩
          refine ⟨fun _ => ?_, fun c => absurd (show ((0 : Int) = 0) from by decide) c⟩
          have r31 : 0 ≤ (I 236 2) ∧ (I 236 2) ≤ 64 := Rg.n2 hR
          exact ⟨rfl, (by decide), fun hv hA' => hQ _ _ hR hA' (hv _ rfl) (fun _ _ _ => rfl) (show 0 = 1 → (I 235 6) + 4 ≤ (I 235 6) from fun z => absurd z (by decide)) (show (I 235 6) ≤ (I 235 7) from by first | with_reducible assumption | omega | (simp only [wr, wl] at *; omega)) (show (I 235 7) ≤ (I 236 2) from by first | with_reducible assumption | omega | (simp only [wr, wl] at *; omega)) (show (I 235 6) < (I 236 2) → (I 235 6) < (I 235 7) from by first | with_reducible assumption | omega | (simp only [wr, wl] at *; omega)) (show (I 235 6) ≤ (I 235 6) from Int.le_refl _) (show 0 = 1 → (I 235 8) = 0 ∧ ((I 235 7) - (I 235 6) = 4 ∧ tt (I 235 6) = 108 ∧ tt ((I 235 6) + 1) = 97 ∧ tt ((I 235 6) + 2) = 115 ∧ tt ((I 235 6) + 3) = 116) from fun z => absurd z (by decide)) (show 0 ≤ 0 ∧ 0 ≤ 1 from by decide) (show 0 = 0 → ¬ ((I 235 8) = 0 ∧ ((I 235 7) - (I 235 6) = 4 ∧ tt (I 235 6) = 108 ∧ tt ((I 235 6) + 1) = 97 ∧ tt ((I 235 6) + 2) = 115 ∧ tt ((I 235 6) + 3) = 116)) from by first | omega | (simp only [wr, wl] at *; omega)) (show 0 = 0 → (I 235 6) = (I 235 6) ∧ (I 235 7) = (I 235 7) from fun _ => ⟨rfl, rfl⟩) (fun z => absurd z (by decide))⟩
        ·
          replace z27 : tt ((I 235 6) + 1) = 97 := by omega
          refine ⟨fun c => absurd c (show (¬ ((1 : Int) = 0)) from by decide), fun _ => ?_⟩
          refine ⟨⟨17, (by decide), rfl⟩, ?_⟩
          refine Call_wp (lv := [some (vr 4123)]) (by decide) ckJ0_length_8abf5 [] rfl rfl ?_
          refine ⟨17, (by decide), rfl, ?_⟩
          refine Or.inr (Or.inr ⟨17, (by decide), rfl, ?_⟩)
          refine ⟨⟨17, (by decide), rfl⟩, ?_⟩
          refine Call_wp (lv := [some (vr 4123)]) (by decide) ckJ0_coder_7d493 [] rfl rfl ?_
          refine ⟨fun c => absurd c (show (¬ ((1 : Int) = 0)) from by decide), fun _ => ?_⟩
          refine ⟨17, (by decide), rfl, ?_⟩
          refine ⟨rfl, (by decide), ?_⟩
          refine ⟨rfl, ?_⟩
          refine ⟨fun c => absurd c (show (¬ ((4 : Int) ≤ 2)) from by decide), fun _ => ?_⟩
          refine ⟨_, rfl, (by decide), ?_⟩
          refine fun w0 hw0 => ?_; obtain rfl : w0 = some 236 := hw0.symm.trans (FS.g hF rfl)
          refine ⟨_, rfl, (by decide), ?_⟩
          have n33 : (wr ((wr (1228 + (I 235 6))) + 2)) = (wr (1228 + (I 235 6))) + 2 := wr_id (show -2147483648 ≤ ((wr (1228 + (I 235 6))) + 2 : Int) ∧ ((wr (1228 + (I 235 6))) + 2 : Int) < 2147483648 from by omega)
          refine ⟨_, rfl, (by decide), (show (0 : Int) ≤ (wr ((wr (1228 + (I 235 6))) + 2)) from by first | with_reducible assumption | omega | (simp only [wr, wl] at *; omega)), (show (wr ((wr (1228 + (I 235 6))) + 2)) < (1340 : Int) from by first | with_reducible assumption | omega | (simp only [wr, wl] at *; omega)), ?_⟩
          have z34 := TXT_b ht ((I 235 6) + 2)
          have z35 : (I 236 (Int.toNat (wr ((wr (1228 + (I 235 6))) + 2)))) = (I 236 (1228 + Int.toNat ((I 235 6) + 2))) := congrArg (I 236) (by omega)
          refine ⟨⟨17, (by decide), rfl⟩, ?_⟩
          refine Call_wp (lv := [some (vr 4123), some (vi 2)]) (by decide) ckJ0_charAt_5068e [] rfl rfl ?_
          refine ⟨⟨17, (by decide), rfl⟩, ?_⟩
          refine Call_wp (lv := [some (vr 4123)]) (by decide) ckJ0_isLatin1_aae02 [] rfl rfl ?_
          refine ⟨fun c => absurd c (show (¬ ((1 : Int) = 0)) from by decide), fun _ => ?_⟩
          refine ⟨17, (by decide), rfl, ?_⟩
          refine ⟨fun c => absurd (show ((0 : Int) = 0) from by decide) c, fun _ => ?_⟩
          refine ⟨rfl, (by decide), ?_⟩
          refine ⟨fun c => absurd c (show (¬ ((1 : Int) = 0)) from by decide), fun _ => ?_⟩
          refine ⟨17, (by decide), rfl, ?_⟩
          refine Call_wp (lv := [some (vr 4153), some (vi 2)]) (by decide) ckJ1_charAt_3b067 [] rfl rfl ?_
          refine Or.inr (Or.inr ⟨17, (by decide), rfl, ?_⟩)
          refine j_check (i := 2) (n := 4) (by omega) ?_
          refine ⟨17, (by decide), rfl, (by decide), (by decide), ?_⟩
          refine ⟨rfl, (by decide), ?_⟩
          refine ⟨rfl, (by decide), ?_⟩
          have a36 : -2147483648 ≤ (I 236 (Int.toNat (wr ((wr (1228 + (I 235 6))) + 2)))) ∧ (I 236 (Int.toNat (wr ((wr (1228 + (I 235 6))) + 2)))) < 2147483648 := hA.1 _ _
          refine ⟨fun (c37 : (¬ ((I 236 (Int.toNat (wr ((wr (1228 + (I 235 6))) + 2)))) : Int) = 115)) => ?_, fun (c37 : (((I 236 (Int.toNat (wr ((wr (1228 + (I 235 6))) + 2)))) : Int) = 115)) => ?_⟩
          ·
            replace z34 : ¬ tt ((I 235 6) + 2) = 115 := by omega
            refine ⟨fun _ => ?_, fun c => absurd (show ((0 : Int) = 0) from by decide) c⟩
            refine ⟨fun _ => ?_, fun c => absurd (show ((0 : Int) = 0) from by decide) c⟩
            have r38 : 0 ≤ (I 236 2) ∧ (I 236 2) ≤ 64 := Rg.n2 hR
            exact ⟨rfl, (by decide), fun hv hA' => hQ _ _ hR hA' (hv _ rfl) (fun _ _ _ => rfl) (show 0 = 1 → (I 235 6) + 4 ≤ (I 235 6) from fun z => absurd z (by decide)) (show (I 235 6) ≤ (I 235 7) from by first | with_reducible assumption | omega | (simp only [wr, wl] at *; omega)) (show (I 235 7) ≤ (I 236 2) from by first | with_reducible assumption | omega | (simp only [wr, wl] at *; omega)) (show (I 235 6) < (I 236 2) → (I 235 6) < (I 235 7) from by first | with_reducible assumption | omega | (simp only [wr, wl] at *; omega)) (show (I 235 6) ≤ (I 235 6) from Int.le_refl _) (show 0 = 1 → (I 235 8) = 0 ∧ ((I 235 7) - (I 235 6) = 4 ∧ tt (I 235 6) = 108 ∧ tt ((I 235 6) + 1) = 97 ∧ tt ((I 235 6) + 2) = 115 ∧ tt ((I 235 6) + 3) = 116) from fun z => absurd z (by decide)) (show 0 ≤ 0 ∧ 0 ≤ 1 from by decide) (show 0 = 0 → ¬ ((I 235 8) = 0 ∧ ((I 235 7) - (I 235 6) = 4 ∧ tt (I 235 6) = 108 ∧ tt ((I 235 6) + 1) = 97 ∧ tt ((I 235 6) + 2) = 115 ∧ tt ((I 235 6) + 3) = 116)) from by first | omega | (simp only [wr, wl] at *; omega)) (show 0 = 0 → (I 235 6) = (I 235 6) ∧ (I 235 7) = (I 235 7) from fun _ => ⟨rfl, rfl⟩) (fun z => absurd z (by decide))⟩
          ·
            replace z34 : tt ((I 235 6) + 2) = 115 := by omega
            refine ⟨fun c => absurd c (show (¬ ((1 : Int) = 0)) from by decide), fun _ => ?_⟩
            refine ⟨⟨17, (by decide), rfl⟩, ?_⟩
            refine Call_wp (lv := [some (vr 4123)]) (by decide) ckJ0_length_8abf5 [] rfl rfl ?_
            refine ⟨17, (by decide), rfl, ?_⟩
            refine Or.inr (Or.inr ⟨17, (by decide), rfl, ?_⟩)
            refine ⟨⟨17, (by decide), rfl⟩, ?_⟩
            refine Call_wp (lv := [some (vr 4123)]) (by decide) ckJ0_coder_7d493 [] rfl rfl ?_
            refine ⟨fun c => absurd c (show (¬ ((1 : Int) = 0)) from by decide), fun _ => ?_⟩
            refine ⟨17, (by decide), rfl, ?_⟩
            refine ⟨rfl, (by decide), ?_⟩
            refine ⟨rfl, ?_⟩
            refine ⟨fun c => absurd c (show (¬ ((4 : Int) ≤ 3)) from by decide), fun _ => ?_⟩
            refine ⟨_, rfl, (by decide), ?_⟩
            refine fun w0 hw0 => ?_; obtain rfl : w0 = some 236 := hw0.symm.trans (FS.g hF rfl)
            refine ⟨_, rfl, (by decide), ?_⟩
            have n40 : (wr ((wr (1228 + (I 235 6))) + 3)) = (wr (1228 + (I 235 6))) + 3 := wr_id (show -2147483648 ≤ ((wr (1228 + (I 235 6))) + 3 : Int) ∧ ((wr (1228 + (I 235 6))) + 3 : Int) < 2147483648 from by omega)
            refine ⟨_, rfl, (by decide), (show (0 : Int) ≤ (wr ((wr (1228 + (I 235 6))) + 3)) from by first | with_reducible assumption | omega | (simp only [wr, wl] at *; omega)), (show (wr ((wr (1228 + (I 235 6))) + 3)) < (1340 : Int) from by first | with_reducible assumption | omega | (simp only [wr, wl] at *; omega)), ?_⟩
            have z41 := TXT_b ht ((I 235 6) + 3)
            have z42 : (I 236 (Int.toNat (wr ((wr (1228 + (I 235 6))) + 3)))) = (I 236 (1228 + Int.toNat ((I 235 6) + 3))) := congrArg (I 236) (by omega)
            refine ⟨⟨17, (by decide), rfl⟩, ?_⟩
            refine Call_wp (lv := [some (vr 4123), some (vi 3)]) (by decide) ckJ0_charAt_5068e [] rfl rfl ?_
            refine ⟨⟨17, (by decide), rfl⟩, ?_⟩
            refine Call_wp (lv := [some (vr 4123)]) (by decide) ckJ0_isLatin1_aae02 [] rfl rfl ?_
            refine ⟨fun c => absurd c (show (¬ ((1 : Int) = 0)) from by decide), fun _ => ?_⟩
            refine ⟨17, (by decide), rfl, ?_⟩
            refine ⟨fun c => absurd (show ((0 : Int) = 0) from by decide) c, fun _ => ?_⟩
            refine ⟨rfl, (by decide), ?_⟩
            refine ⟨fun c => absurd c (show (¬ ((1 : Int) = 0)) from by decide), fun _ => ?_⟩
            refine ⟨17, (by decide), rfl, ?_⟩
            refine Call_wp (lv := [some (vr 4153), some (vi 3)]) (by decide) ckJ1_charAt_3b067 [] rfl rfl ?_
            refine Or.inr (Or.inr ⟨17, (by decide), rfl, ?_⟩)
            refine j_check (i := 3) (n := 4) (by omega) ?_
            refine ⟨17, (by decide), rfl, (by decide), (by decide), ?_⟩
            refine ⟨rfl, (by decide), ?_⟩
            refine ⟨rfl, (by decide), ?_⟩
            have a43 : -2147483648 ≤ (I 236 (Int.toNat (wr ((wr (1228 + (I 235 6))) + 3)))) ∧ (I 236 (Int.toNat (wr ((wr (1228 + (I 235 6))) + 3)))) < 2147483648 := hA.1 _ _
            refine ⟨fun (c44 : (¬ ((I 236 (Int.toNat (wr ((wr (1228 + (I 235 6))) + 3)))) : Int) = 116)) => ?_, fun (c44 : (((I 236 (Int.toNat (wr ((wr (1228 + (I 235 6))) + 3)))) : Int) = 116)) => ?_⟩
            ·
              replace z41 : ¬ tt ((I 235 6) + 3) = 116 := by omega
              refine ⟨fun _ => ?_, fun c => absurd (show ((0 : Int) = 0) from by decide) c⟩
              refine ⟨fun _ => ?_, fun c => absurd (show ((0 : Int) = 0) from by decide) c⟩
              have r45 : 0 ≤ (I 236 2) ∧ (I 236 2) ≤ 64 := Rg.n2 hR
              exact ⟨rfl, (by decide), fun hv hA' => hQ _ _ hR hA' (hv _ rfl) (fun _ _ _ => rfl) (show 0 = 1 → (I 235 6) + 4 ≤ (I 235 6) from fun z => absurd z (by decide)) (show (I 235 6) ≤ (I 235 7) from by first | with_reducible assumption | omega | (simp only [wr, wl] at *; omega)) (show (I 235 7) ≤ (I 236 2) from by first | with_reducible assumption | omega | (simp only [wr, wl] at *; omega)) (show (I 235 6) < (I 236 2) → (I 235 6) < (I 235 7) from by first | with_reducible assumption | omega | (simp only [wr, wl] at *; omega)) (show (I 235 6) ≤ (I 235 6) from Int.le_refl _) (show 0 = 1 → (I 235 8) = 0 ∧ ((I 235 7) - (I 235 6) = 4 ∧ tt (I 235 6) = 108 ∧ tt ((I 235 6) + 1) = 97 ∧ tt ((I 235 6) + 2) = 115 ∧ tt ((I 235 6) + 3) = 116) from fun z => absurd z (by decide)) (show 0 ≤ 0 ∧ 0 ≤ 1 from by decide) (show 0 = 0 → ¬ ((I 235 8) = 0 ∧ ((I 235 7) - (I 235 6) = 4 ∧ tt (I 235 6) = 108 ∧ tt ((I 235 6) + 1) = 97 ∧ tt ((I 235 6) + 2) = 115 ∧ tt ((I 235 6) + 3) = 116)) from by first | omega | (simp only [wr, wl] at *; omega)) (show 0 = 0 → (I 235 6) = (I 235 6) ∧ (I 235 7) = (I 235 7) from fun _ => ⟨rfl, rfl⟩) (fun z => absurd z (by decide))⟩
            ·
              replace z41 : tt ((I 235 6) + 3) = 116 := by omega
              refine ⟨fun c => absurd c (show (¬ ((1 : Int) = 0)) from by decide), fun _ => ?_⟩
              refine ⟨⟨17, (by decide), rfl⟩, ?_⟩
              refine Call_wp (lv := [some (vr 4123)]) (by decide) ckJ0_length_8abf5 [] rfl rfl ?_
              refine ⟨17, (by decide), rfl, ?_⟩
              refine Or.inr (Or.inr ⟨17, (by decide), rfl, ?_⟩)
              refine ⟨⟨17, (by decide), rfl⟩, ?_⟩
              refine Call_wp (lv := [some (vr 4123)]) (by decide) ckJ0_coder_7d493 [] rfl rfl ?_
              refine ⟨fun c => absurd c (show (¬ ((1 : Int) = 0)) from by decide), fun _ => ?_⟩
              refine ⟨17, (by decide), rfl, ?_⟩
              refine ⟨rfl, (by decide), ?_⟩
              refine ⟨rfl, ?_⟩
              refine ⟨fun _ => ?_, fun c => absurd (show ((4 : Int) ≤ 4) from by decide) c⟩
              refine ⟨fun c => absurd c (show (¬ ((1 : Int) = 0)) from by decide), fun _ => ?_⟩
              refine ⟨⟨_, rfl, (by decide)⟩, ?_⟩
              have r47 : 0 ≤ (I 236 2) ∧ (I 236 2) ≤ 64 := Rg.n2 hR
              refine r_goOn9  hF hR (hl) ht (show (I 235 7) ≤ (I 236 2) from by first | with_reducible assumption | omega | (simp only [wr, wl] at *; omega)) (fun I49 hR50 hA51 hW52 q53 q54 q55 q56 qr57 => ?_)
              have q53 : (I 235 7) ≤ (I49 235 6) := q53
              have q54 : (I49 235 6) ≤ (I49 235 7) := q54
              have q55 : (I49 235 7) ≤ (I 236 2) := q55
              have q56 : (I49 235 6) < (I 236 2) → (I49 235 6) < (I49 235 7) := q56
              have r58 : 0 ≤ (I49 235 6) ∧ (I49 235 6) ≤ 64 := Rg.f6 hR50
              have r60 : 0 ≤ (I49 235 7) ∧ (I49 235 7) ≤ 64 := Rg.f7 hR50
              exact ⟨rfl, (by decide), fun hv hA' => hQ _ _ hR50 hA' (hv _ rfl) (fun ka ja hk => (hW52 ka ja (by omega))) (show 1 = 1 → (I 235 6) + 4 ≤ (I49 235 6) from by first | with_reducible assumption | omega | (simp only [wr, wl] at *; omega)) (show (I49 235 6) ≤ (I49 235 7) from by first | with_reducible assumption | omega | (simp only [wr, wl] at *; omega)) (show (I49 235 7) ≤ (I 236 2) from by first | with_reducible assumption | omega | (simp only [wr, wl] at *; omega)) (show (I49 235 6) < (I 236 2) → (I49 235 6) < (I49 235 7) from by first | with_reducible assumption | omega | (simp only [wr, wl] at *; omega)) (show (I 235 6) ≤ (I49 235 6) from by first | with_reducible assumption | omega | (simp only [wr, wl] at *; omega)) (show 1 = 1 → (I 235 8) = 0 ∧ ((I 235 7) - (I 235 6) = 4 ∧ tt (I 235 6) = 108 ∧ tt ((I 235 6) + 1) = 97 ∧ tt ((I 235 6) + 2) = 115 ∧ tt ((I 235 6) + 3) = 116) from by first | omega | (simp only [wr, wl] at *; omega)) (show 0 ≤ 1 ∧ 1 ≤ 1 from by decide) (show 1 = 0 → ¬ ((I 235 8) = 0 ∧ ((I 235 7) - (I 235 6) = 4 ∧ tt (I 235 6) = 108 ∧ tt ((I 235 6) + 1) = 97 ∧ tt ((I 235 6) + 2) = 115 ∧ tt ((I 235 6) + 3) = 116)) from fun z => absurd z (by decide)) (show 1 = 0 → (I49 235 6) = (I 235 6) ∧ (I49 235 7) = (I 235 7) from fun z => absurd z (by decide)) (fun _ => qr57)⟩
theorem r_tk9_17 (hF : FS F) (hR : Rg I) {tt : Int → Int} {nn : Int} (hl : I 236 2 = nn) (ht : TXT tt nn (fun j => I 236 (1228 + j))) (h1 : I 235 6 ≤ I 235 7) (h2 : I 235 7 ≤ I 236 2) (h3 : I 235 6 < I 236 2 → I 235 6 < I 235 7) (h1' : ∀ I' : pI, Rg I' → AR I' → (∀ k j, ¬ ((k = 235 ∧ (j = 6 ∨ j = 7))) → I' k j = I k j) → I 235 8 = 0 → mkW0 tt (I 235 6) (I 235 7) → I 235 7 - I 235 6 = 4 → I 235 6 + 4 ≤ I' 235 6 → I' 235 6 ≤ I' 235 7 → I' 235 7 ≤ I 236 2 → (I' 235 6 < I 236 2 → I' 235 6 < I' 235 7) → Tok tt nn (I 235 7) (I' 235 6) (I' 235 7) → Q (some (vi 1)) F I') (h0' : ¬ (I 235 8 = 0 ∧ mkW0 tt (I 235 6) (I 235 7)) → Q (some (vi 0)) F I) : CallN G (d + 4) kX12_takes [vr 235, vr 4123] NP F I Q := by
  refine r_takes9_17 hF hR hl ht h1 h2 h3 (fun r I' hR' hA' _ hW q1 q2 q3 q4 q5 q6 q7 q8 q9 qr => ?_)
  by_cases e : r = 1
  · rw [e]; exact h1' I' hR' hA' hW (q6 e).1 (q6 e).2 (q6 e).2.1 (q1 e) q2 q3 q4 (qr e)
  · have e0 : r = 0 := by omega
    have hI : I' = I := funext (fun k => funext (fun j => by
      by_cases c : k = 235 ∧ (j = 6 ∨ j = 7)
      · obtain ⟨rfl, c⟩ := c
        rcases c with rfl | rfl
        · exact (q9 e0).1
        · exact (q9 e0).2
      · exact hW k j c))
    rw [e0, hI]; exact h0' (q8 e0)
theorem r_number9_l (hF : FS F) (hR : Rg I) {tt : Int → Int} {nn : Int} (hl : I 236 2 = nn) (ht : TXT tt nn (fun j => I 236 (1228 + j))) (h1 : I 235 6 ≤ I 235 7) (h2 : I 235 7 ≤ I 236 2) (h3 : I 235 6 < I 236 2 → I 235 6 < I 235 7) (hT : IsT tt nn (I 235 6) (I 235 7)) (hQ : ∀ (r : Int) (I' : pI), Rg I' → (∀ k j, ¬ ((k = 235 ∧ (j = 6 ∨ j = 7 ∨ j = 8))) → I' k j = I k j) → (r ≤ 300000) → ((I' 235 6) ≤ (I' 235 7)) → ((I' 235 7) ≤ (I 236 2)) → ((I' 235 6) < (I 236 2) → (I' 235 6) < (I' 235 7)) → ((I 235 6) ≤ (I' 235 6)) → ((I' 235 8) = 0 → (I 235 6) + 1 ≤ (I' 235 6)) → ((I' 235 8) = 0 ∨ (I' 235 8) = 1) → (¬ (I' 235 8) = 0 → r = 0 ∧ (I' 235 6) = (I 235 6) ∧ (I' 235 7) = (I 235 7)) → (0 ≤ r) → ((I' 235 8 = 0 → nF tt (I 235 6) (I 235 7) = r ∧ Tok tt nn (I 235 7) (I' 235 6) (I' 235 7)) ∧ (¬ I' 235 8 = 0 → nF tt (I 235 6) (I 235 7) = -1)) → Q (some (vi r)) F I') : ∀ (mz : Nat) (v k : Int) (J : pI), Rg J → (∀ k j, ¬ ((k = 235 ∧ (j = 6 ∨ j = 7 ∨ j = 8))) → J k j = I k j) → ((0 : Int) ≤ v) → ((v : Int) ≤ 9999) → ((0 : Int) ≤ k) → ((k : Int) ≤ 64) → ((J 235 6) = I 235 6) → ((J 235 7) = I 235 7) → ((J 235 8) = 0 → ((J 235 7) - (J 235 6) ≤ 4 ∧ 48 ≤ tt (J 235 6) ∧ tt (J 235 6) ≤ 57)) → (¬ (J 235 8) = 0 → v = 0 ∧ k = (J 235 6) ∧ ¬ ((J 235 7) - (J 235 6) ≤ 4 ∧ 48 ≤ tt (J 235 6) ∧ tt (J 235 6) ≤ 57)) → ((J 235 6) ≤ k) → (k ≤ (J 235 7)) → (v = vF tt (J 235 6) (Int.toNat (k - (J 235 6)))) → ((J 235 8) = 0 ∨ (J 235 8) = 1) → (64 - k).toNat < mz → GoN G (d + 3) kX12_number NP NP 44 [some (vr 235), some (vi v), some (vi k)] [] F J Q := by
  intro mz
  induction mz with
  | zero => intro v k J hJ hV _ _ _ _ _ _ _ _ _ _ _ _ h; exact absurd h (Nat.not_lt_zero _)
  | succ mz ih =>
    intro v k J hJ hV cc100 cc101 cc102 cc103 cc104 cc105 cc106 cc107 cc108 cc109 cc110 cc111 hm
    refine GoN_in (fun hok hA => ?_)
    have iiv : -2147483648 ≤ v ∧ v < 2147483648 := hok 1 _ rfl
    have iik : -2147483648 ≤ k ∧ k < 2147483648 := hok 2 _ rfl
    have hn2 := ht.1
    have g2 := Rg.n2 hR
    have hf := hT.1
    have hz8 := TXT_z ht (J 235 6)
    have hd : J 235 8 = 0 → ∀ k : Int, I 235 6 ≤ k → k < I 235 7 → 48 ≤ tt k ∧ tt k ≤ 57 := fun z => (hT.2.2.1 (by rw [← cc104]; omega)).1
    have hv : J 235 8 = 0 → _ := fun z => vF_b (t := tt) (a := J 235 6) (m := Int.toNat (k - J 235 6)) (fun q h1 h2 => hd z q (by omega) (by omega))
    rw [← cc110] at hv
    have hk : J 235 8 = 0 → k < J 235 7 → 48 ≤ tt k ∧ tt k ≤ 57 := fun z y => hd z k (by omega) (by omega)
    have r1 : 0 ≤ (J 235 6) ∧ (J 235 6) ≤ 64 := Rg.f6 hJ
    have r3 : 0 ≤ (J 235 7) ∧ (J 235 7) ≤ 64 := Rg.f7 hJ
    have a5 : -2147483648 ≤ (J 235 8) ∧ (J 235 8) < 2147483648 := hA.1 _ _
    refine Go_wp (by decide) ckX12_number [44] ?_
    refine ⟨_, rfl, (by decide), ?_⟩
    refine ⟨fun (c6 : (((J 235 7) : Int) ≤ k)) => ?_, fun (c6 : (¬ (((J 235 7) : Int) ≤ k))) => ?_⟩
    ·
      refine ⟨_, rfl, (by decide), ?_⟩
      refine ⟨fun (c7 : (¬ ((J 235 8) : Int) = 0)) => ?_, fun (c7 : (((J 235 8) : Int) = 0)) => ?_⟩
      ·
        have r8 : 0 ≤ (I 236 2) ∧ (I 236 2) ≤ 64 := Rg.n2 hR
        have r9 : 0 ≤ (I 235 6) ∧ (I 235 6) ≤ 64 := Rg.f6 hR
        have r10 : 0 ≤ (I 235 7) ∧ (I 235 7) ≤ 64 := Rg.f7 hR
        exact ⟨rfl, hQ _ _ hJ (fun ka ja hk => (hV ka ja (by omega))) (show v ≤ 300000 from by first | with_reducible assumption | omega | (simp only [wr, wl] at *; omega)) (show (J 235 6) ≤ (J 235 7) from by first | with_reducible assumption | omega | (simp only [wr, wl] at *; omega)) (show (J 235 7) ≤ (I 236 2) from by first | with_reducible assumption | omega | (simp only [wr, wl] at *; omega)) (show (J 235 6) < (I 236 2) → (J 235 6) < (J 235 7) from by first | with_reducible assumption | omega | (simp only [wr, wl] at *; omega)) (show (I 235 6) ≤ (J 235 6) from by first | with_reducible assumption | omega | (simp only [wr, wl] at *; omega)) (show (J 235 8) = 0 → (I 235 6) + 1 ≤ (J 235 6) from by first | with_reducible assumption | omega | (simp only [wr, wl] at *; omega)) (show (J 235 8) = 0 ∨ (J 235 8) = 1 from by first | omega | (simp only [wr, wl] at *; omega)) (show ¬ (J 235 8) = 0 → v = 0 ∧ (J 235 6) = (I 235 6) ∧ (J 235 7) = (I 235 7) from by first | with_reducible assumption | omega | (simp only [wr, wl] at *; omega)) (show 0 ≤ v from by first | with_reducible assumption | omega | (simp only [wr, wl] at *; omega)) (⟨fun z => absurd z (by omega), fun z => (by
                              unfold nF; exact if_neg (by rw [← cc104, ← cc105]; omega))⟩)⟩
      ·
        refine ⟨⟨_, rfl, (by decide)⟩, ?_⟩
        have r11 : 0 ≤ (I 236 2) ∧ (I 236 2) ≤ 64 := Rg.n2 hR
        have u12 : (J 236 2) = (I 236 2) := hV _ _ (by first | decide | omega)
        have a13 : -2147483648 ≤ (J 236 2) ∧ (J 236 2) < 2147483648 := hA.1 _ _
        have r14 : 0 ≤ (J 236 2) ∧ (J 236 2) ≤ 64 := Rg.n2 hJ
        refine r_goOn9  hF hJ ((hV 236 2 (by first | decide | omega)).trans hl) (TXT_f ht (fun j => hV 236 (1228 + j) (by omega))) (show (J 235 7) ≤ (J 236 2) from by first | with_reducible assumption | omega | (simp only [wr, wl] at *; omega)) (fun I15 hR16 hA17 hW18 q19 q20 q21 q22 qr23 => ?_)
        have q19 : (J 235 7) ≤ (I15 235 6) := q19
        have q20 : (I15 235 6) ≤ (I15 235 7) := q20
        have q21 : (I15 235 7) ≤ (J 236 2) := q21
        have q22 : (I15 235 6) < (J 236 2) → (I15 235 6) < (I15 235 7) := q22
        have r24 : 0 ≤ (I15 235 6) ∧ (I15 235 6) ≤ 64 := Rg.f6 hR16
        have r26 : 0 ≤ (I15 235 7) ∧ (I15 235 7) ≤ 64 := Rg.f7 hR16
        have r28 : 0 ≤ (I 235 6) ∧ (I 235 6) ≤ 64 := Rg.f6 hR
        have u29 : (I15 235 8) = (J 235 8) := hW18 _ _ (by first | decide | omega)
        have a30 : -2147483648 ≤ (I15 235 8) ∧ (I15 235 8) < 2147483648 := hA17.1 _ _
        have r31 : 0 ≤ (I 235 7) ∧ (I 235 7) ≤ 64 := Rg.f7 hR
        exact ⟨rfl, hQ _ _ hR16 (fun ka ja hk => ((hW18 ka ja (by omega))).trans ((hV ka ja (by omega)))) (show v ≤ 300000 from by first | with_reducible assumption | omega | (simp only [wr, wl] at *; omega)) (show (I15 235 6) ≤ (I15 235 7) from by first | with_reducible assumption | omega | (simp only [wr, wl] at *; omega)) (show (I15 235 7) ≤ (I 236 2) from by first | with_reducible assumption | omega | (simp only [wr, wl] at *; omega)) (show (I15 235 6) < (I 236 2) → (I15 235 6) < (I15 235 7) from by first | with_reducible assumption | omega | (simp only [wr, wl] at *; omega)) (show (I 235 6) ≤ (I15 235 6) from by first | with_reducible assumption | omega | (simp only [wr, wl] at *; omega)) (show (I15 235 8) = 0 → (I 235 6) + 1 ≤ (I15 235 6) from by first | with_reducible assumption | omega | (simp only [wr, wl] at *; omega)) (show (I15 235 8) = 0 ∨ (I15 235 8) = 1 from by first | omega | (simp only [wr, wl] at *; omega)) (show ¬ (I15 235 8) = 0 → v = 0 ∧ (I15 235 6) = (I 235 6) ∧ (I15 235 7) = (I 235 7) from by first | with_reducible assumption | omega | (simp only [wr, wl] at *; omega)) (show 0 ≤ v from by first | with_reducible assumption | omega | (simp only [wr, wl] at *; omega)) (⟨fun z => ⟨(by
                              have e : k = J 235 7 := by omega
                              unfold nF; rw [if_pos (by rw [← cc104, ← cc105]; omega), ← cc104, ← cc105, ← e]; exact cc110.symm), (by
                              have z := qr23
                              rw [cc105] at z; exact z)⟩, fun z => absurd (by omega) z⟩)⟩
    ·
      refine ⟨_, rfl, (by decide), ?_⟩
      refine ⟨fun (c32 : (¬ ((J 235 8) : Int) = 0)) => ?_, fun (c32 : (((J 235 8) : Int) = 0)) => ?_⟩
      ·
        refine ⟨_, rfl, (by decide), ?_⟩
        refine ⟨fun _ => ?_, fun c => absurd c (show (¬ ((J 235 8) : Int) = 0) from by first | omega | (simp only [wr, wl] at *; omega))⟩
        have r33 : 0 ≤ (I 236 2) ∧ (I 236 2) ≤ 64 := Rg.n2 hR
        have r34 : 0 ≤ (I 235 6) ∧ (I 235 6) ≤ 64 := Rg.f6 hR
        have r35 : 0 ≤ (I 235 7) ∧ (I 235 7) ≤ 64 := Rg.f7 hR
        exact ⟨rfl, hQ _ _ hJ (fun ka ja hk => (hV ka ja (by omega))) (show v ≤ 300000 from by first | with_reducible assumption | omega | (simp only [wr, wl] at *; omega)) (show (J 235 6) ≤ (J 235 7) from by first | with_reducible assumption | omega | (simp only [wr, wl] at *; omega)) (show (J 235 7) ≤ (I 236 2) from by first | with_reducible assumption | omega | (simp only [wr, wl] at *; omega)) (show (J 235 6) < (I 236 2) → (J 235 6) < (J 235 7) from by first | with_reducible assumption | omega | (simp only [wr, wl] at *; omega)) (show (I 235 6) ≤ (J 235 6) from by first | with_reducible assumption | omega | (simp only [wr, wl] at *; omega)) (show (J 235 8) = 0 → (I 235 6) + 1 ≤ (J 235 6) from by first | with_reducible assumption | omega | (simp only [wr, wl] at *; omega)) (show (J 235 8) = 0 ∨ (J 235 8) = 1 from by first | omega | (simp only [wr, wl] at *; omega)) (show ¬ (J 235 8) = 0 → v = 0 ∧ (J 235 6) = (I 235 6) ∧ (J 235 7) = (I 235 7) from by first | with_reducible assumption | omega | (simp only [wr, wl] at *; omega)) (show 0 ≤ v from by first | with_reducible assumption | omega | (simp only [wr, wl] at *; omega)) (⟨fun z => absurd z (by omega), fun z => (by
                              unfold nF; exact if_neg (by rw [← cc104, ← cc105]; omega))⟩)⟩
      ·
        refine ⟨_, rfl, (by decide), ?_⟩
        refine fun w0 hw0 => ?_; obtain rfl : w0 = some 236 := hw0.symm.trans (FS.g hF rfl)
        have n36 : (wr (1228 + k)) = 1228 + k := wr_id (show -2147483648 ≤ (1228 + k : Int) ∧ (1228 + k : Int) < 2147483648 from by omega)
        refine ⟨_, rfl, (by decide), (show (0 : Int) ≤ (wr (1228 + k)) from by first | with_reducible assumption | omega | (simp only [wr, wl] at *; omega)), (show (wr (1228 + k)) < (1340 : Int) from by first | with_reducible assumption | omega | (simp only [wr, wl] at *; omega)), ?_⟩
        have z37 := TXT_b ht k
        have z38 : (I 236 (Int.toNat (wr (1228 + k)))) = (I 236 (1228 + Int.toNat k)) := congrArg (I 236) (by omega)
        have r39 : 0 ≤ (I 236 (Int.toNat (wr (1228 + k)))) ∧ (I 236 (Int.toNat (wr (1228 + k)))) ≤ 255 := Pn_t (by omega) (hR.n (Int.toNat (wr (1228 + k))) (by omega))
        have u40 : (J 236 (Int.toNat (wr (1228 + k)))) = (I 236 (Int.toNat (wr (1228 + k)))) := hV _ _ (by first | decide | omega)
        have a41 : -2147483648 ≤ (J 236 (Int.toNat (wr (1228 + k)))) ∧ (J 236 (Int.toNat (wr (1228 + k)))) < 2147483648 := hA.1 _ _
        have z42 := TXT_b ht k
        have z43 : (J 236 (Int.toNat (wr (1228 + k)))) = (J 236 (1228 + Int.toNat k)) := congrArg (J 236) (by omega)
        have z44 : (J 236 (1228 + Int.toNat k)) = (I 236 (1228 + Int.toNat k)) := hV 236 (1228 + Int.toNat k) (by omega)
        have r45 : 0 ≤ (J 236 (Int.toNat (wr (1228 + k)))) ∧ (J 236 (Int.toNat (wr (1228 + k)))) ≤ 255 := Pn_t (by omega) (hJ.n (Int.toNat (wr (1228 + k))) (by omega))
        have n46 : (wr (10 * v)) = 10 * v := wr_id (show -2147483648 ≤ (10 * v : Int) ∧ (10 * v : Int) < 2147483648 from by omega)
        have n47 : (wr ((wr (10 * v)) + (J 236 (Int.toNat (wr (1228 + k)))))) = (wr (10 * v)) + (J 236 (Int.toNat (wr (1228 + k)))) := wr_id (show -2147483648 ≤ ((wr (10 * v)) + (J 236 (Int.toNat (wr (1228 + k)))) : Int) ∧ ((wr (10 * v)) + (J 236 (Int.toNat (wr (1228 + k)))) : Int) < 2147483648 from by omega)
        have n48 : (wr ((wr ((wr (10 * v)) + (J 236 (Int.toNat (wr (1228 + k)))))) - 48)) = (wr ((wr (10 * v)) + (J 236 (Int.toNat (wr (1228 + k)))))) - 48 := wr_id (show -2147483648 ≤ ((wr ((wr (10 * v)) + (J 236 (Int.toNat (wr (1228 + k)))))) - 48 : Int) ∧ ((wr ((wr (10 * v)) + (J 236 (Int.toNat (wr (1228 + k)))))) - 48 : Int) < 2147483648 from by omega)
        have n49 : (wr (k + 1)) = k + 1 := wr_id (show -2147483648 ≤ (k + 1 : Int) ∧ (k + 1 : Int) < 2147483648 from by omega)
        exact ih (wr ((wr ((wr (10 * v)) + (J 236 (Int.toNat (wr (1228 + k)))))) - 48)) (wr (k + 1)) J hJ (fun ka ja hk => (hV ka ja (by omega))) (show (0 : Int) ≤ (wr ((wr ((wr (10 * v)) + (J 236 (Int.toNat (wr (1228 + k)))))) - 48)) from by first | with_reducible assumption | omega | (simp only [wr, wl] at *; omega)) (show ((wr ((wr ((wr (10 * v)) + (J 236 (Int.toNat (wr (1228 + k)))))) - 48)) : Int) ≤ 9999 from by first | with_reducible assumption | omega | (simp only [wr, wl] at *; omega)) (show (0 : Int) ≤ (wr (k + 1)) from by first | with_reducible assumption | omega | (simp only [wr, wl] at *; omega)) (show ((wr (k + 1)) : Int) ≤ 64 from by first | with_reducible assumption | omega | (simp only [wr, wl] at *; omega)) (show (J 235 6) = I 235 6 from by first | omega | (simp only [wr, wl] at *; omega)) (show (J 235 7) = I 235 7 from by first | omega | (simp only [wr, wl] at *; omega)) (show (J 235 8) = 0 → ((J 235 7) - (J 235 6) ≤ 4 ∧ 48 ≤ tt (J 235 6) ∧ tt (J 235 6) ≤ 57) from by first | with_reducible assumption | omega | (simp only [wr, wl] at *; omega)) (show ¬ (J 235 8) = 0 → (wr ((wr ((wr (10 * v)) + (J 236 (Int.toNat (wr (1228 + k)))))) - 48)) = 0 ∧ (wr (k + 1)) = (J 235 6) ∧ ¬ ((J 235 7) - (J 235 6) ≤ 4 ∧ 48 ≤ tt (J 235 6) ∧ tt (J 235 6) ≤ 57) from by first | omega | (simp only [wr, wl] at *; omega)) (show (J 235 6) ≤ (wr (k + 1)) from by first | with_reducible assumption | omega | (simp only [wr, wl] at *; omega)) (show (wr (k + 1)) ≤ (J 235 7) from by first | with_reducible assumption | omega | (simp only [wr, wl] at *; omega)) (show (wr ((wr ((wr (10 * v)) + (J 236 (Int.toNat (wr (1228 + k)))))) - 48)) = vF tt (J 235 6) (Int.toNat ((wr (k + 1)) - (J 235 6))) from (by
                              rw [show Int.toNat ((wr (k + 1)) - (J 235 6)) = Int.toNat (k - (J 235 6)) + 1 from by omega]
                              show _ = 10 * vF tt (J 235 6) (Int.toNat (k - (J 235 6))) + tt ((J 235 6) + (Int.toNat (k - (J 235 6)) : Nat)) - 48
                              rw [show (J 235 6) + ((Int.toNat (k - (J 235 6)) : Nat) : Int) = k from by omega, ← cc110]; omega)) (show (J 235 8) = 0 ∨ (J 235 8) = 1 from by first | omega | (simp only [wr, wl] at *; omega)) (show (64 - (wr (k + 1))).toNat < mz from by omega)
theorem r_number9 (hF : FS F) (hR : Rg I) {tt : Int → Int} {nn : Int} (hl : I 236 2 = nn) (ht : TXT tt nn (fun j => I 236 (1228 + j))) (h1 : I 235 6 ≤ I 235 7) (h2 : I 235 7 ≤ I 236 2) (h3 : I 235 6 < I 236 2 → I 235 6 < I 235 7) (hT : IsT tt nn (I 235 6) (I 235 7)) (hQ : ∀ (r : Int) (I' : pI), Rg I' → AR I' → iR r → (∀ k j, ¬ ((k = 235 ∧ (j = 6 ∨ j = 7 ∨ j = 8))) → I' k j = I k j) → (r ≤ 300000) → ((I' 235 6) ≤ (I' 235 7)) → ((I' 235 7) ≤ (I 236 2)) → ((I' 235 6) < (I 236 2) → (I' 235 6) < (I' 235 7)) → ((I 235 6) ≤ (I' 235 6)) → ((I' 235 8) = 0 → (I 235 6) + 1 ≤ (I' 235 6)) → ((I' 235 8) = 0 ∨ (I' 235 8) = 1) → (¬ (I' 235 8) = 0 → r = 0 ∧ (I' 235 6) = (I 235 6) ∧ (I' 235 7) = (I 235 7)) → (0 ≤ r) → ((I' 235 8 = 0 → nF tt (I 235 6) (I 235 7) = r ∧ Tok tt nn (I 235 7) (I' 235 6) (I' 235 7)) ∧ (¬ I' 235 8 = 0 → nF tt (I 235 6) (I 235 7) = -1)) → Q (some (vi r)) F I') : CallN G (d + 3) kX12_number [vr 235] NP F I Q := by
  refine CallN_in (fun hok hA => CallN_out ?_)
  have hn2 := ht.1
  have g2 := Rg.n2 hR
  refine Call_wp (lv := [some (vr 235), none, none]) (by decide) ckX12_number [44] rfl rfl ?_
  refine ⟨_, rfl, (by decide), ?_⟩
  have r1 : 0 ≤ (I 235 6) ∧ (I 235 6) ≤ 64 := Rg.f6 hR
  refine ⟨⟨_, rfl, (by decide)⟩, ?_⟩
  have z3 := TXT_z ht (I 235 6)
  refine r_isByte9 (v0 := (I 235 6)) (v1 := 48) (v2 := 57) hF hR (hl) ht (by omega) (by omega) (fun vr4 hr5 q6 q7 q8 => ?_)
  have hr5 : -2147483648 ≤ vr4 ∧ vr4 < 2147483648 := hr5
  have q6 : 0 ≤ vr4 ∧ vr4 ≤ 1 := q6
  have q7 : vr4 = 1 → (48 : Int) ≤ tt ((I 235 6) : Int) ∧ tt ((I 235 6) : Int) ≤ (57 : Int) := q7
  have q8 : vr4 = 0 → ¬ ((48 : Int) ≤ tt ((I 235 6) : Int) ∧ tt ((I 235 6) : Int) ≤ (57 : Int)) := q8
  refine ⟨fun (c9 : ((vr4 : Int) = 0)) => ?_, fun (c9 : (¬ ((vr4 : Int) = 0))) => ?_⟩
  ·
    refine ⟨_, rfl, (by decide), (by decide), ?_⟩
    refine ⟨_, rfl, (by decide), ?_⟩
    have r10 : 0 ≤ (I 235 7) ∧ (I 235 7) ≤ 64 := Rg.f7 hR
    refine r_number9_l hF hR hl ht h1 h2 h3 hT (fun r I' g1 g2 g3 g4 g5 g6 g7 g8 g9 g10 g11 g12 hv hA' => hQ _ _ g1 hA' (hv _ rfl) g2 g3 g4 g5 g6 g7 g8 g9 g10 g11 g12) _ 0 (I 235 6) (uI I 235 8 1) (Rg.u hR (Pr_f rfl)) (fun ka ja hk => (uI_o (show ¬ (ka = 235 ∧ ja = 8) from by first | (intro e; obtain ⟨rfl, rfl⟩ := e; exact hk (by decide)) | omega))) (show (0 : Int) ≤ (0 : Int) from Int.le_refl _) (show ((0 : Int) : Int) ≤ 9999 from by first | with_reducible assumption | omega | (simp only [wr, wl] at *; omega)) (show (0 : Int) ≤ (I 235 6) from by first | with_reducible assumption | omega | (simp only [wr, wl] at *; omega)) (show ((I 235 6) : Int) ≤ 64 from by first | with_reducible assumption | omega | (simp only [wr, wl] at *; omega)) (show (I 235 6) = I 235 6 from by first | omega | (simp only [wr, wl] at *; omega)) (show (I 235 7) = I 235 7 from by first | omega | (simp only [wr, wl] at *; omega)) (show (1 : Int) = 0 → ((I 235 7) - (I 235 6) ≤ 4 ∧ 48 ≤ tt (I 235 6) ∧ tt (I 235 6) ≤ 57) from by first | with_reducible assumption | omega | (simp only [wr, wl] at *; omega)) (show ¬ (1 : Int) = 0 → (0 : Int) = 0 ∧ (I 235 6) = (I 235 6) ∧ ¬ ((I 235 7) - (I 235 6) ≤ 4 ∧ 48 ≤ tt (I 235 6) ∧ tt (I 235 6) ≤ 57) from by first | omega | (simp only [wr, wl] at *; omega)) (show (I 235 6) ≤ (I 235 6) from Int.le_refl _) (show (I 235 6) ≤ (I 235 7) from by first | with_reducible assumption | omega | (simp only [wr, wl] at *; omega)) (show (0 : Int) = vF tt (I 235 6) (Int.toNat ((I 235 6) - (I 235 6))) from (by rw [show Int.toNat ((I 235 6) - (I 235 6)) = 0 from by omega]; rfl)) (show (1 : Int) = 0 ∨ (1 : Int) = 1 from by first | omega | (simp only [wr, wl] at *; omega)) (Nat.lt_succ_self _)
  ·
    refine ⟨_, rfl, (by decide), ?_⟩
    have r12 : 0 ≤ (I 235 7) ∧ (I 235 7) ≤ 64 := Rg.f7 hR
    refine ⟨_, rfl, (by decide), ?_⟩
    have n14 : (wr ((I 235 7) - (I 235 6))) = (I 235 7) - (I 235 6) := wr_id (show -2147483648 ≤ ((I 235 7) - (I 235 6) : Int) ∧ ((I 235 7) - (I 235 6) : Int) < 2147483648 from by omega)
    refine ⟨fun (c15 : (((wr ((I 235 7) - (I 235 6))) : Int) ≤ 4)) => ?_, fun (c15 : (¬ (((wr ((I 235 7) - (I 235 6))) : Int) ≤ 4))) => ?_⟩
    ·
      refine ⟨_, rfl, (by decide), (by decide), ?_⟩
      refine ⟨_, rfl, (by decide), ?_⟩
      refine r_number9_l hF hR hl ht h1 h2 h3 hT (fun r I' g1 g2 g3 g4 g5 g6 g7 g8 g9 g10 g11 g12 hv hA' => hQ _ _ g1 hA' (hv _ rfl) g2 g3 g4 g5 g6 g7 g8 g9 g10 g11 g12) _ 0 (I 235 6) (uI I 235 8 0) (Rg.u hR (Pr_f rfl)) (fun ka ja hk => (uI_o (show ¬ (ka = 235 ∧ ja = 8) from by first | (intro e; obtain ⟨rfl, rfl⟩ := e; exact hk (by decide)) | omega))) (show (0 : Int) ≤ (0 : Int) from Int.le_refl _) (show ((0 : Int) : Int) ≤ 9999 from by first | with_reducible assumption | omega | (simp only [wr, wl] at *; omega)) (show (0 : Int) ≤ (I 235 6) from by first | with_reducible assumption | omega | (simp only [wr, wl] at *; omega)) (show ((I 235 6) : Int) ≤ 64 from by first | with_reducible assumption | omega | (simp only [wr, wl] at *; omega)) (show (I 235 6) = I 235 6 from by first | omega | (simp only [wr, wl] at *; omega)) (show (I 235 7) = I 235 7 from by first | omega | (simp only [wr, wl] at *; omega)) (show (0 : Int) = 0 → ((I 235 7) - (I 235 6) ≤ 4 ∧ 48 ≤ tt (I 235 6) ∧ tt (I 235 6) ≤ 57) from by first | with_reducible assumption | omega | (simp only [wr, wl] at *; omega)) (show ¬ (0 : Int) = 0 → (0 : Int) = 0 ∧ (I 235 6) = (I 235 6) ∧ ¬ ((I 235 7) - (I 235 6) ≤ 4 ∧ 48 ≤ tt (I 235 6) ∧ tt (I 235 6) ≤ 57) from by first | omega | (simp only [wr, wl] at *; omega)) (show (I 235 6) ≤ (I 235 6) from Int.le_refl _) (show (I 235 6) ≤ (I 235 7) from by first | with_reducible assumption | omega | (simp only [wr, wl] at *; omega)) (show (0 : Int) = vF tt (I 235 6) (Int.toNat ((I 235 6) - (I 235 6))) from (by rw [show Int.toNat ((I 235 6) - (I 235 6)) = 0 from by omega]; rfl)) (show (0 : Int) = 0 ∨ (0 : Int) = 1 from by first | omega | (simp only [wr, wl] at *; omega)) (Nat.lt_succ_self _)
    ·
      refine ⟨_, rfl, (by decide), (by decide), ?_⟩
      refine ⟨_, rfl, (by decide), ?_⟩
      refine r_number9_l hF hR hl ht h1 h2 h3 hT (fun r I' g1 g2 g3 g4 g5 g6 g7 g8 g9 g10 g11 g12 hv hA' => hQ _ _ g1 hA' (hv _ rfl) g2 g3 g4 g5 g6 g7 g8 g9 g10 g11 g12) _ 0 (I 235 6) (uI I 235 8 1) (Rg.u hR (Pr_f rfl)) (fun ka ja hk => (uI_o (show ¬ (ka = 235 ∧ ja = 8) from by first | (intro e; obtain ⟨rfl, rfl⟩ := e; exact hk (by decide)) | omega))) (show (0 : Int) ≤ (0 : Int) from Int.le_refl _) (show ((0 : Int) : Int) ≤ 9999 from by first | with_reducible assumption | omega | (simp only [wr, wl] at *; omega)) (show (0 : Int) ≤ (I 235 6) from by first | with_reducible assumption | omega | (simp only [wr, wl] at *; omega)) (show ((I 235 6) : Int) ≤ 64 from by first | with_reducible assumption | omega | (simp only [wr, wl] at *; omega)) (show (I 235 6) = I 235 6 from by first | omega | (simp only [wr, wl] at *; omega)) (show (I 235 7) = I 235 7 from by first | omega | (simp only [wr, wl] at *; omega)) (show (1 : Int) = 0 → ((I 235 7) - (I 235 6) ≤ 4 ∧ 48 ≤ tt (I 235 6) ∧ tt (I 235 6) ≤ 57) from by first | with_reducible assumption | omega | (simp only [wr, wl] at *; omega)) (show ¬ (1 : Int) = 0 → (0 : Int) = 0 ∧ (I 235 6) = (I 235 6) ∧ ¬ ((I 235 7) - (I 235 6) ≤ 4 ∧ 48 ≤ tt (I 235 6) ∧ tt (I 235 6) ≤ 57) from by first | omega | (simp only [wr, wl] at *; omega)) (show (I 235 6) ≤ (I 235 6) from Int.le_refl _) (show (I 235 6) ≤ (I 235 7) from by first | with_reducible assumption | omega | (simp only [wr, wl] at *; omega)) (show (0 : Int) = vF tt (I 235 6) (Int.toNat ((I 235 6) - (I 235 6))) from (by rw [show Int.toNat ((I 235 6) - (I 235 6)) = 0 from by omega]; rfl)) (show (1 : Int) = 0 ∨ (1 : Int) = 1 from by first | omega | (simp only [wr, wl] at *; omega)) (Nat.lt_succ_self _)
end RW
