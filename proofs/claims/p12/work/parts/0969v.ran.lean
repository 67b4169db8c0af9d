/-! what ran answers. Own work (scripts laid by wip/pm/gen34.py). -/
section RA
variable {G : pG} {d : Nat} {F : pF} {I : pI} {Q : Option pV → pF → pI → Prop}
theorem c_ran10 (hF : FS F) (hR : Rg I) {v0 : Int}  (hQ : ∀ (r : Int) (I' : pI), Rg I' → AR I' → iR r → (∀ k j, ¬ (k = 203) → I' k j = I k j) → ((¬ (0 ≤ v0 ∧ v0 ≤ 3) → r = -1000001) ∧ ((0 ≤ v0 ∧ v0 ≤ 3) → (I 1 7 = 0 → r = -1000002) ∧ (¬ I 1 7 = 0 → r = I 6 (Int.toNat v0)))) → Q (some (vi r)) F I') : CallN G (d + 2) kX11_ran [vr 0, vi v0] NP F I Q := by
  refine CallN_in (fun hok hA => CallN_out ?_)
  have iv0 : -2147483648 ≤ v0 ∧ v0 < 2147483648 := hok (vi v0) (by simp)
  refine Call_wp (lv := [some (vr 0), some (vi v0)]) (by decide) ckX11_ran [] rfl rfl ?_
  refine s_X11_within (fun (w1 : ((0 : Int) ≤ v0 ∧ (v0 : Int) ≤ 3)) => ?_) (fun (w1 : ¬ ((0 : Int) ≤ v0 ∧ (v0 : Int) ≤ 3)) => ?_)
  ·
    refine ⟨fun _ => ?_, fun c => absurd c (show (¬ (1 : Int) = 0) from by decide)⟩
    refine ⟨_, rfl, (by decide), ?_⟩
    refine fun w0 hw0 => ?_; obtain rfl : w0 = some 1 := hw0.symm.trans (FS.g hF rfl)
    refine ⟨_, rfl, (by decide), ?_⟩
    have r2 : 0 ≤ (I 1 7) ∧ (I 1 7) ≤ 1 := hR.b (c := 8) (m := 12) rfl (by decide) ⟨by decide, by decide⟩
    have a3 : -2147483648 ≤ (I 1 7) ∧ (I 1 7) < 2147483648 := hA.1 _ _
    refine ⟨fun (c4 : (((I 1 7) : Int) = 0)) => ?_, fun (c4 : (¬ (((I 1 7) : Int) = 0))) => ?_⟩
    ·
      refine ⟨⟨_, rfl, (by decide)⟩, ?_⟩
      refine s_X11_refuse hF (e := 2) (by decide) ?_
      exact ⟨rfl, fun hv hA' => hQ _ _ (Rg.u hR (Pr_f rfl)) hA' (hv _ rfl) (fun ka ja hk => (uI_o (show ¬ (ka = 203 ∧ ja = 2) from by omega))) (show (¬ (0 ≤ v0 ∧ v0 ≤ 3) → ((-1000002) : Int) = -1000001) ∧ ((0 ≤ v0 ∧ v0 ≤ 3) → (I 1 7 = 0 → ((-1000002) : Int) = -1000002) ∧ (¬ I 1 7 = 0 → ((-1000002) : Int) = I 6 (Int.toNat v0))) from (by
                              refine ⟨fun z => ?_, fun z => ⟨fun y => ?_, fun y => ?_⟩⟩ <;> omega))⟩
    ·
      refine ⟨_, rfl, (by decide), ?_⟩
      refine fun w0 hw0 => ?_; obtain rfl : w0 = some 1 := hw0.symm.trans (FS.g hF rfl)
      refine ⟨⟨_, rfl, (by decide)⟩, ?_⟩
      refine Call_wp (lv := [some (vr 1), some (vi v0)]) (by decide) ckX8_ranAt [] rfl rfl ?_
      refine ⟨fun c => absurd c (show (¬ ((v0 : Int) < 0)) from by first | omega | (simp only [wr, wl] at *; omega)), fun _ => ?_⟩
      refine ⟨fun c => absurd c (show (¬ ((4 : Int) ≤ v0)) from by first | omega | (simp only [wr, wl] at *; omega)), fun _ => ?_⟩
      refine ⟨_, rfl, (by decide), ?_⟩
      refine fun w0 hw0 => ?_; obtain rfl : w0 = some 6 := hw0.symm.trans (FS.g hF rfl)
      refine ⟨_, rfl, (by decide), (show (0 : Int) ≤ v0 from by first | omega | (simp only [wr, wl] at *; omega)), (show v0 < (4 : Int) from by first | omega | (simp only [wr, wl] at *; omega)), ?_⟩
      refine ⟨rfl, ?_⟩
      exact ⟨rfl, fun hv hA' => hQ _ _ hR hA' (hv _ rfl) (fun _ _ _ => rfl) (show (¬ (0 ≤ v0 ∧ v0 ≤ 3) → ((I 6 (Int.toNat v0)) : Int) = -1000001) ∧ ((0 ≤ v0 ∧ v0 ≤ 3) → (I 1 7 = 0 → ((I 6 (Int.toNat v0)) : Int) = -1000002) ∧ (¬ I 1 7 = 0 → ((I 6 (Int.toNat v0)) : Int) = I 6 (Int.toNat v0))) from (by
                              refine ⟨fun z => ?_, fun z => ⟨fun y => ?_, fun y => ?_⟩⟩ <;> omega))⟩
  ·
    refine ⟨fun c => absurd (show ((0 : Int) = 0) from by decide) c, fun _ => ?_⟩
    refine ⟨⟨_, rfl, (by decide)⟩, ?_⟩
    refine s_X11_refuse hF (e := 1) (by decide) ?_
    exact ⟨rfl, fun hv hA' => hQ _ _ (Rg.u hR (Pr_f rfl)) hA' (hv _ rfl) (fun ka ja hk => (uI_o (show ¬ (ka = 203 ∧ ja = 1) from by omega))) (show (¬ (0 ≤ v0 ∧ v0 ≤ 3) → ((-1000001) : Int) = -1000001) ∧ ((0 ≤ v0 ∧ v0 ≤ 3) → (I 1 7 = 0 → ((-1000001) : Int) = -1000002) ∧ (¬ I 1 7 = 0 → ((-1000001) : Int) = I 6 (Int.toNat v0))) from (by
                              refine ⟨fun z => ?_, fun z => ⟨fun y => ?_, fun y => ?_⟩⟩ <;> omega))⟩
theorem r_ran10 (hF : FS F) (hR : Rg I) {v0 : Int}  (hQ : ∀ (r : Int) (I' : pI), Rg I' → AR I' → iR r → (∀ k j, ¬ (k = 238) → I' k j = I k j) → ((¬ (0 ≤ v0 ∧ v0 ≤ 3) → r = -1000001) ∧ ((0 ≤ v0 ∧ v0 ≤ 3) → (I 236 9 = 0 → r = -1000002) ∧ (¬ I 236 9 = 0 → r = I 236 (10 + Int.toNat v0)))) → Q (some (vi r)) F I') : CallN G (d + 1) kX12_ran [vr 235, vi v0] NP F I Q := by
  refine CallN_in (fun hok hA => CallN_out ?_)
  have iv0 : -2147483648 ≤ v0 ∧ v0 < 2147483648 := hok (vi v0) (by simp)
  refine Call_wp (lv := [some (vr 235), some (vi v0)]) (by decide) ckX12_ran [] rfl rfl ?_
  refine s_X12_within (fun (w1 : ((0 : Int) ≤ v0 ∧ (v0 : Int) ≤ 3)) => ?_) (fun (w1 : ¬ ((0 : Int) ≤ v0 ∧ (v0 : Int) ≤ 3)) => ?_)
  ·
    refine ⟨fun _ => ?_, fun c => absurd c (show (¬ (1 : Int) = 0) from by decide)⟩
    refine ⟨_, rfl, (by decide), ?_⟩
    refine fun w0 hw0 => ?_; obtain rfl : w0 = some 236 := hw0.symm.trans (FS.g hF rfl)
    refine ⟨_, rfl, (by decide), (by decide), (by decide), ?_⟩
    have a2 : -2147483648 ≤ (I 236 9) ∧ (I 236 9) < 2147483648 := hA.1 _ _
    refine ⟨fun (c3 : (¬ ((I 236 9) : Int) = 0)) => ?_, fun (c3 : (((I 236 9) : Int) = 0)) => ?_⟩
    ·
      refine ⟨_, rfl, (by decide), ?_⟩
      refine fun w0 hw0 => ?_; obtain rfl : w0 = some 236 := hw0.symm.trans (FS.g hF rfl)
      have n4 : (wr (10 + v0)) = 10 + v0 := wr_id (show -2147483648 ≤ (10 + v0 : Int) ∧ (10 + v0 : Int) < 2147483648 from by omega)
      refine ⟨_, rfl, (by decide), (show (0 : Int) ≤ (wr (10 + v0)) from by first | omega | (simp only [wr, wl] at *; omega)), (show (wr (10 + v0)) < (1340 : Int) from by first | omega | (simp only [wr, wl] at *; omega)), ?_⟩
      have z5 : (I 236 (Int.toNat (wr (10 + v0)))) = I 236 (10 + Int.toNat v0) := congrArg (I 236) (by omega)
      exact ⟨rfl, fun hv hA' => hQ _ _ hR hA' (hv _ rfl) (fun _ _ _ => rfl) (show (¬ (0 ≤ v0 ∧ v0 ≤ 3) → ((I 236 (Int.toNat (wr (10 + v0)))) : Int) = -1000001) ∧ ((0 ≤ v0 ∧ v0 ≤ 3) → (I 236 9 = 0 → ((I 236 (Int.toNat (wr (10 + v0)))) : Int) = -1000002) ∧ (¬ I 236 9 = 0 → ((I 236 (Int.toNat (wr (10 + v0)))) : Int) = I 236 (10 + Int.toNat v0))) from (by
                              refine ⟨fun z => ?_, fun z => ⟨fun y => ?_, fun y => ?_⟩⟩ <;> omega))⟩
    ·
      refine ⟨⟨_, rfl, (by decide)⟩, ?_⟩
      refine s_X12_finding hF (v := (-1000002)) (by decide) ?_
      exact ⟨rfl, fun hv hA' => hQ _ _ (Rg.u hR (Pr_f rfl)) hA' (hv _ rfl) (fun ka ja hk => (uI_o (show ¬ (ka = 238 ∧ ja = 2) from by omega))) (show (¬ (0 ≤ v0 ∧ v0 ≤ 3) → ((-1000002) : Int) = -1000001) ∧ ((0 ≤ v0 ∧ v0 ≤ 3) → (I 236 9 = 0 → ((-1000002) : Int) = -1000002) ∧ (¬ I 236 9 = 0 → ((-1000002) : Int) = I 236 (10 + Int.toNat v0))) from (by
                              refine ⟨fun z => ?_, fun z => ⟨fun y => ?_, fun y => ?_⟩⟩ <;> omega))⟩
  ·
    refine ⟨fun c => absurd (show ((0 : Int) = 0) from by decide) c, fun _ => ?_⟩
    refine ⟨⟨_, rfl, (by decide)⟩, ?_⟩
    refine s_X12_finding hF (v := (-1000001)) (by decide) ?_
    exact ⟨rfl, fun hv hA' => hQ _ _ (Rg.u hR (Pr_f rfl)) hA' (hv _ rfl) (fun ka ja hk => (uI_o (show ¬ (ka = 238 ∧ ja = 1) from by omega))) (show (¬ (0 ≤ v0 ∧ v0 ≤ 3) → ((-1000001) : Int) = -1000001) ∧ ((0 ≤ v0 ∧ v0 ≤ 3) → (I 236 9 = 0 → ((-1000001) : Int) = -1000002) ∧ (¬ I 236 9 = 0 → ((-1000001) : Int) = I 236 (10 + Int.toNat v0))) from (by
                              refine ⟨fun z => ?_, fun z => ⟨fun y => ?_, fun y => ?_⟩⟩ <;> omega))⟩
end RA
theorem ran_e {I J : pI} {w r r' : Int} (e7 : I 1 7 = I 236 9) (e6 : ∀ j, j < 4 → I 6 j = I 236 (10 + j)) (h4 : ∀ k j, 235 ≤ k → J k j = I k j) (c : (¬ (0 ≤ w ∧ w ≤ 3) → r = -1000001) ∧ ((0 ≤ w ∧ w ≤ 3) → (I 1 7 = 0 → r = -1000002) ∧ (¬ I 1 7 = 0 → r = I 6 (Int.toNat w)))) (d : (¬ (0 ≤ w ∧ w ≤ 3) → r' = -1000001) ∧ ((0 ≤ w ∧ w ≤ 3) → (J 236 9 = 0 → r' = -1000002) ∧ (¬ J 236 9 = 0 → r' = J 236 (10 + Int.toNat w)))) : r = r' := by
  rw [h4 236 9 (by decide), ← e7] at d
  by_cases v : 0 ≤ w ∧ w ≤ 3
  · by_cases h : I 1 7 = 0
    · exact ((c.2 v).1 h).trans ((d.2 v).1 h).symm
    · rw [(c.2 v).2 h, (d.2 v).2 h, h4 236 _ (by decide)]
      exact e6 _ (by omega)
  · exact (c.1 v).trans (d.1 v).symm
