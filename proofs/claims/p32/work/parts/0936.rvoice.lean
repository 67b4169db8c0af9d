/-! voices of the reference, from any state. Own work (scripts laid by wip/pm/gen30.py). -/
section RV
variable {G : pG} {d : Nat} {F : pF} {I : pI} {Q : Option pV → pF → pI → Prop}
theorem r_began (hF : FS F) (hR : Rg I) {v0 : Int}  (hQ : ∀ (I' : pI), Rg I' → AR I' → (∀ k j, ¬ ((k = 235 ∧ (j = 31)) ∨ k = 249) → I' k j = I k j) → Q none F I') : CallN G d kX12_began [vr 235, vi v0] NP F I Q := by
  refine CallN_in (fun hok hA => CallN_out ?_)
  have iv0 : -2147483648 ≤ v0 ∧ v0 < 2147483648 := hok (vi v0) (by simp)
  refine Call_wp (lv := [some (vr 235), some (vi v0)]) (by decide) ckX12_began [] rfl rfl ?_
  refine ⟨_, rfl, (by decide), ?_⟩
  have r1 : 0 ≤ (I 235 31) ∧ (I 235 31) ≤ 30 := Rg.f31 hR
  have a2 : -2147483648 ≤ (I 235 31) ∧ (I 235 31) < 2147483648 := hA.1 _ _
  refine ⟨fun (c3 : ((30 : Int) ≤ (I 235 31))) => ?_, fun (c3 : (¬ ((30 : Int) ≤ (I 235 31)))) => ?_⟩
  ·
    exact ⟨rfl, fun hv hA' => hQ _ hR hA' (fun _ _ _ => rfl)⟩
  ·
    refine ⟨_, rfl, (by decide), ?_⟩
    refine fun w0 hw0 => ?_; obtain rfl : w0 = some 249 := hw0.symm.trans (FS.g hF rfl)
    refine ⟨_, rfl, (by decide), ?_⟩
    refine ⟨_, rfl, (by decide), (show (0 : Int) ≤ (I 235 31) from by first | omega | (simp only [wr, wl] at *; omega)), (show (I 235 31) < (30 : Int) from by first | omega | (simp only [wr, wl] at *; omega)), ?_⟩
    refine ⟨_, rfl, (by decide), ?_⟩
    refine ⟨_, rfl, (by decide), ?_⟩
    have n4 : (wr ((I 235 31) + 1)) = (I 235 31) + 1 := wr_id (show -2147483648 ≤ ((I 235 31) + 1 : Int) ∧ ((I 235 31) + 1 : Int) < 2147483648 from by omega)
    have p5 : (0 : Int) ≤ (wr ((I 235 31) + 1)) ∧ ((wr ((I 235 31) + 1)) : Int) ≤ 30 := by first | omega | (simp only [wr, wl] at *; omega)
    exact ⟨rfl, fun hv hA' => hQ _ (Rg.u (Rg.u hR (Pr_p (k := 249) rfl _ _)) (Pr_x31 p5)) hA' (fun ka ja hk => ((uI_o (show ¬ (ka = 235 ∧ ja = 31) from by omega))).trans ((uI_o (show ¬ (ka = 249 ∧ ja = (Int.toNat (I 235 31))) from by omega))))⟩
end RV
