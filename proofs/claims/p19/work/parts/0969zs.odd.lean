/-! what odd answers. Own work (scripts laid by wip/pm/gen34.py). -/
section OD11
variable {G : pG} {d : Nat} {F : pF} {I : pI} {Q : Option pV → pF → pI → Prop}
theorem RV_of {fn : Nat → Int} {m : Nat} (hb : ∀ i, fn i ≤ 2000000000) : ∀ k, k < (OFs fn m).2.2 → (0 ≤ (OFs fn m).1 k ∧ (OFs fn m).1 k ≤ 2000000000) ∧ 0 ≤ (OFs fn m).2.1 k ∧ (OFs fn m).2.1 k < m := fun k hk => by
  obtain ⟨p, a, b, c, d⟩ := OFs_v m k hk
  have := hb p
  rw [c, d]
  omega
theorem RV_14 {fn : Nat → Int} (hb : ∀ i, fn i ≤ 2000000000) : ∀ k, k < (OFs fn 14).2.2 → (0 ≤ (OFs fn 14).1 k ∧ (OFs fn 14).1 k ≤ 2000000000) ∧ 0 ≤ (OFs fn 14).2.1 k ∧ (OFs fn 14).2.1 k < 14 := fun k hk => by
  have z := RV_of hb k hk
  omega
theorem c_val11 (hF : FS F) (hR : Rg I) {v0 : Int} {V P : Nat → Int} {n : Nat} (ho : ORC I V P n) (hV : ∀ k, k < n → (0 ≤ V k ∧ V k ≤ 2000000000) ∧ 0 ≤ P k ∧ P k < 14) (hi : 0 ≤ v0 ∧ v0 < (n : Int)) (hQ : ∀ r : Int, iR r → (r = V (Int.toNat v0) ∧ 0 ≤ r ∧ r ≤ 2000000000) → Q (some (vi r)) F I) : CallN G d kX3_valueAt [vr 223, vi v0] NP F I Q := by
  refine CallN_in (fun hok hA => CallN_out ?_)
  have iv0 : -2147483648 ≤ v0 ∧ v0 < 2147483648 := hok (vi v0) (by simp)
  have e1 := ho.1
  have e2 := ho.2.1
  refine Call_wp (lv := [some (vr 223), some (vi v0)]) (by decide) ckX3_valueAt [] rfl rfl ?_
  refine ⟨fun c => absurd c (show (¬ ((v0 : Int) < 0)) from by first | omega | (simp only [wr, wl] at *; omega)), fun _ => ?_⟩
  refine ⟨_, rfl, (by decide), ?_⟩
  have z1 : (I 223 2) = (n : Int) := ho.1
  have a2 : -2147483648 ≤ (I 223 2) ∧ (I 223 2) < 2147483648 := hA.1 _ _
  refine ⟨fun (c3 : (((I 223 2) : Int) ≤ v0)) => ?_, fun (c3 : (¬ (((I 223 2) : Int) ≤ v0))) => ?_⟩
  ·
    exact ⟨rfl, fun hv hA' => hQ _ (hv _ rfl) ((by
                              have z := hV (Int.toNat v0) (by omega)
                              omega))⟩
  ·
    refine ⟨fun c => absurd c (show (¬ ((14 : Int) ≤ v0)) from by first | omega | (simp only [wr, wl] at *; omega)), fun _ => ?_⟩
    refine ⟨_, rfl, (by decide), ?_⟩
    refine fun w0 hw0 => ?_; obtain rfl : w0 = some 224 := hw0.symm.trans (FS.g hF rfl)
    refine ⟨_, rfl, (by decide), (show (0 : Int) ≤ v0 from by first | with_reducible assumption | omega | (simp only [wr, wl] at *; omega)), (show v0 < (14 : Int) from by first | with_reducible assumption | omega | (simp only [wr, wl] at *; omega)), ?_⟩
    have z4 : (I 224 (Int.toNat v0)) = V (Int.toNat v0) := (congrArg (I 224) (by omega)).trans (ho.2.2 (Int.toNat v0) (by omega)).1
    have z5 := hV (Int.toNat v0) (by omega)
    exact ⟨rfl, fun hv hA' => hQ _ (hv _ rfl) ((by
                              have z := hV (Int.toNat v0) (by omega)
                              omega))⟩
end OD11
