/-! what odd answers. Own work (scripts laid by wip/pm/gen34.py). -/
section OD11
variable {G : pG} {d : Nat} {F : pF} {I : pI} {Q : Option pV → pF → pI → Prop}
theorem RV_of {fn : Nat → Int} {m : Nat} (hb : ∀ i, fn i ≤ 2000000000) : ∀ k, k < (OFs fn m).2.2 → (0 ≤ (OFs fn m).1 k ∧ (OFs fn m).1 k ≤ 2000000000) ∧ 0 ≤ (OFs fn m).2.1 k ∧ (OFs fn m).2.1 k < m := fun k hk => by
  obtain ⟨p, a, b, c, d⟩ := OFs_v m k hk
  have := hb p
  rw [c, d]
  omega
theorem RV_14 {fn : Nat → Int} (hb : ∀ i, fn i ≤ 2000000000) : ∀ k, k < (OFs fn 14).2.2 → (0 ≤ (OFs fn 14).1 k ∧ (OFs fn 14).1 k ≤ 2000000000) ∧ 0 ≤ (OFs fn 14).2.1 k ∧ (OFs fn 14).2.1 k < 14 := fun k hk => by
  have z := RV_of hb k hk
  omega
theorem nmF_b {S L : Nat → Int} (hr : RB S L) {n : Nat} {w : Int} : nmF S L n w ≤ 2000000000 := by
  have a := hr.2 (Int.toNat (tpF L n))
  have b := hr.1 (Int.toNat (ydF S L n 2))
  have c := hr.1 (Int.toNat (bkF L n 20))
  unfold nmF
  (repeat' split) <;> omega
theorem c_val11 (hF : FS F) (hR : Rg I) {v0 : Int} {V P : Nat → Int} {n : Nat} (ho : ORC I V P n) (hV : ∀ k, k < n → (0 ≤ V k ∧ V k ≤ 2000000000) ∧ 0 ≤ P k ∧ P k < 14) (hi : 0 ≤ v0 ∧ v0 < (n : Int)) (hQ : ∀ r : Int, iR r → (r = V (Int.toNat v0) ∧ 0 ≤ r ∧ r ≤ 2000000000) → Q (some (vi r)) F I) : CallN G d kX3_valueAt [vr 223, vi v0] NP F I Q := by
  refine CallN_in (fun hok hA => CallN_out ?_)
  have iv0 : -2147483648 ≤ v0 ∧ v0 < 2147483648 := hok (vi v0) (by simp)
  have e1 := ho.1
  have e2 := ho.2.1
  refine Call_wp (lv := [some (vr 223), some (vi v0)]) (by decide) ckX3_valueAt [] rfl rfl ?_
  refine ⟨fun c => absurd c (show (¬ ((v0 : Int) < 0)) from by first | omega | (simp only [wr, wl] at *; omega)), fun _ => ?_⟩
  refine ⟨_, rfl, (by decide), ?_⟩
  have z1 : (I 223 2) = (n : Int) := ho.1
  have a2 : -2147483648 ≤ (I 223 2) ∧ (I 223 2) < 2147483648 := hA.1 _ _
  refine ⟨fun (c3 : (((I 223 2) : Int) ≤ v0)) => ?_, fun (c3 : (¬ (((I 223 2) : Int) ≤ v0))) => ?_⟩
  ·
    exact ⟨rfl, fun hv hA' => hQ _ (hv _ rfl) ((by
                              have z := hV (Int.toNat v0) (by omega)
                              omega))⟩
  ·
    refine ⟨fun c => absurd c (show (¬ ((14 : Int) ≤ v0)) from by first | omega | (simp only [wr, wl] at *; omega)), fun _ => ?_⟩
    refine ⟨_, rfl, (by decide), ?_⟩
    refine fun w0 hw0 => ?_; obtain rfl : w0 = some 224 := hw0.symm.trans (FS.g hF rfl)
    refine ⟨_, rfl, (by decide), (show (0 : Int) ≤ v0 from by first | with_reducible assumption | omega | (simp only [wr, wl] at *; omega)), (show v0 < (14 : Int) from by first | with_reducible assumption | omega | (simp only [wr, wl] at *; omega)), ?_⟩
    have z4 : (I 224 (Int.toNat v0)) = V (Int.toNat v0) := (congrArg (I 224) (by omega)).trans (ho.2.2 (Int.toNat v0) (by omega)).1
    have z5 := hV (Int.toNat v0) (by omega)
    exact ⟨rfl, fun hv hA' => hQ _ (hv _ rfl) ((by
                              have z := hV (Int.toNat v0) (by omega)
                              omega))⟩
end OD11
def fnN (I : pI) (v0 v1 : Int) (i : Nat) : Int := if (i : Int) < I 236 0 then (if I 236 (304 + 66 * i + 1) = v0 then nmF (SFI I i) (LFI I i) (Int.toNat (NFI I i)) v1 else -1) else -1
theorem fnN_c {I : pI} (hP : LPc I) (eO : I 1 1 = I 236 0) {v0 v1 : Int} : ∀ i : Nat, (i : Int) < I 1 1 → fnN I v0 v1 i = if I (1 + 19 + 5 * i) 1 = v0 then nmF (SFI I i) (LFI I i) (Int.toNat (NFI I i)) v1 else -1 := fun i hi => by
  obtain ⟨⟨_, e1, _, _⟩, _⟩ := hP i (by omega)
  unfold fnN
  rw [if_pos (by omega), show 1 + 19 + 5 * i = 20 + 5 * i from by omega, e1]
theorem fnN_n {I : pI} (eO : I 1 1 = I 236 0) {v0 v1 : Int} : ∀ i : Nat, ¬ (i : Int) < I 1 1 → fnN I v0 v1 i = -1 := fun i hi => by
  unfold fnN
  rw [if_neg (by omega)]
theorem fnN_r {I J : pI} (h4 : ∀ j, J 236 j = I 236 j) {v0 v1 : Int} : ∀ i : Nat, (i : Int) < J 236 0 → fnN I v0 v1 i = if J 236 (304 + 66 * i + 1) = v0 then nmF (SFI I i) (LFI I i) (Int.toNat (NFI I i)) v1 else -1 := fun i hi => by
  rw [h4] at hi
  unfold fnN
  rw [if_pos hi, h4]
theorem fnN_m {I J : pI} (h4 : ∀ j, J 236 j = I 236 j) {v0 v1 : Int} : ∀ i : Nat, ¬ (i : Int) < J 236 0 → fnN I v0 v1 i = -1 := fun i hi => by
  rw [h4] at hi
  unfold fnN
  rw [if_neg hi]
theorem fnN_b {I : pI} (hL : LRc I) {v0 v1 : Int} : ∀ i, fnN I v0 v1 i ≤ 2000000000 := fun i => by
  unfold fnN
  by_cases c : (i : Int) < I 236 0
  · rw [if_pos c]
    by_cases d : I 236 (304 + 66 * i + 1) = v0
    · rw [if_pos d]; exact nmF_b (REQ_S (hL i c)).2.2.2.2
    · rw [if_neg d]; omega
  · rw [if_neg c]; omega
