/-! what odd answers. Own work (scripts laid by wip/pm/gen34.py). -/
section OD11
variable {G : pG} {d : Nat} {F : pF} {I : pI} {Q : Option pV → pF → pI → Prop}
def pW (V : Nat → Int) (n : Nat) (s : Int) : Int := (V (n - 1) - V 0) * s
theorem wlW {V : Nat → Int} {n : Nat} {x s : Int} (hx : x = V (n - 1) - V 0) (hb : -2000000000 ≤ x ∧ x ≤ 2000000000) (hs : 0 ≤ s ∧ s ≤ 100) : wl (x * s) = pW V n s ∧ wl (s * x) = pW V n s ∧ -200000000000 ≤ pW V n s ∧ pW V n s ≤ 200000000000 := by
  have e : x * s = pW V n s := by unfold pW; rw [hx]
  have h : (x * s).natAbs ≤ 2000000000 * 100 := by rw [Int.natAbs_mul]; exact Nat.mul_le_mul (by omega) (by omega)
  refine ⟨?_, ?_, by omega, by omega⟩
  · rw [← e]; exact wl_id (by unfold lR; omega)
  · rw [Int.mul_comm, ← e]; exact wl_id (by unfold lR; omega)
/-- the odd piece, or -1 -/
def odF (V P : Nat → Int) (n : Nat) (s : Int) : Int := if n < 3 then -1 else if pW V n s < 100 * (V 1 - V 0) then P 0 else if pW V n s < 100 * (V (n - 1) - V (n - 2)) then P (n - 1) else -1
theorem odF_of {V P : Nat → Int} {n : Nat} {s r : Int} (h : (n < 3 → r = -1) ∧ (¬ n < 3 → (pW V n s < 100 * (V 1 - V 0) → r = P 0) ∧ (¬ pW V n s < 100 * (V 1 - V 0) → (pW V n s < 100 * (V (n - 1) - V (n - 2)) → r = P (n - 1)) ∧ (¬ pW V n s < 100 * (V (n - 1) - V (n - 2)) → r = -1)))) : r = odF V P n s := by
  unfold odF
  by_cases a : n < 3
  · rw [if_pos a]; exact h.1 a
  · rw [if_neg a]
    by_cases b : pW V n s < 100 * (V 1 - V 0)
    · rw [if_pos b]; exact (h.2 a).1 b
    · rw [if_neg b]
      by_cases c : pW V n s < 100 * (V (n - 1) - V (n - 2))
      · rw [if_pos c]; exact ((h.2 a).2 b).1 c
      · rw [if_neg c]; exact ((h.2 a).2 b).2 c
theorem RV_of {fn : Nat → Int} {m : Nat} (hb : ∀ i, fn i ≤ 2000000000) : ∀ k, k < (OFs fn m).2.2 → (0 ≤ (OFs fn m).1 k ∧ (OFs fn m).1 k ≤ 2000000000) ∧ 0 ≤ (OFs fn m).2.1 k ∧ (OFs fn m).2.1 k < m := fun k hk => by
  obtain ⟨p, a, b, c, d⟩ := OFs_v m k hk
  have := hb p
  rw [c, d]
  omega
theorem RV_14 {fn : Nat → Int} (hb : ∀ i, fn i ≤ 2000000000) : ∀ k, k < (OFs fn 14).2.2 → (0 ≤ (OFs fn 14).1 k ∧ (OFs fn 14).1 k ≤ 2000000000) ∧ 0 ≤ (OFs fn 14).2.1 k ∧ (OFs fn 14).2.1 k < 14 := fun k hk => by
  have z := RV_of hb k hk
  omega
theorem nmF_b {S L : Nat → Int} (hr : RB S L) {n : Nat} {w : Int} : nmF S L n w ≤ 2000000000 := by
  have a := hr.2 (Int.toNat (tpF L n))
  have b := hr.1 (Int.toNat (ydF S L n 2))
  have c := hr.1 (Int.toNat (bkF L n 20))
  unfold nmF
  (repeat' split) <;> omega
theorem c_val11 (hF : FS F) (hR : Rg I) {v0 : Int} {V P : Nat → Int} {n : Nat} (ho : ORC I V P n) (hV : ∀ k, k < n → (0 ≤ V k ∧ V k ≤ 2000000000) ∧ 0 ≤ P k ∧ P k < 14) (hi : 0 ≤ v0 ∧ v0 < (n : Int)) (hQ : ∀ r : Int, iR r → (r = V (Int.toNat v0) ∧ 0 ≤ r ∧ r ≤ 2000000000) → Q (some (vi r)) F I) : CallN G d kX3_valueAt [vr 223, vi v0] NP F I Q := by
  refine CallN_in (fun hok hA => CallN_out ?_)
  have iv0 : -2147483648 ≤ v0 ∧ v0 < 2147483648 := hok (vi v0) (by simp)
  have e1 := ho.1
  have e2 := ho.2.1
  refine Call_wp (lv := [some (vr 223), some (vi v0)]) (by decide) ckX3_valueAt [] rfl rfl ?_
  refine ⟨fun c => absurd c (show (¬ ((v0 : Int) < 0)) from by first | omega | (simp only [wr, wl] at *; omega)), fun _ => ?_⟩
  refine ⟨_, rfl, (by decide), ?_⟩
  have z1 : (I 223 2) = (n : Int) := ho.1
  have a2 : -2147483648 ≤ (I 223 2) ∧ (I 223 2) < 2147483648 := hA.1 _ _
  refine ⟨fun (c3 : (((I 223 2) : Int) ≤ v0)) => ?_, fun (c3 : (¬ (((I 223 2) : Int) ≤ v0))) => ?_⟩
  ·
    exact ⟨rfl, fun hv hA' => hQ _ (hv _ rfl) ((by
                              have z := hV (Int.toNat v0) (by omega)
                              omega))⟩
  ·
    refine ⟨fun c => absurd c (show (¬ ((14 : Int) ≤ v0)) from by first | omega | (simp only [wr, wl] at *; omega)), fun _ => ?_⟩
    refine ⟨_, rfl, (by decide), ?_⟩
    refine fun w0 hw0 => ?_; obtain rfl : w0 = some 224 := hw0.symm.trans (FS.g hF rfl)
    refine ⟨_, rfl, (by decide), (show (0 : Int) ≤ v0 from by first | with_reducible assumption | omega | (simp only [wr, wl] at *; omega)), (show v0 < (14 : Int) from by first | with_reducible assumption | omega | (simp only [wr, wl] at *; omega)), ?_⟩
    have z4 : (I 224 (Int.toNat v0)) = V (Int.toNat v0) := (congrArg (I 224) (by omega)).trans (ho.2.2 (Int.toNat v0) (by omega)).1
    have z5 := hV (Int.toNat v0) (by omega)
    exact ⟨rfl, fun hv hA' => hQ _ (hv _ rfl) ((by
                              have z := hV (Int.toNat v0) (by omega)
                              omega))⟩
theorem c_apt11 (hF : FS F) (hR : Rg I) {v0 v1 v2 : Int} {V P : Nat → Int} {n : Nat} (ho : ORC I V P n) (hV : ∀ k, k < n → (0 ≤ V k ∧ V k ≤ 2000000000) ∧ 0 ≤ P k ∧ P k < 14) (h0 : 0 ≤ v0 ∧ v0 < (n : Int)) (h1 : 0 ≤ v1 ∧ v1 < (n : Int)) (h2 : 0 ≤ v2 ∧ v2 ≤ 100) (hQ : ∀ r : Int, iR r → ((r = 1 ∧ pW V n v2 < 100 * (V (Int.toNat v1) - V (Int.toNat v0))) ∨ (r = 0 ∧ ¬ pW V n v2 < 100 * (V (Int.toNat v1) - V (Int.toNat v0)))) → Q (some (vi r)) F I) : CallN G (d + 1) kX3_isApart [vr 223, vi v0, vi v1, vi v2] NP F I Q := by
  refine CallN_in (fun hok hA => CallN_out ?_)
  have iv0 : -2147483648 ≤ v0 ∧ v0 < 2147483648 := hok (vi v0) (by simp)
  have iv1 : -2147483648 ≤ v1 ∧ v1 < 2147483648 := hok (vi v1) (by simp)
  have iv2 : -2147483648 ≤ v2 ∧ v2 < 2147483648 := hok (vi v2) (by simp)
  have e1 := ho.1
  have e2 := ho.2.1
  refine Call_wp (lv := [some (vr 223), some (vi v0), some (vi v1), some (vi v2), none, none, none, none]) (by decide) ckX3_isApart [] rfl rfl ?_
  refine ⟨⟨_, rfl, (by decide)⟩, ?_⟩
  refine c_val11 (v0 := v1) hF hR ho hV (by omega) (fun vr1 hr2 qr3 => ?_)
  have hr2 : -2147483648 ≤ vr1 ∧ vr1 < 2147483648 := hr2
  refine ⟨⟨_, rfl, (by decide)⟩, ?_⟩
  refine c_val11 (v0 := v0) hF hR ho hV (by omega) (fun vr4 hr5 qr6 => ?_)
  have hr5 : -2147483648 ≤ vr4 ∧ vr4 < 2147483648 := hr5
  refine ⟨_, rfl, (by decide), ?_⟩
  have z7 : (I 223 2) = (n : Int) := ho.1
  refine ⟨⟨_, rfl, (by decide)⟩, ?_⟩
  have a8 : -2147483648 ≤ (I 223 2) ∧ (I 223 2) < 2147483648 := hA.1 _ _
  have n9 : (wr ((I 223 2) - 1)) = (I 223 2) - 1 := wr_id (show -2147483648 ≤ ((I 223 2) - 1 : Int) ∧ ((I 223 2) - 1 : Int) < 2147483648 from by omega)
  refine c_val11 (v0 := (wr ((I 223 2) - 1))) hF hR ho hV (by omega) (fun vr10 hr11 qr12 => ?_)
  have hr11 : -2147483648 ≤ vr10 ∧ vr10 < 2147483648 := hr11
  try rw [show Int.toNat (wr ((I 223 2) - 1)) = (n - 1) from by omega] at qr12
  refine ⟨⟨_, rfl, (by decide)⟩, ?_⟩
  refine c_val11 (v0 := 0) hF hR ho hV (by omega) (fun vr13 hr14 qr15 => ?_)
  have hr14 : -2147483648 ≤ vr13 ∧ vr13 < 2147483648 := hr14
  try rw [show Int.toNat (0 : Int) = 0 from by omega] at qr15
  have n16 : (wl (vr1 - vr4)) = vr1 - vr4 := wl_id (show -9223372036854775808 ≤ (vr1 - vr4 : Int) ∧ (vr1 - vr4 : Int) < 9223372036854775808 from by omega)
  have n17 : (wl ((wl (vr1 - vr4)) * 100)) = (wl (vr1 - vr4)) * 100 := wl_id (show -9223372036854775808 ≤ ((wl (vr1 - vr4)) * 100 : Int) ∧ ((wl (vr1 - vr4)) * 100 : Int) < 9223372036854775808 from by omega)
  have n18 : (wl (vr10 - vr13)) = vr10 - vr13 := wl_id (show -9223372036854775808 ≤ (vr10 - vr13 : Int) ∧ (vr10 - vr13 : Int) < 9223372036854775808 from by omega)
  have p19 := wlW (V := V) (n := n) (x := (wl (vr10 - vr13))) (s := v2) (by omega) (by omega) (by omega)
  refine ⟨fun c20 => ?_, fun c20 => ?_⟩
  ·
    have c20 : (((wl ((wl (vr1 - vr4)) * 100)) : Int) ≤ (wl ((wl (vr10 - vr13)) * v2))) := lcm_le.1 c20
    exact ⟨rfl, (by decide), fun hv hA' => hQ _ (hv _ rfl) (by omega)⟩
  ·
    have c20 : (¬ (((wl ((wl (vr1 - vr4)) * 100)) : Int) ≤ (wl ((wl (vr10 - vr13)) * v2)))) := fun e => c20 (lcm_le.2 e)
    exact ⟨rfl, (by decide), fun hv hA' => hQ _ (hv _ rfl) (by omega)⟩
theorem c_oddp11 (hF : FS F) (hR : Rg I) {v0 : Int} {V P : Nat → Int} {n : Nat} (ho : ORC I V P n) (hV : ∀ k, k < n → (0 ≤ V k ∧ V k ≤ 2000000000) ∧ 0 ≤ P k ∧ P k < 14) (h2 : 0 ≤ v0 ∧ v0 ≤ 100) (hQ : ∀ r : Int, iR r → (r = odF V P n v0 ∧ -1 ≤ r ∧ r ≤ 13) → Q (some (vi r)) F I) : CallN G (d + 2) kX3_oddPiece [vr 223, vi v0] NP F I Q := by
  refine CallN_in (fun hok hA => CallN_out ?_)
  have iv0 : -2147483648 ≤ v0 ∧ v0 < 2147483648 := hok (vi v0) (by simp)
  have e1 := ho.1
  have e2 := ho.2.1
  refine Call_wp (lv := [some (vr 223), some (vi v0), none]) (by decide) ckX3_oddPiece [] rfl rfl ?_
  refine ⟨_, rfl, (by decide), ?_⟩
  have z1 : (I 223 2) = (n : Int) := ho.1
  have a2 : -2147483648 ≤ (I 223 2) ∧ (I 223 2) < 2147483648 := hA.1 _ _
  refine ⟨fun (c3 : (((I 223 2) : Int) < 3)) => ?_, fun (c3 : (¬ (((I 223 2) : Int) < 3))) => ?_⟩
  ·
    exact ⟨rfl, fun hv hA' => hQ _ (hv _ rfl) (show (-1) = odF V P n v0 ∧ -1 ≤ (-1) ∧ (-1) ≤ 13 from (by
                              refine ⟨?_, by omega, by omega⟩
                              refine odF_of ⟨fun a => ?_, fun a => ⟨fun b => ?_, fun b => ⟨fun c => ?_, fun c => ?_⟩⟩⟩
                              all_goals first | omega | (exfalso; omega)))⟩
  ·
    refine ⟨_, rfl, (by decide), ?_⟩
    refine ⟨fun _ => ?_, fun c => absurd (show (((I 223 2) : Int) ≤ 14) from by first | with_reducible assumption | omega | (simp only [wr, wl] at *; omega)) c⟩
    refine ⟨_, rfl, (by decide), ?_⟩
    refine ⟨⟨_, rfl, (by decide)⟩, ?_⟩
    refine c_apt11 (v0 := 0) (v1 := 1) (v2 := v0) hF hR ho hV (by omega) (by omega) (by omega) (fun vr4 hr5 qr6 => ?_)
    have hr5 : -2147483648 ≤ vr4 ∧ vr4 < 2147483648 := hr5
    try rw [show Int.toNat (0 : Int) = 0 from by omega] at qr6
    try rw [show Int.toNat (1 : Int) = 1 from by omega] at qr6
    refine ⟨fun (c7 : ((vr4 : Int) = 0)) => ?_, fun (c7 : (¬ ((vr4 : Int) = 0))) => ?_⟩
    ·
      refine ⟨⟨_, rfl, (by decide)⟩, ?_⟩
      have n8 : (wr ((I 223 2) - 1)) = (I 223 2) - 1 := wr_id (show -2147483648 ≤ ((I 223 2) - 1 : Int) ∧ ((I 223 2) - 1 : Int) < 2147483648 from by omega)
      have n9 : (wr ((wr ((I 223 2) - 1)) - 1)) = (wr ((I 223 2) - 1)) - 1 := wr_id (show -2147483648 ≤ ((wr ((I 223 2) - 1)) - 1 : Int) ∧ ((wr ((I 223 2) - 1)) - 1 : Int) < 2147483648 from by omega)
      refine c_apt11 (v0 := (wr ((wr ((I 223 2) - 1)) - 1))) (v1 := (wr ((I 223 2) - 1))) (v2 := v0) hF hR ho hV (by omega) (by omega) (by omega) (fun vr10 hr11 qr12 => ?_)
      have hr11 : -2147483648 ≤ vr10 ∧ vr10 < 2147483648 := hr11
      try rw [show Int.toNat (wr ((wr ((I 223 2) - 1)) - 1)) = (n - 2) from by omega] at qr12
      try rw [show Int.toNat (wr ((I 223 2) - 1)) = (n - 1) from by omega] at qr12
      refine ⟨fun (c13 : ((vr10 : Int) = 0)) => ?_, fun (c13 : (¬ ((vr10 : Int) = 0))) => ?_⟩
      ·
        exact ⟨rfl, fun hv hA' => hQ _ (hv _ rfl) (show (-1) = odF V P n v0 ∧ -1 ≤ (-1) ∧ (-1) ≤ 13 from (by
                              refine ⟨?_, by omega, by omega⟩
                              refine odF_of ⟨fun a => ?_, fun a => ⟨fun b => ?_, fun b => ⟨fun c => ?_, fun c => ?_⟩⟩⟩
                              all_goals first | omega | (exfalso; omega)))⟩
      ·
        refine ⟨_, rfl, (by decide), ?_⟩
        refine fun w0 hw0 => ?_; obtain rfl : w0 = some 225 := hw0.symm.trans (FS.g hF rfl)
        refine ⟨_, rfl, (by decide), (show (0 : Int) ≤ (wr ((I 223 2) - 1)) from by first | with_reducible assumption | omega | (simp only [wr, wl] at *; omega)), (show (wr ((I 223 2) - 1)) < (14 : Int) from by first | with_reducible assumption | omega | (simp only [wr, wl] at *; omega)), ?_⟩
        have z14 : (I 225 (Int.toNat (wr ((I 223 2) - 1)))) = P (n - 1) := (congrArg (I 225) (by omega)).trans (ho.2.2 (n - 1) (by omega)).2
        have z15 := hV (n - 1) (by omega)
        exact ⟨rfl, fun hv hA' => hQ _ (hv _ rfl) (show (I 225 (Int.toNat (wr ((I 223 2) - 1)))) = odF V P n v0 ∧ -1 ≤ (I 225 (Int.toNat (wr ((I 223 2) - 1)))) ∧ (I 225 (Int.toNat (wr ((I 223 2) - 1)))) ≤ 13 from (by
                              refine ⟨?_, by omega, by omega⟩
                              refine odF_of ⟨fun a => ?_, fun a => ⟨fun b => ?_, fun b => ⟨fun c => ?_, fun c => ?_⟩⟩⟩
                              all_goals first | omega | (exfalso; omega)))⟩
    ·
      refine ⟨_, rfl, (by decide), ?_⟩
      refine fun w0 hw0 => ?_; obtain rfl : w0 = some 225 := hw0.symm.trans (FS.g hF rfl)
      refine ⟨_, rfl, (by decide), (by decide), (by decide), ?_⟩
      have z16 : (I 225 0) = P 0 := (congrArg (I 225) (by omega)).trans (ho.2.2 0 (by omega)).2
      have z17 := hV 0 (by omega)
      exact ⟨rfl, fun hv hA' => hQ _ (hv _ rfl) (show (I 225 0) = odF V P n v0 ∧ -1 ≤ (I 225 0) ∧ (I 225 0) ≤ 13 from (by
                              refine ⟨?_, by omega, by omega⟩
                              refine odF_of ⟨fun a => ?_, fun a => ⟨fun b => ?_, fun b => ⟨fun c => ?_, fun c => ?_⟩⟩⟩
                              all_goals first | omega | (exfalso; omega)))⟩
theorem c_odd11 (hF : FS F) (hR : Rg I) {v0 v1 v2 : Int} (hc : I 1 1 ≤ 14) {SF LF : Nat → Nat → Int} {NF : Nat → Int} (hq : ∀ p : Nat, (p : Int) < I 1 1 → RDS I ((1 + 19 + 5 * p) + 2) (SF p) (LF p) (NF p)) {FN : Nat → Int} (hf : ∀ i : Nat, (i : Int) < I 1 1 → FN i = if I (1 + 19 + 5 * i) 1 = v0 then nmF (SF i) (LF i) (Int.toNat (NF i)) v1 else -1) (hn : ∀ i : Nat, ¬ (i : Int) < I 1 1 → FN i = -1) (hb : ∀ i, FN i ≤ 2000000000) (hQ : ∀ (r : Int) (I' : pI), Rg I' → AR I' → iR r → (∀ k j, ¬ (k = 203 ∨ (223 ≤ k ∧ k < 226) ∨ (20 ≤ k ∧ k < 90 ∧ k % 5 = 2 ∧ 3 ≤ j)) → I' k j = I k j) → ((¬ ((0 ≤ v0 ∧ v0 ≤ 3) ∧ (0 ≤ v1 ∧ v1 ≤ 3) ∧ (0 ≤ v2 ∧ v2 ≤ 100)) → r = -1000001) ∧ (((0 ≤ v0 ∧ v0 ≤ 3) ∧ (0 ≤ v1 ∧ v1 ≤ 3) ∧ (0 ≤ v2 ∧ v2 ≤ 100)) → (odF (OFs FN 14).1 (OFs FN 14).2.1 (OFs FN 14).2.2 v2 < 0 → r = -1000002) ∧ (¬ odF (OFs FN 14).1 (OFs FN 14).2.1 (OFs FN 14).2.2 v2 < 0 → r = odF (OFs FN 14).1 (OFs FN 14).2.1 (OFs FN 14).2.2 v2))) → Q (some (vi r)) F I') : CallN G (d + 7) kX11_odd [vr 0, vi v0, vi v1, vi v2] NP F I Q := by
  refine CallN_in (fun hok hA => CallN_out ?_)
  have iv0 : -2147483648 ≤ v0 ∧ v0 < 2147483648 := hok (vi v0) (by simp)
  have iv1 : -2147483648 ≤ v1 ∧ v1 < 2147483648 := hok (vi v1) (by simp)
  have iv2 : -2147483648 ≤ v2 ∧ v2 < 2147483648 := hok (vi v2) (by simp)
  refine Call_wp (lv := [some (vr 0), some (vi v0), some (vi v1), some (vi v2)]) (by decide) ckX11_odd [] rfl rfl ?_
  refine s_X11_isLot (fun (w1 : ((0 : Int) ≤ v0 ∧ (v0 : Int) ≤ 3)) => ?_) (fun (w1 : ¬ ((0 : Int) ≤ v0 ∧ (v0 : Int) ≤ 3)) => ?_)
  ·
    refine ⟨fun c => absurd c (show (¬ ((1 : Int) = 0)) from by decide), fun _ => ?_⟩
    refine s_X11_isLaw (fun (w2 : ((0 : Int) ≤ v1 ∧ (v1 : Int) ≤ 3)) => ?_) (fun (w2 : ¬ ((0 : Int) ≤ v1 ∧ (v1 : Int) ≤ 3)) => ?_)
    ·
      refine ⟨fun c => absurd c (show (¬ ((1 : Int) = 0)) from by decide), fun _ => ?_⟩
      refine s_X11_within (fun (w3 : ((0 : Int) ≤ v2 ∧ (v2 : Int) ≤ 100)) => ?_) (fun (w3 : ¬ ((0 : Int) ≤ v2 ∧ (v2 : Int) ≤ 100)) => ?_)
      ·
        refine ⟨fun _ => ?_, fun c => absurd c (show (¬ (1 : Int) = 0) from by decide)⟩
        refine ⟨⟨_, rfl, (by decide)⟩, ?_⟩
        refine c_ordn11 (v0 := v0) (v1 := v1) hF hR hc hq hf hn (by omega) (fun I4 hR5 hA6 hW7 qr8 => ?_)
        refine ⟨_, rfl, (by decide), ?_⟩
        refine fun w0 hw0 => ?_; obtain rfl : w0 = some 223 := hw0.symm.trans (FS.g hF rfl)
        refine ⟨⟨_, rfl, (by decide)⟩, ?_⟩
        refine c_oddp11 (v0 := v2) hF hR5 qr8 (RV_14 hb) (by omega) (fun vr9 hr10 qr11 => ?_)
        have hr10 : -2147483648 ≤ vr9 ∧ vr9 < 2147483648 := hr10
        refine ⟨⟨_, rfl, (by decide)⟩, ?_⟩
        refine Call_wp (lv := [some (vr 0), some (vi vr9)]) (by decide) ckX11_orNone [] rfl rfl ?_
        refine ⟨fun (c12 : ((0 : Int) ≤ vr9)) => ?_, fun (c12 : (¬ ((0 : Int) ≤ vr9))) => ?_⟩
        ·
          refine ⟨rfl, ?_⟩
          exact ⟨rfl, fun hv hA' => hQ _ _ hR5 hA' (hv _ rfl) (fun ka ja hk => (hW7 ka ja (by omega))) (show (¬ ((0 ≤ v0 ∧ v0 ≤ 3) ∧ (0 ≤ v1 ∧ v1 ≤ 3) ∧ (0 ≤ v2 ∧ v2 ≤ 100)) → vr9 = -1000001) ∧ (((0 ≤ v0 ∧ v0 ≤ 3) ∧ (0 ≤ v1 ∧ v1 ≤ 3) ∧ (0 ≤ v2 ∧ v2 ≤ 100)) → (odF (OFs FN 14).1 (OFs FN 14).2.1 (OFs FN 14).2.2 v2 < 0 → vr9 = -1000002) ∧ (¬ odF (OFs FN 14).1 (OFs FN 14).2.1 (OFs FN 14).2.2 v2 < 0 → vr9 = odF (OFs FN 14).1 (OFs FN 14).2.1 (OFs FN 14).2.2 v2)) from by
                              refine ⟨fun z => ?_, fun z => ?_⟩
                              · exfalso; omega
                              · rw [← (qr11).1]
                                refine ⟨fun b => ?_, fun b => ?_⟩
                                all_goals first | omega | (exfalso; omega))⟩
        ·
          refine ⟨⟨_, rfl, (by decide)⟩, ?_⟩
          refine s_X11_refuse hF (e := 2) (by decide) ?_
          have u13 : (I4 203 2) = (I 203 2) := hW7 _ _ (by first | decide | omega)
          have a14 : -2147483648 ≤ (I 203 2) ∧ (I 203 2) < 2147483648 := hA.1 _ _
          have a15 : -2147483648 ≤ (I4 203 2) ∧ (I4 203 2) < 2147483648 := hA6.1 _ _
          refine ⟨rfl, ?_⟩
          exact ⟨rfl, fun hv hA' => hQ _ _ (Rg.u hR5 (Pr_f rfl)) hA' (hv _ rfl) (fun ka ja hk => ((uI_o (show ¬ (ka = 203 ∧ ja = 2) from by first | (intro e; obtain ⟨rfl, rfl⟩ := e; exact hk (by decide)) | omega))).trans ((hW7 ka ja (by omega)))) (show (¬ ((0 ≤ v0 ∧ v0 ≤ 3) ∧ (0 ≤ v1 ∧ v1 ≤ 3) ∧ (0 ≤ v2 ∧ v2 ≤ 100)) → (-1000002) = -1000001) ∧ (((0 ≤ v0 ∧ v0 ≤ 3) ∧ (0 ≤ v1 ∧ v1 ≤ 3) ∧ (0 ≤ v2 ∧ v2 ≤ 100)) → (odF (OFs FN 14).1 (OFs FN 14).2.1 (OFs FN 14).2.2 v2 < 0 → (-1000002) = -1000002) ∧ (¬ odF (OFs FN 14).1 (OFs FN 14).2.1 (OFs FN 14).2.2 v2 < 0 → (-1000002) = odF (OFs FN 14).1 (OFs FN 14).2.1 (OFs FN 14).2.2 v2)) from by
                              refine ⟨fun z => ?_, fun z => ?_⟩
                              · exfalso; omega
                              · rw [← (qr11).1]
                                refine ⟨fun b => ?_, fun b => ?_⟩
                                all_goals first | omega | (exfalso; omega))⟩
      ·
        refine ⟨fun c => absurd (show ((0 : Int) = 0) from by decide) c, fun _ => ?_⟩
        refine ⟨⟨_, rfl, (by decide)⟩, ?_⟩
        refine s_X11_refuse hF (e := 1) (by decide) ?_
        exact ⟨rfl, fun hv hA' => hQ _ _ (Rg.u hR (Pr_f rfl)) hA' (hv _ rfl) (fun ka ja hk => (uI_o (show ¬ (ka = 203 ∧ ja = 1) from by first | (intro e; obtain ⟨rfl, rfl⟩ := e; exact hk (by decide)) | omega))) (show (¬ ((0 ≤ v0 ∧ v0 ≤ 3) ∧ (0 ≤ v1 ∧ v1 ≤ 3) ∧ (0 ≤ v2 ∧ v2 ≤ 100)) → (-1000001) = -1000001) ∧ (((0 ≤ v0 ∧ v0 ≤ 3) ∧ (0 ≤ v1 ∧ v1 ≤ 3) ∧ (0 ≤ v2 ∧ v2 ≤ 100)) → (odF (OFs FN 14).1 (OFs FN 14).2.1 (OFs FN 14).2.2 v2 < 0 → (-1000001) = -1000002) ∧ (¬ odF (OFs FN 14).1 (OFs FN 14).2.1 (OFs FN 14).2.2 v2 < 0 → (-1000001) = odF (OFs FN 14).1 (OFs FN 14).2.1 (OFs FN 14).2.2 v2)) from by
                              refine ⟨fun z => ?_, fun z => ?_⟩
                              · first | rfl | omega
                              · exfalso; omega)⟩
    ·
      refine ⟨fun _ => ?_, fun c => absurd (show ((0 : Int) = 0) from by decide) c⟩
      refine ⟨⟨_, rfl, (by decide)⟩, ?_⟩
      refine s_X11_refuse hF (e := 1) (by decide) ?_
      exact ⟨rfl, fun hv hA' => hQ _ _ (Rg.u hR (Pr_f rfl)) hA' (hv _ rfl) (fun ka ja hk => (uI_o (show ¬ (ka = 203 ∧ ja = 1) from by first | (intro e; obtain ⟨rfl, rfl⟩ := e; exact hk (by decide)) | omega))) (show (¬ ((0 ≤ v0 ∧ v0 ≤ 3) ∧ (0 ≤ v1 ∧ v1 ≤ 3) ∧ (0 ≤ v2 ∧ v2 ≤ 100)) → (-1000001) = -1000001) ∧ (((0 ≤ v0 ∧ v0 ≤ 3) ∧ (0 ≤ v1 ∧ v1 ≤ 3) ∧ (0 ≤ v2 ∧ v2 ≤ 100)) → (odF (OFs FN 14).1 (OFs FN 14).2.1 (OFs FN 14).2.2 v2 < 0 → (-1000001) = -1000002) ∧ (¬ odF (OFs FN 14).1 (OFs FN 14).2.1 (OFs FN 14).2.2 v2 < 0 → (-1000001) = odF (OFs FN 14).1 (OFs FN 14).2.1 (OFs FN 14).2.2 v2)) from by
                              refine ⟨fun z => ?_, fun z => ?_⟩
                              · first | rfl | omega
                              · exfalso; omega)⟩
  ·
    refine ⟨fun _ => ?_, fun c => absurd (show ((0 : Int) = 0) from by decide) c⟩
    refine ⟨⟨_, rfl, (by decide)⟩, ?_⟩
    refine s_X11_refuse hF (e := 1) (by decide) ?_
    exact ⟨rfl, fun hv hA' => hQ _ _ (Rg.u hR (Pr_f rfl)) hA' (hv _ rfl) (fun ka ja hk => (uI_o (show ¬ (ka = 203 ∧ ja = 1) from by first | (intro e; obtain ⟨rfl, rfl⟩ := e; exact hk (by decide)) | omega))) (show (¬ ((0 ≤ v0 ∧ v0 ≤ 3) ∧ (0 ≤ v1 ∧ v1 ≤ 3) ∧ (0 ≤ v2 ∧ v2 ≤ 100)) → (-1000001) = -1000001) ∧ (((0 ≤ v0 ∧ v0 ≤ 3) ∧ (0 ≤ v1 ∧ v1 ≤ 3) ∧ (0 ≤ v2 ∧ v2 ≤ 100)) → (odF (OFs FN 14).1 (OFs FN 14).2.1 (OFs FN 14).2.2 v2 < 0 → (-1000001) = -1000002) ∧ (¬ odF (OFs FN 14).1 (OFs FN 14).2.1 (OFs FN 14).2.2 v2 < 0 → (-1000001) = odF (OFs FN 14).1 (OFs FN 14).2.1 (OFs FN 14).2.2 v2)) from by
                              refine ⟨fun z => ?_, fun z => ?_⟩
                              · first | rfl | omega
                              · exfalso; omega)⟩
theorem r_odd11 (hF : FS F) (hR : Rg I) {v0 v1 v2 : Int} {SF LF : Nat → Nat → Int} {NF : Nat → Int} (hq : ∀ p : Nat, (p : Int) < I 236 0 → RDM I p (SF p) (LF p) (NF p)) {FN : Nat → Int} (hf : ∀ i : Nat, (i : Int) < I 236 0 → FN i = if I 236 (304 + 66 * i + 1) = v0 then nmF (SF i) (LF i) (Int.toNat (NF i)) v1 else -1) (hn : ∀ i : Nat, ¬ (i : Int) < I 236 0 → FN i = -1) (hb : ∀ i, FN i ≤ 2000000000) (hQ : ∀ (r : Int) (I' : pI), Rg I' → AR I' → iR r → (∀ k j, ¬ (k = 238 ∨ (k = 235 ∧ (j = 22 ∨ j = 23 ∨ j = 24 ∨ j = 27)) ∨ k = 245 ∨ k = 246) → I' k j = I k j) → ((¬ ((0 ≤ v0 ∧ v0 ≤ 3) ∧ (0 ≤ v1 ∧ v1 ≤ 3) ∧ (0 ≤ v2 ∧ v2 ≤ 100)) → r = -1000001) ∧ (((0 ≤ v0 ∧ v0 ≤ 3) ∧ (0 ≤ v1 ∧ v1 ≤ 3) ∧ (0 ≤ v2 ∧ v2 ≤ 100)) → (odF (OFs FN 14).1 (OFs FN 14).2.1 (OFs FN 14).2.2 v2 < 0 → r = -1000002) ∧ (¬ odF (OFs FN 14).1 (OFs FN 14).2.1 (OFs FN 14).2.2 v2 < 0 → r = odF (OFs FN 14).1 (OFs FN 14).2.1 (OFs FN 14).2.2 v2))) → Q (some (vi r)) F I') : CallN G (d + 8) kX12_odd [vr 235, vi v0, vi v1, vi v2] NP F I Q := by
  refine CallN_in (fun hok hA => CallN_out ?_)
  have iv0 : -2147483648 ≤ v0 ∧ v0 < 2147483648 := hok (vi v0) (by simp)
  have iv1 : -2147483648 ≤ v1 ∧ v1 < 2147483648 := hok (vi v1) (by simp)
  have iv2 : -2147483648 ≤ v2 ∧ v2 < 2147483648 := hok (vi v2) (by simp)
  refine Call_wp (lv := [some (vr 235), some (vi v0), some (vi v1), some (vi v2), none, none, none]) (by decide) ckX12_odd [] rfl rfl ?_
  refine s_X12_isLot (fun (w1 : ((0 : Int) ≤ v0 ∧ (v0 : Int) ≤ 3)) => ?_) (fun (w1 : ¬ ((0 : Int) ≤ v0 ∧ (v0 : Int) ≤ 3)) => ?_)
  ·
    refine ⟨fun c => absurd c (show (¬ ((1 : Int) = 0)) from by decide), fun _ => ?_⟩
    refine s_X12_isLaw (fun (w2 : ((0 : Int) ≤ v1 ∧ (v1 : Int) ≤ 3)) => ?_) (fun (w2 : ¬ ((0 : Int) ≤ v1 ∧ (v1 : Int) ≤ 3)) => ?_)
    ·
      refine ⟨fun c => absurd c (show (¬ ((1 : Int) = 0)) from by decide), fun _ => ?_⟩
      refine s_X12_within (fun (w3 : ((0 : Int) ≤ v2 ∧ (v2 : Int) ≤ 100)) => ?_) (fun (w3 : ¬ ((0 : Int) ≤ v2 ∧ (v2 : Int) ≤ 100)) => ?_)
      ·
        refine ⟨fun _ => ?_, fun c => absurd c (show (¬ (1 : Int) = 0) from by decide)⟩
        refine ⟨⟨_, rfl, (by decide)⟩, ?_⟩
        refine r_ordn11 (v0 := v0) (v1 := v1) hF hR hq hf hn (by omega) (fun I4 hR5 hA6 hW7 qr8 => ?_)
        have e2 := qr8.2.1
        refine ⟨_, rfl, (by decide), ?_⟩
        have z9 : (I4 235 27) = ((OFs FN 14).2.2 : Int) := qr8.1
        have r10 : 0 ≤ (I4 235 27) ∧ (I4 235 27) ≤ 14 := Rg.f27 hR5
        refine ⟨fun (c12 : ((3 : Int) ≤ (I4 235 27))) => ?_, fun (c12 : (¬ ((3 : Int) ≤ (I4 235 27)))) => ?_⟩
        ·
          refine ⟨_, rfl, (by decide), ?_⟩
          refine fun w0 hw0 => ?_; obtain rfl : w0 = some 245 := hw0.symm.trans (FS.g hF rfl)
          have n13 : (wr ((I4 235 27) - 1)) = (I4 235 27) - 1 := wr_id (show -2147483648 ≤ ((I4 235 27) - 1 : Int) ∧ ((I4 235 27) - 1 : Int) < 2147483648 from by omega)
          refine ⟨_, rfl, (by decide), (show (0 : Int) ≤ (wr ((I4 235 27) - 1)) from by first | with_reducible assumption | omega | (simp only [wr, wl] at *; omega)), (show (wr ((I4 235 27) - 1)) < (14 : Int) from by first | with_reducible assumption | omega | (simp only [wr, wl] at *; omega)), ?_⟩
          have z14 : (I4 245 (Int.toNat (wr ((I4 235 27) - 1)))) = (OFs FN 14).1 ((OFs FN 14).2.2 - 1) := (congrArg (I4 245) (by omega)).trans (qr8.2.2 ((OFs FN 14).2.2 - 1) (by omega)).1
          have z15 := (RV_14 hb) ((OFs FN 14).2.2 - 1) (by omega)
          refine ⟨_, rfl, (by decide), ?_⟩
          refine fun w0 hw0 => ?_; obtain rfl : w0 = some 245 := hw0.symm.trans (FS.g hF rfl)
          refine ⟨_, rfl, (by decide), (by decide), (by decide), ?_⟩
          have z16 : (I4 245 0) = (OFs FN 14).1 0 := (congrArg (I4 245) (by omega)).trans (qr8.2.2 0 (by omega)).1
          have z17 := (RV_14 hb) 0 (by omega)
          refine ⟨_, rfl, (by decide), ?_⟩
          refine fun w0 hw0 => ?_; obtain rfl : w0 = some 245 := hw0.symm.trans (FS.g hF rfl)
          refine ⟨_, rfl, (by decide), (by decide), (by decide), ?_⟩
          have z18 : (I4 245 1) = (OFs FN 14).1 1 := (congrArg (I4 245) (by omega)).trans (qr8.2.2 1 (by omega)).1
          have z19 := (RV_14 hb) 1 (by omega)
          refine ⟨_, rfl, (by decide), ?_⟩
          refine fun w0 hw0 => ?_; obtain rfl : w0 = some 245 := hw0.symm.trans (FS.g hF rfl)
          refine ⟨_, rfl, (by decide), (by decide), (by decide), ?_⟩
          have a20 : -2147483648 ≤ (I4 245 1) ∧ (I4 245 1) < 2147483648 := hA6.1 _ _
          have a21 : -2147483648 ≤ (I4 245 0) ∧ (I4 245 0) < 2147483648 := hA6.1 _ _
          have n22 : (wr ((I4 245 1) - (I4 245 0))) = (I4 245 1) - (I4 245 0) := wr_id (show -2147483648 ≤ ((I4 245 1) - (I4 245 0) : Int) ∧ ((I4 245 1) - (I4 245 0) : Int) < 2147483648 from by omega)
          have n23 : (wl (100 * (wr ((I4 245 1) - (I4 245 0))))) = 100 * (wr ((I4 245 1) - (I4 245 0))) := wl_id (show -9223372036854775808 ≤ (100 * (wr ((I4 245 1) - (I4 245 0))) : Int) ∧ (100 * (wr ((I4 245 1) - (I4 245 0))) : Int) < 9223372036854775808 from by omega)
          have a24 : -2147483648 ≤ (I4 245 (Int.toNat (wr ((I4 235 27) - 1)))) ∧ (I4 245 (Int.toNat (wr ((I4 235 27) - 1)))) < 2147483648 := hA6.1 _ _
          have n25 : (wr ((I4 245 (Int.toNat (wr ((I4 235 27) - 1)))) - (I4 245 0))) = (I4 245 (Int.toNat (wr ((I4 235 27) - 1)))) - (I4 245 0) := wr_id (show -2147483648 ≤ ((I4 245 (Int.toNat (wr ((I4 235 27) - 1)))) - (I4 245 0) : Int) ∧ ((I4 245 (Int.toNat (wr ((I4 235 27) - 1)))) - (I4 245 0) : Int) < 2147483648 from by omega)
          have p26 := wlW (V := (OFs FN 14).1) (n := (OFs FN 14).2.2) (x := (wr ((I4 245 (Int.toNat (wr ((I4 235 27) - 1)))) - (I4 245 0)))) (s := v2) (by omega) (by omega) (by omega)
          refine ⟨fun c27 => ?_, fun c27 => ?_⟩
          ·
            have c27 : (((wl (100 * (wr ((I4 245 1) - (I4 245 0))))) : Int) ≤ (wl (v2 * (wr ((I4 245 (Int.toNat (wr ((I4 235 27) - 1)))) - (I4 245 0)))))) := lcm_le.1 c27
            refine ⟨_, rfl, (by decide), ?_⟩
            refine fun w0 hw0 => ?_; obtain rfl : w0 = some 245 := hw0.symm.trans (FS.g hF rfl)
            refine ⟨_, rfl, (by decide), (show (0 : Int) ≤ (wr ((I4 235 27) - 1)) from by first | with_reducible assumption | omega | (simp only [wr, wl] at *; omega)), (show (wr ((I4 235 27) - 1)) < (14 : Int) from by first | with_reducible assumption | omega | (simp only [wr, wl] at *; omega)), ?_⟩
            refine ⟨_, rfl, (by decide), ?_⟩
            refine fun w0 hw0 => ?_; obtain rfl : w0 = some 245 := hw0.symm.trans (FS.g hF rfl)
            have n28 : (wr ((I4 235 27) - 2)) = (I4 235 27) - 2 := wr_id (show -2147483648 ≤ ((I4 235 27) - 2 : Int) ∧ ((I4 235 27) - 2 : Int) < 2147483648 from by omega)
            refine ⟨_, rfl, (by decide), (show (0 : Int) ≤ (wr ((I4 235 27) - 2)) from by first | with_reducible assumption | omega | (simp only [wr, wl] at *; omega)), (show (wr ((I4 235 27) - 2)) < (14 : Int) from by first | with_reducible assumption | omega | (simp only [wr, wl] at *; omega)), ?_⟩
            have z29 : (I4 245 (Int.toNat (wr ((I4 235 27) - 2)))) = (OFs FN 14).1 ((OFs FN 14).2.2 - 2) := (congrArg (I4 245) (by omega)).trans (qr8.2.2 ((OFs FN 14).2.2 - 2) (by omega)).1
            have z30 := (RV_14 hb) ((OFs FN 14).2.2 - 2) (by omega)
            have a31 : -2147483648 ≤ (I4 245 (Int.toNat (wr ((I4 235 27) - 2)))) ∧ (I4 245 (Int.toNat (wr ((I4 235 27) - 2)))) < 2147483648 := hA6.1 _ _
            have n32 : (wr ((I4 245 (Int.toNat (wr ((I4 235 27) - 1)))) - (I4 245 (Int.toNat (wr ((I4 235 27) - 2)))))) = (I4 245 (Int.toNat (wr ((I4 235 27) - 1)))) - (I4 245 (Int.toNat (wr ((I4 235 27) - 2)))) := wr_id (show -2147483648 ≤ ((I4 245 (Int.toNat (wr ((I4 235 27) - 1)))) - (I4 245 (Int.toNat (wr ((I4 235 27) - 2)))) : Int) ∧ ((I4 245 (Int.toNat (wr ((I4 235 27) - 1)))) - (I4 245 (Int.toNat (wr ((I4 235 27) - 2)))) : Int) < 2147483648 from by omega)
            have n33 : (wl (100 * (wr ((I4 245 (Int.toNat (wr ((I4 235 27) - 1)))) - (I4 245 (Int.toNat (wr ((I4 235 27) - 2)))))))) = 100 * (wr ((I4 245 (Int.toNat (wr ((I4 235 27) - 1)))) - (I4 245 (Int.toNat (wr ((I4 235 27) - 2)))))) := wl_id (show -9223372036854775808 ≤ (100 * (wr ((I4 245 (Int.toNat (wr ((I4 235 27) - 1)))) - (I4 245 (Int.toNat (wr ((I4 235 27) - 2)))))) : Int) ∧ (100 * (wr ((I4 245 (Int.toNat (wr ((I4 235 27) - 1)))) - (I4 245 (Int.toNat (wr ((I4 235 27) - 2)))))) : Int) < 9223372036854775808 from by omega)
            refine ⟨fun c34 => ?_, fun c34 => ?_⟩
            ·
              have c34 : (((wl (100 * (wr ((I4 245 (Int.toNat (wr ((I4 235 27) - 1)))) - (I4 245 (Int.toNat (wr ((I4 235 27) - 2)))))))) : Int) ≤ (wl (v2 * (wr ((I4 245 (Int.toNat (wr ((I4 235 27) - 1)))) - (I4 245 0)))))) := lcm_le.1 c34
              refine ⟨⟨_, rfl, (by decide)⟩, ?_⟩
              refine s_X12_finding hF (v := (-1000002)) (by decide) ?_
              have u35 : (I4 238 2) = (I 238 2) := hW7 _ _ (by first | decide | omega)
              have a36 : -2147483648 ≤ (I 238 2) ∧ (I 238 2) < 2147483648 := hA.1 _ _
              have a37 : -2147483648 ≤ (I4 238 2) ∧ (I4 238 2) < 2147483648 := hA6.1 _ _
              exact ⟨rfl, fun hv hA' => hQ _ _ (Rg.u hR5 (Pr_f rfl)) hA' (hv _ rfl) (fun ka ja hk => ((uI_o (show ¬ (ka = 238 ∧ ja = 2) from by first | (intro e; obtain ⟨rfl, rfl⟩ := e; exact hk (by decide)) | omega))).trans ((hW7 ka ja (by omega)))) (show (¬ ((0 ≤ v0 ∧ v0 ≤ 3) ∧ (0 ≤ v1 ∧ v1 ≤ 3) ∧ (0 ≤ v2 ∧ v2 ≤ 100)) → (-1000002) = -1000001) ∧ (((0 ≤ v0 ∧ v0 ≤ 3) ∧ (0 ≤ v1 ∧ v1 ≤ 3) ∧ (0 ≤ v2 ∧ v2 ≤ 100)) → (odF (OFs FN 14).1 (OFs FN 14).2.1 (OFs FN 14).2.2 v2 < 0 → (-1000002) = -1000002) ∧ (¬ odF (OFs FN 14).1 (OFs FN 14).2.1 (OFs FN 14).2.2 v2 < 0 → (-1000002) = odF (OFs FN 14).1 (OFs FN 14).2.1 (OFs FN 14).2.2 v2)) from by
                              refine ⟨fun z => ?_, fun z => ?_⟩
                              · exfalso; omega
                              · have q : (if ((-1000002) : Int) = -1000002 then -1 else (-1000002)) = odF (OFs FN 14).1 (OFs FN 14).2.1 (OFs FN 14).2.2 v2 := by
                                  by_cases q : (-1000002) = (-1000002 : Int)
                                  · rw [if_pos q]
                                    refine odF_of ⟨fun a => ?_, fun a => ⟨fun b => ?_, fun b => ⟨fun c => ?_, fun c => ?_⟩⟩⟩
                                    all_goals first | omega | (exfalso; omega)
                                  · rw [if_neg q]
                                    refine odF_of ⟨fun a => ?_, fun a => ⟨fun b => ?_, fun b => ⟨fun c => ?_, fun c => ?_⟩⟩⟩
                                    all_goals first | omega | (exfalso; omega)
                                rw [← q]
                                by_cases q : (-1000002) = (-1000002 : Int)
                                · rw [if_pos q]; exact ⟨fun _ => q, fun b => absurd (by omega) b⟩
                                · rw [if_neg q]; exact ⟨fun b => absurd b (by omega), fun _ => rfl⟩)⟩
            ·
              have c34 : (¬ (((wl (100 * (wr ((I4 245 (Int.toNat (wr ((I4 235 27) - 1)))) - (I4 245 (Int.toNat (wr ((I4 235 27) - 2)))))))) : Int) ≤ (wl (v2 * (wr ((I4 245 (Int.toNat (wr ((I4 235 27) - 1)))) - (I4 245 0))))))) := fun e => c34 (lcm_le.2 e)
              refine ⟨_, rfl, (by decide), ?_⟩
              refine fun w0 hw0 => ?_; obtain rfl : w0 = some 246 := hw0.symm.trans (FS.g hF rfl)
              refine ⟨_, rfl, (by decide), (show (0 : Int) ≤ (wr ((I4 235 27) - 1)) from by first | with_reducible assumption | omega | (simp only [wr, wl] at *; omega)), (show (wr ((I4 235 27) - 1)) < (14 : Int) from by first | with_reducible assumption | omega | (simp only [wr, wl] at *; omega)), ?_⟩
              have z38 : (I4 246 (Int.toNat (wr ((I4 235 27) - 1)))) = (OFs FN 14).2.1 ((OFs FN 14).2.2 - 1) := (congrArg (I4 246) (by omega)).trans (qr8.2.2 ((OFs FN 14).2.2 - 1) (by omega)).2
              have z39 := (RV_14 hb) ((OFs FN 14).2.2 - 1) (by omega)
              have a40 : -2147483648 ≤ (I4 246 (Int.toNat (wr ((I4 235 27) - 1)))) ∧ (I4 246 (Int.toNat (wr ((I4 235 27) - 1)))) < 2147483648 := hA6.1 _ _
              exact ⟨rfl, fun hv hA' => hQ _ _ hR5 hA' (hv _ rfl) (fun ka ja hk => (hW7 ka ja (by omega))) (show (¬ ((0 ≤ v0 ∧ v0 ≤ 3) ∧ (0 ≤ v1 ∧ v1 ≤ 3) ∧ (0 ≤ v2 ∧ v2 ≤ 100)) → (I4 246 (Int.toNat (wr ((I4 235 27) - 1)))) = -1000001) ∧ (((0 ≤ v0 ∧ v0 ≤ 3) ∧ (0 ≤ v1 ∧ v1 ≤ 3) ∧ (0 ≤ v2 ∧ v2 ≤ 100)) → (odF (OFs FN 14).1 (OFs FN 14).2.1 (OFs FN 14).2.2 v2 < 0 → (I4 246 (Int.toNat (wr ((I4 235 27) - 1)))) = -1000002) ∧ (¬ odF (OFs FN 14).1 (OFs FN 14).2.1 (OFs FN 14).2.2 v2 < 0 → (I4 246 (Int.toNat (wr ((I4 235 27) - 1)))) = odF (OFs FN 14).1 (OFs FN 14).2.1 (OFs FN 14).2.2 v2)) from by
                              refine ⟨fun z => ?_, fun z => ?_⟩
                              · exfalso; omega
                              · have q : (if ((I4 246 (Int.toNat (wr ((I4 235 27) - 1)))) : Int) = -1000002 then -1 else (I4 246 (Int.toNat (wr ((I4 235 27) - 1))))) = odF (OFs FN 14).1 (OFs FN 14).2.1 (OFs FN 14).2.2 v2 := by
                                  by_cases q : (I4 246 (Int.toNat (wr ((I4 235 27) - 1)))) = (-1000002 : Int)
                                  · rw [if_pos q]
                                    refine odF_of ⟨fun a => ?_, fun a => ⟨fun b => ?_, fun b => ⟨fun c => ?_, fun c => ?_⟩⟩⟩
                                    all_goals first | omega | (exfalso; omega)
                                  · rw [if_neg q]
                                    refine odF_of ⟨fun a => ?_, fun a => ⟨fun b => ?_, fun b => ⟨fun c => ?_, fun c => ?_⟩⟩⟩
                                    all_goals first | omega | (exfalso; omega)
                                rw [← q]
                                by_cases q : (I4 246 (Int.toNat (wr ((I4 235 27) - 1)))) = (-1000002 : Int)
                                · rw [if_pos q]; exact ⟨fun _ => q, fun b => absurd (by omega) b⟩
                                · rw [if_neg q]; exact ⟨fun b => absurd b (by omega), fun _ => rfl⟩)⟩
          ·
            have c27 : (¬ (((wl (100 * (wr ((I4 245 1) - (I4 245 0))))) : Int) ≤ (wl (v2 * (wr ((I4 245 (Int.toNat (wr ((I4 235 27) - 1)))) - (I4 245 0))))))) := fun e => c27 (lcm_le.2 e)
            refine ⟨_, rfl, (by decide), ?_⟩
            refine fun w0 hw0 => ?_; obtain rfl : w0 = some 246 := hw0.symm.trans (FS.g hF rfl)
            refine ⟨_, rfl, (by decide), (by decide), (by decide), ?_⟩
            have z41 : (I4 246 0) = (OFs FN 14).2.1 0 := (congrArg (I4 246) (by omega)).trans (qr8.2.2 0 (by omega)).2
            have z42 := (RV_14 hb) 0 (by omega)
            have a43 : -2147483648 ≤ (I4 246 0) ∧ (I4 246 0) < 2147483648 := hA6.1 _ _
            exact ⟨rfl, fun hv hA' => hQ _ _ hR5 hA' (hv _ rfl) (fun ka ja hk => (hW7 ka ja (by omega))) (show (¬ ((0 ≤ v0 ∧ v0 ≤ 3) ∧ (0 ≤ v1 ∧ v1 ≤ 3) ∧ (0 ≤ v2 ∧ v2 ≤ 100)) → (I4 246 0) = -1000001) ∧ (((0 ≤ v0 ∧ v0 ≤ 3) ∧ (0 ≤ v1 ∧ v1 ≤ 3) ∧ (0 ≤ v2 ∧ v2 ≤ 100)) → (odF (OFs FN 14).1 (OFs FN 14).2.1 (OFs FN 14).2.2 v2 < 0 → (I4 246 0) = -1000002) ∧ (¬ odF (OFs FN 14).1 (OFs FN 14).2.1 (OFs FN 14).2.2 v2 < 0 → (I4 246 0) = odF (OFs FN 14).1 (OFs FN 14).2.1 (OFs FN 14).2.2 v2)) from by
                              refine ⟨fun z => ?_, fun z => ?_⟩
                              · exfalso; omega
                              · have q : (if ((I4 246 0) : Int) = -1000002 then -1 else (I4 246 0)) = odF (OFs FN 14).1 (OFs FN 14).2.1 (OFs FN 14).2.2 v2 := by
                                  by_cases q : (I4 246 0) = (-1000002 : Int)
                                  · rw [if_pos q]
                                    refine odF_of ⟨fun a => ?_, fun a => ⟨fun b => ?_, fun b => ⟨fun c => ?_, fun c => ?_⟩⟩⟩
                                    all_goals first | omega | (exfalso; omega)
                                  · rw [if_neg q]
                                    refine odF_of ⟨fun a => ?_, fun a => ⟨fun b => ?_, fun b => ⟨fun c => ?_, fun c => ?_⟩⟩⟩
                                    all_goals first | omega | (exfalso; omega)
                                rw [← q]
                                by_cases q : (I4 246 0) = (-1000002 : Int)
                                · rw [if_pos q]; exact ⟨fun _ => q, fun b => absurd (by omega) b⟩
                                · rw [if_neg q]; exact ⟨fun b => absurd b (by omega), fun _ => rfl⟩)⟩
        ·
          refine ⟨⟨_, rfl, (by decide)⟩, ?_⟩
          refine s_X12_finding hF (v := (-1000002)) (by decide) ?_
          have u44 : (I4 238 2) = (I 238 2) := hW7 _ _ (by first | decide | omega)
          have a45 : -2147483648 ≤ (I 238 2) ∧ (I 238 2) < 2147483648 := hA.1 _ _
          have a46 : -2147483648 ≤ (I4 238 2) ∧ (I4 238 2) < 2147483648 := hA6.1 _ _
          exact ⟨rfl, fun hv hA' => hQ _ _ (Rg.u hR5 (Pr_f rfl)) hA' (hv _ rfl) (fun ka ja hk => ((uI_o (show ¬ (ka = 238 ∧ ja = 2) from by first | (intro e; obtain ⟨rfl, rfl⟩ := e; exact hk (by decide)) | omega))).trans ((hW7 ka ja (by omega)))) (show (¬ ((0 ≤ v0 ∧ v0 ≤ 3) ∧ (0 ≤ v1 ∧ v1 ≤ 3) ∧ (0 ≤ v2 ∧ v2 ≤ 100)) → (-1000002) = -1000001) ∧ (((0 ≤ v0 ∧ v0 ≤ 3) ∧ (0 ≤ v1 ∧ v1 ≤ 3) ∧ (0 ≤ v2 ∧ v2 ≤ 100)) → (odF (OFs FN 14).1 (OFs FN 14).2.1 (OFs FN 14).2.2 v2 < 0 → (-1000002) = -1000002) ∧ (¬ odF (OFs FN 14).1 (OFs FN 14).2.1 (OFs FN 14).2.2 v2 < 0 → (-1000002) = odF (OFs FN 14).1 (OFs FN 14).2.1 (OFs FN 14).2.2 v2)) from by
                              refine ⟨fun z => ?_, fun z => ?_⟩
                              · exfalso; omega
                              · have q : (if ((-1000002) : Int) = -1000002 then -1 else (-1000002)) = odF (OFs FN 14).1 (OFs FN 14).2.1 (OFs FN 14).2.2 v2 := by
                                  by_cases q : (-1000002) = (-1000002 : Int)
                                  · rw [if_pos q]
                                    refine odF_of ⟨fun a => ?_, fun a => ⟨fun b => ?_, fun b => ⟨fun c => ?_, fun c => ?_⟩⟩⟩
                                    all_goals first | omega | (exfalso; omega)
                                  · rw [if_neg q]
                                    refine odF_of ⟨fun a => ?_, fun a => ⟨fun b => ?_, fun b => ⟨fun c => ?_, fun c => ?_⟩⟩⟩
                                    all_goals first | omega | (exfalso; omega)
                                rw [← q]
                                by_cases q : (-1000002) = (-1000002 : Int)
                                · rw [if_pos q]; exact ⟨fun _ => q, fun b => absurd (by omega) b⟩
                                · rw [if_neg q]; exact ⟨fun b => absurd b (by omega), fun _ => rfl⟩)⟩
      ·
        refine ⟨fun c => absurd (show ((0 : Int) = 0) from by decide) c, fun _ => ?_⟩
        refine ⟨⟨_, rfl, (by decide)⟩, ?_⟩
        refine s_X12_finding hF (v := (-1000001)) (by decide) ?_
        exact ⟨rfl, fun hv hA' => hQ _ _ (Rg.u hR (Pr_f rfl)) hA' (hv _ rfl) (fun ka ja hk => (uI_o (show ¬ (ka = 238 ∧ ja = 1) from by first | (intro e; obtain ⟨rfl, rfl⟩ := e; exact hk (by decide)) | omega))) (show (¬ ((0 ≤ v0 ∧ v0 ≤ 3) ∧ (0 ≤ v1 ∧ v1 ≤ 3) ∧ (0 ≤ v2 ∧ v2 ≤ 100)) → (-1000001) = -1000001) ∧ (((0 ≤ v0 ∧ v0 ≤ 3) ∧ (0 ≤ v1 ∧ v1 ≤ 3) ∧ (0 ≤ v2 ∧ v2 ≤ 100)) → (odF (OFs FN 14).1 (OFs FN 14).2.1 (OFs FN 14).2.2 v2 < 0 → (-1000001) = -1000002) ∧ (¬ odF (OFs FN 14).1 (OFs FN 14).2.1 (OFs FN 14).2.2 v2 < 0 → (-1000001) = odF (OFs FN 14).1 (OFs FN 14).2.1 (OFs FN 14).2.2 v2)) from by
                              refine ⟨fun z => ?_, fun z => ?_⟩
                              · first | rfl | omega
                              · exfalso; omega)⟩
    ·
      refine ⟨fun _ => ?_, fun c => absurd (show ((0 : Int) = 0) from by decide) c⟩
      refine ⟨⟨_, rfl, (by decide)⟩, ?_⟩
      refine s_X12_finding hF (v := (-1000001)) (by decide) ?_
      exact ⟨rfl, fun hv hA' => hQ _ _ (Rg.u hR (Pr_f rfl)) hA' (hv _ rfl) (fun ka ja hk => (uI_o (show ¬ (ka = 238 ∧ ja = 1) from by first | (intro e; obtain ⟨rfl, rfl⟩ := e; exact hk (by decide)) | omega))) (show (¬ ((0 ≤ v0 ∧ v0 ≤ 3) ∧ (0 ≤ v1 ∧ v1 ≤ 3) ∧ (0 ≤ v2 ∧ v2 ≤ 100)) → (-1000001) = -1000001) ∧ (((0 ≤ v0 ∧ v0 ≤ 3) ∧ (0 ≤ v1 ∧ v1 ≤ 3) ∧ (0 ≤ v2 ∧ v2 ≤ 100)) → (odF (OFs FN 14).1 (OFs FN 14).2.1 (OFs FN 14).2.2 v2 < 0 → (-1000001) = -1000002) ∧ (¬ odF (OFs FN 14).1 (OFs FN 14).2.1 (OFs FN 14).2.2 v2 < 0 → (-1000001) = odF (OFs FN 14).1 (OFs FN 14).2.1 (OFs FN 14).2.2 v2)) from by
                              refine ⟨fun z => ?_, fun z => ?_⟩
                              · first | rfl | omega
                              · exfalso; omega)⟩
  ·
    refine ⟨fun _ => ?_, fun c => absurd (show ((0 : Int) = 0) from by decide) c⟩
    refine ⟨⟨_, rfl, (by decide)⟩, ?_⟩
    refine s_X12_finding hF (v := (-1000001)) (by decide) ?_
    exact ⟨rfl, fun hv hA' => hQ _ _ (Rg.u hR (Pr_f rfl)) hA' (hv _ rfl) (fun ka ja hk => (uI_o (show ¬ (ka = 238 ∧ ja = 1) from by first | (intro e; obtain ⟨rfl, rfl⟩ := e; exact hk (by decide)) | omega))) (show (¬ ((0 ≤ v0 ∧ v0 ≤ 3) ∧ (0 ≤ v1 ∧ v1 ≤ 3) ∧ (0 ≤ v2 ∧ v2 ≤ 100)) → (-1000001) = -1000001) ∧ (((0 ≤ v0 ∧ v0 ≤ 3) ∧ (0 ≤ v1 ∧ v1 ≤ 3) ∧ (0 ≤ v2 ∧ v2 ≤ 100)) → (odF (OFs FN 14).1 (OFs FN 14).2.1 (OFs FN 14).2.2 v2 < 0 → (-1000001) = -1000002) ∧ (¬ odF (OFs FN 14).1 (OFs FN 14).2.1 (OFs FN 14).2.2 v2 < 0 → (-1000001) = odF (OFs FN 14).1 (OFs FN 14).2.1 (OFs FN 14).2.2 v2)) from by
                              refine ⟨fun z => ?_, fun z => ?_⟩
                              · first | rfl | omega
                              · exfalso; omega)⟩
end OD11
def fnN (I : pI) (v0 v1 : Int) (i : Nat) : Int := if (i : Int) < I 236 0 then (if I 236 (304 + 66 * i + 1) = v0 then nmF (SFI I i) (LFI I i) (Int.toNat (NFI I i)) v1 else -1) else -1
theorem fnN_c {I : pI} (hP : LPc I) (eO : I 1 1 = I 236 0) {v0 v1 : Int} : ∀ i : Nat, (i : Int) < I 1 1 → fnN I v0 v1 i = if I (1 + 19 + 5 * i) 1 = v0 then nmF (SFI I i) (LFI I i) (Int.toNat (NFI I i)) v1 else -1 := fun i hi => by
  obtain ⟨⟨_, e1, _, _⟩, _⟩ := hP i (by omega)
  unfold fnN
  rw [if_pos (by omega), show 1 + 19 + 5 * i = 20 + 5 * i from by omega, e1]
theorem fnN_n {I : pI} (eO : I 1 1 = I 236 0) {v0 v1 : Int} : ∀ i : Nat, ¬ (i : Int) < I 1 1 → fnN I v0 v1 i = -1 := fun i hi => by
  unfold fnN
  rw [if_neg (by omega)]
theorem fnN_r {I J : pI} (h4 : ∀ j, J 236 j = I 236 j) {v0 v1 : Int} : ∀ i : Nat, (i : Int) < J 236 0 → fnN I v0 v1 i = if J 236 (304 + 66 * i + 1) = v0 then nmF (SFI I i) (LFI I i) (Int.toNat (NFI I i)) v1 else -1 := fun i hi => by
  rw [h4] at hi
  unfold fnN
  rw [if_pos hi, h4]
theorem fnN_m {I J : pI} (h4 : ∀ j, J 236 j = I 236 j) {v0 v1 : Int} : ∀ i : Nat, ¬ (i : Int) < J 236 0 → fnN I v0 v1 i = -1 := fun i hi => by
  rw [h4] at hi
  unfold fnN
  rw [if_neg hi]
theorem fnN_b {I : pI} (hL : LRc I) {v0 v1 : Int} : ∀ i, fnN I v0 v1 i ≤ 2000000000 := fun i => by
  unfold fnN
  by_cases c : (i : Int) < I 236 0
  · rw [if_pos c]
    by_cases d : I 236 (304 + 66 * i + 1) = v0
    · rw [if_pos d]; exact nmF_b (REQ_S (hL i c)).2.2.2.2
    · rw [if_neg d]; omega
  · rw [if_neg c]; omega
def ODQ (FN : Nat → Int) (v0 v1 v2 r : Int) : Prop := (¬ ((0 ≤ v0 ∧ v0 ≤ 3) ∧ (0 ≤ v1 ∧ v1 ≤ 3) ∧ (0 ≤ v2 ∧ v2 ≤ 100)) → r = -1000001) ∧ (((0 ≤ v0 ∧ v0 ≤ 3) ∧ (0 ≤ v1 ∧ v1 ≤ 3) ∧ (0 ≤ v2 ∧ v2 ≤ 100)) → (odF (OFs FN 14).1 (OFs FN 14).2.1 (OFs FN 14).2.2 v2 < 0 → r = -1000002) ∧ (¬ odF (OFs FN 14).1 (OFs FN 14).2.1 (OFs FN 14).2.2 v2 < 0 → r = odF (OFs FN 14).1 (OFs FN 14).2.1 (OFs FN 14).2.2 v2))
theorem odd_e {FN : Nat → Int} {v0 v1 v2 r r' : Int} (c : ODQ FN v0 v1 v2 r) (d : ODQ FN v0 v1 v2 r') : r = r' := by
  unfold ODQ at c d
  by_cases v : (0 ≤ v0 ∧ v0 ≤ 3) ∧ (0 ≤ v1 ∧ v1 ≤ 3) ∧ (0 ≤ v2 ∧ v2 ≤ 100)
  · have c1 := c.2 v
    have d1 := d.2 v
    by_cases t : odF (OFs FN 14).1 (OFs FN 14).2.1 (OFs FN 14).2.2 v2 < 0
    · exact (c1.1 t).trans (d1.1 t).symm
    · exact (c1.2 t).trans (d1.2 t).symm
  · exact (c.1 v).trans (d.1 v).symm
