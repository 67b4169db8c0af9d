/-! what sure answers. Own work (scripts laid by wip/pm/gen34.py). -/
section SU11
variable {G : pG} {d : Nat} {F : pF} {I : pI} {Q : Option pV → pF → pI → Prop}
def suN (n p t : Int) : Int := if 1 ≤ n ∧ n ≤ 12 then spF n p t else 0
set_option maxRecDepth 100000 in
theorem su_all : (List.range 12).all (fun n => (List.range 9).all (fun p => (List.range 9).all (fun t => (rkF (n + 1) (p + 1) (t + 1) == spF (n + 1) (p + 1) (t + 1)) && (decide (0 ≤ spF (n + 1) (p + 1) (t + 1)) && decide (spF (n + 1) (p + 1) (t + 1) ≤ (n : Int) + 1))))) = true := by decide +kernel
theorem su_t {n p t : Int} (hn : 1 ≤ n ∧ n ≤ 12) (hp : 1 ≤ p ∧ p ≤ 9) (ht : 1 ≤ t ∧ t ≤ 9) : rkF n p t = spF n p t ∧ 0 ≤ spF n p t ∧ spF n p t ≤ n := by
  have a := List.all_eq_true.mp su_all (n.toNat - 1) (List.mem_range.mpr (by omega))
  have b := List.all_eq_true.mp a (p.toNat - 1) (List.mem_range.mpr (by omega))
  have c := List.all_eq_true.mp b (t.toNat - 1) (List.mem_range.mpr (by omega))
  have e0 : (((n.toNat - 1 : Nat) : Int) + 1) = n := by omega
  have e1 : (((p.toNat - 1 : Nat) : Int) + 1) = p := by omega
  have e2 : (((t.toNat - 1 : Nat) : Int) + 1) = t := by omega
  rw [e0, e1, e2] at c
  simpa using c
theorem suN_y {n p t : Int} (h : 1 ≤ n ∧ n ≤ 12) : suN n p t = spF n p t := if_pos h
theorem suN_n {n p t : Int} (h : ¬ (1 ≤ n ∧ n ≤ 12)) : suN n p t = 0 := if_neg h
theorem c_place0 (hF : FS F) (hR : Rg I) {v0 v1 v2 : Int} (h : ¬ (1 ≤ v0 ∧ v0 ≤ 12)) (hQ : ∀ r : Int, iR r → (r = 0) → Q (some (vi r)) F I) : CallN G d kX3_surePlace [vi v0, vi v1, vi v2] NP F I Q := by
  refine CallN_in (fun hok hA => CallN_out ?_)
  have iv0 : -2147483648 ≤ v0 ∧ v0 < 2147483648 := hok (vi v0) (by simp)
  have iv1 : -2147483648 ≤ v1 ∧ v1 < 2147483648 := hok (vi v1) (by simp)
  have iv2 : -2147483648 ≤ v2 ∧ v2 < 2147483648 := hok (vi v2) (by simp)
  refine Call_wp (lv := [some (vi v0), some (vi v1), some (vi v2), none, none, none, none, none, none, none]) (by decide) ckX3_surePlace [13] rfl rfl ?_
  refine ⟨fun (c1 : ((v0 : Int) < 1)) => ?_, fun (c1 : (¬ ((v0 : Int) < 1))) => ?_⟩
  ·
    exact ⟨rfl, fun hv hA' => hQ _ (hv _ rfl) (rfl)⟩
  ·
    refine ⟨fun (c2 : ((v0 : Int) ≤ 12)) => ?_, fun (c2 : (¬ ((v0 : Int) ≤ 12))) => ?_⟩
    ·
      exact absurd (show 1 ≤ v0 ∧ v0 ≤ 12 from by omega) h
    ·
      exact ⟨rfl, fun hv hA' => hQ _ (hv _ rfl) (rfl)⟩
theorem r_rank0 (hF : FS F) (hR : Rg I) {v0 v1 v2 : Int} (h : v0 = 0) (hQ : ∀ r : Int, iR r → (r = 0) → Q (some (vi r)) F I) : CallN G d kX12_rankOf [vi v0, vi v1, vi v2] NP F I Q := by
  refine CallN_in (fun hok hA => CallN_out ?_)
  have iv0 : -2147483648 ≤ v0 ∧ v0 < 2147483648 := hok (vi v0) (by simp)
  have iv1 : -2147483648 ≤ v1 ∧ v1 < 2147483648 := hok (vi v1) (by simp)
  have iv2 : -2147483648 ≤ v2 ∧ v2 < 2147483648 := hok (vi v2) (by simp)
  refine Call_wp (lv := [some (vi v0), some (vi v1), some (vi v2), none, none, none, none, none, none, none, none, none]) (by decide) ckX12_rankOf [] rfl rfl ?_
  refine ⟨fun _ => ?_, fun c => absurd (show ((v0 : Int) ≤ 0) from by first | with_reducible assumption | omega | (simp only [wr, wl] at *; omega)) c⟩
  refine ⟨fun _ => ?_, fun c => absurd (show ((v0 : Int) ≤ 0) from by first | with_reducible assumption | omega | (simp only [wr, wl] at *; omega)) c⟩
  exact ⟨rfl, fun hv hA' => hQ _ (hv _ rfl) (rfl)⟩
theorem c_sure11 (hF : FS F) (hR : Rg I) {v0 v1 v2 v3 : Int} (hc : I 1 1 ≤ 14) {SF LF : Nat → Nat → Int} {NF : Nat → Int} (hq : ∀ p : Nat, (p : Int) < I 1 1 → RDS I ((1 + 19 + 5 * p) + 2) (SF p) (LF p) (NF p)) {FN : Nat → Int} (hf : ∀ i : Nat, (i : Int) < I 1 1 → FN i = if I (1 + 19 + 5 * i) 1 = v0 then nmF (SF i) (LF i) (Int.toNat (NF i)) v1 else -1) (hn : ∀ i : Nat, ¬ (i : Int) < I 1 1 → FN i = -1) (hb : ∀ i, FN i ≤ 2000000000) (hQ : ∀ (r : Int) (I' : pI), Rg I' → AR I' → iR r → (∀ k j, ¬ (k = 203 ∨ (223 ≤ k ∧ k < 226) ∨ (20 ≤ k ∧ k < 90 ∧ k % 5 = 2 ∧ 3 ≤ j)) → I' k j = I k j) → ((¬ ((0 ≤ v0 ∧ v0 ≤ 3) ∧ (0 ≤ v1 ∧ v1 ≤ 3) ∧ (1 ≤ v2 ∧ v2 ≤ 9) ∧ (1 ≤ v3 ∧ v3 ≤ 9)) → r = -1000001) ∧ (((0 ≤ v0 ∧ v0 ≤ 3) ∧ (0 ≤ v1 ∧ v1 ≤ 3) ∧ (1 ≤ v2 ∧ v2 ≤ 9) ∧ (1 ≤ v3 ∧ v3 ≤ 9)) → (suN ((OFs FN 14).2.2 : Int) v2 v3 < 1 → r = -1000002) ∧ (¬ suN ((OFs FN 14).2.2 : Int) v2 v3 < 1 → r = (OFs FN 14).1 (Int.toNat (suN ((OFs FN 14).2.2 : Int) v2 v3) - 1)))) → Q (some (vi r)) F I') : CallN G (d + 7) kX11_sure [vr 0, vi v0, vi v1, vi v2, vi v3] NP F I Q := by
  refine CallN_in (fun hok hA => CallN_out ?_)
  have iv0 : -2147483648 ≤ v0 ∧ v0 < 2147483648 := hok (vi v0) (by simp)
  have iv1 : -2147483648 ≤ v1 ∧ v1 < 2147483648 := hok (vi v1) (by simp)
  have iv2 : -2147483648 ≤ v2 ∧ v2 < 2147483648 := hok (vi v2) (by simp)
  have iv3 : -2147483648 ≤ v3 ∧ v3 < 2147483648 := hok (vi v3) (by simp)
  refine Call_wp (lv := [some (vr 0), some (vi v0), some (vi v1), some (vi v2), some (vi v3), none]) (by decide) ckX11_sure [] rfl rfl ?_
  refine s_X11_isLot (fun (w1 : ((0 : Int) ≤ v0 ∧ (v0 : Int) ≤ 3)) => ?_) (fun (w1 : ¬ ((0 : Int) ≤ v0 ∧ (v0 : Int) ≤ 3)) => ?_)
  ·
    refine ⟨fun c => absurd c (show (¬ ((1 : Int) = 0)) from by decide), fun _ => ?_⟩
    refine s_X11_isLaw (fun (w2 : ((0 : Int) ≤ v1 ∧ (v1 : Int) ≤ 3)) => ?_) (fun (w2 : ¬ ((0 : Int) ≤ v1 ∧ (v1 : Int) ≤ 3)) => ?_)
    ·
      refine ⟨fun c => absurd c (show (¬ ((1 : Int) = 0)) from by decide), fun _ => ?_⟩
      refine s_X11_isTenths (fun (w3 : ((1 : Int) ≤ v2 ∧ (v2 : Int) ≤ 9)) => ?_) (fun (w3 : ¬ ((1 : Int) ≤ v2 ∧ (v2 : Int) ≤ 9)) => ?_)
      ·
        refine ⟨fun c => absurd c (show (¬ ((1 : Int) = 0)) from by decide), fun _ => ?_⟩
        refine s_X11_isTenths (fun (w4 : ((1 : Int) ≤ v3 ∧ (v3 : Int) ≤ 9)) => ?_) (fun (w4 : ¬ ((1 : Int) ≤ v3 ∧ (v3 : Int) ≤ 9)) => ?_)
        ·
          refine ⟨fun _ => ?_, fun c => absurd c (show (¬ (1 : Int) = 0) from by decide)⟩
          refine ⟨⟨_, rfl, (by decide)⟩, ?_⟩
          refine c_ordn11 (v0 := v0) (v1 := v1) hF hR hc hq hf hn (by omega) (fun I5 hR6 hA7 hW8 qr9 => ?_)
          refine ⟨_, rfl, (by decide), ?_⟩
          refine fun w0 hw0 => ?_; obtain rfl : w0 = some 223 := hw0.symm.trans (FS.g hF rfl)
          refine ⟨_, rfl, (by decide), ?_⟩
          have z10 : (I5 223 2) = ((OFs FN 14).2.2 : Int) := (qr9).1
          have z11 := (qr9).2.1
          have a12 : -2147483648 ≤ (I5 223 2) ∧ (I5 223 2) < 2147483648 := hA7.1 _ _
          have en : (I5 223 2) = ((OFs FN 14).2.2 : Int) := by omega
          by_cases hs : 1 ≤ (I5 223 2) ∧ (I5 223 2) ≤ 12
          ·
            have sb := su_t (n := (I5 223 2)) (p := v2) (t := v3) hs (by omega) (by omega)
            have sb2 := sb.2
            have sn : suN ((OFs FN 14).2.2 : Int) v2 v3 = (spF (I5 223 2) v2 v3) := by rw [← en]; exact suN_y hs
            refine s_X3_surePlace (n := (I5 223 2)) hs (by omega) (by omega) ?_
            refine ⟨fun (c13 : ((1 : Int) ≤ (spF (I5 223 2) v2 v3))) => ?_, fun (c13 : (¬ ((1 : Int) ≤ (spF (I5 223 2) v2 v3)))) => ?_⟩
            ·
              refine ⟨_, rfl, (by decide), ?_⟩
              refine fun w0 hw0 => ?_; obtain rfl : w0 = some 223 := hw0.symm.trans (FS.g hF rfl)
              refine ⟨⟨_, rfl, (by decide)⟩, ?_⟩
              have n14 : (wr ((spF (I5 223 2) v2 v3) - 1)) = (spF (I5 223 2) v2 v3) - 1 := wr_id (show -2147483648 ≤ ((spF (I5 223 2) v2 v3) - 1 : Int) ∧ ((spF (I5 223 2) v2 v3) - 1 : Int) < 2147483648 from by omega)
              refine c_val11 (v0 := (wr ((spF (I5 223 2) v2 v3) - 1))) hF hR6 qr9 (RV_14 hb) (by omega) (fun vr15 hr16 qr17 => ?_)
              have hr16 : -2147483648 ≤ vr15 ∧ vr15 < 2147483648 := hr16
              exact ⟨rfl, fun hv hA' => hQ _ _ hR6 hA' (hv _ rfl) (fun ka ja hk => (hW8 ka ja (by omega))) (show (¬ ((0 ≤ v0 ∧ v0 ≤ 3) ∧ (0 ≤ v1 ∧ v1 ≤ 3) ∧ (1 ≤ v2 ∧ v2 ≤ 9) ∧ (1 ≤ v3 ∧ v3 ≤ 9)) → vr15 = -1000001) ∧ (((0 ≤ v0 ∧ v0 ≤ 3) ∧ (0 ≤ v1 ∧ v1 ≤ 3) ∧ (1 ≤ v2 ∧ v2 ≤ 9) ∧ (1 ≤ v3 ∧ v3 ≤ 9)) → (suN ((OFs FN 14).2.2 : Int) v2 v3 < 1 → vr15 = -1000002) ∧ (¬ suN ((OFs FN 14).2.2 : Int) v2 v3 < 1 → vr15 = (OFs FN 14).1 (Int.toNat (suN ((OFs FN 14).2.2 : Int) v2 v3) - 1))) from by
                              refine ⟨fun z => ?_, fun z => ?_⟩
                              · exfalso; omega
                              · exact ⟨fun b => by exfalso; omega, fun _ => (qr17).1.trans (congrArg ((OFs FN 14).1) (by omega))⟩)⟩
            ·
              refine ⟨⟨_, rfl, (by decide)⟩, ?_⟩
              refine s_X11_refuse hF (e := 2) (by decide) ?_
              have u18 : (I5 203 2) = (I 203 2) := hW8 _ _ (by first | decide | omega)
              have a19 : -2147483648 ≤ (I 203 2) ∧ (I 203 2) < 2147483648 := hA.1 _ _
              have a20 : -2147483648 ≤ (I5 203 2) ∧ (I5 203 2) < 2147483648 := hA7.1 _ _
              exact ⟨rfl, fun hv hA' => hQ _ _ (Rg.u hR6 (Pr_f rfl)) hA' (hv _ rfl) (fun ka ja hk => ((uI_o (show ¬ (ka = 203 ∧ ja = 2) from by first | (intro e; obtain ⟨rfl, rfl⟩ := e; exact hk (by decide)) | omega))).trans ((hW8 ka ja (by omega)))) (show (¬ ((0 ≤ v0 ∧ v0 ≤ 3) ∧ (0 ≤ v1 ∧ v1 ≤ 3) ∧ (1 ≤ v2 ∧ v2 ≤ 9) ∧ (1 ≤ v3 ∧ v3 ≤ 9)) → (-1000002) = -1000001) ∧ (((0 ≤ v0 ∧ v0 ≤ 3) ∧ (0 ≤ v1 ∧ v1 ≤ 3) ∧ (1 ≤ v2 ∧ v2 ≤ 9) ∧ (1 ≤ v3 ∧ v3 ≤ 9)) → (suN ((OFs FN 14).2.2 : Int) v2 v3 < 1 → (-1000002) = -1000002) ∧ (¬ suN ((OFs FN 14).2.2 : Int) v2 v3 < 1 → (-1000002) = (OFs FN 14).1 (Int.toNat (suN ((OFs FN 14).2.2 : Int) v2 v3) - 1))) from by
                              refine ⟨fun z => ?_, fun z => ?_⟩
                              · exfalso; omega
                              · exact ⟨fun _ => by first | rfl | omega, fun b => absurd (by omega) b⟩)⟩
          ·
            have sn : suN ((OFs FN 14).2.2 : Int) v2 v3 = 0 := by rw [← en]; exact suN_n hs
            refine c_place0 (v0 := (I5 223 2)) hF hR6 hs (fun vr21 _ hz => ?_)
            have hz : vr21 = 0 := hz
            refine ⟨fun c => absurd c (show (¬ ((1 : Int) ≤ vr21)) from by first | omega | (simp only [wr, wl] at *; omega)), fun _ => ?_⟩
            refine ⟨⟨_, rfl, (by decide)⟩, ?_⟩
            refine s_X11_refuse hF (e := 2) (by decide) ?_
            have u22 : (I5 203 2) = (I 203 2) := hW8 _ _ (by first | decide | omega)
            have a23 : -2147483648 ≤ (I 203 2) ∧ (I 203 2) < 2147483648 := hA.1 _ _
            have a24 : -2147483648 ≤ (I5 203 2) ∧ (I5 203 2) < 2147483648 := hA7.1 _ _
            exact ⟨rfl, fun hv hA' => hQ _ _ (Rg.u hR6 (Pr_f rfl)) hA' (hv _ rfl) (fun ka ja hk => ((uI_o (show ¬ (ka = 203 ∧ ja = 2) from by first | (intro e; obtain ⟨rfl, rfl⟩ := e; exact hk (by decide)) | omega))).trans ((hW8 ka ja (by omega)))) (show (¬ ((0 ≤ v0 ∧ v0 ≤ 3) ∧ (0 ≤ v1 ∧ v1 ≤ 3) ∧ (1 ≤ v2 ∧ v2 ≤ 9) ∧ (1 ≤ v3 ∧ v3 ≤ 9)) → (-1000002) = -1000001) ∧ (((0 ≤ v0 ∧ v0 ≤ 3) ∧ (0 ≤ v1 ∧ v1 ≤ 3) ∧ (1 ≤ v2 ∧ v2 ≤ 9) ∧ (1 ≤ v3 ∧ v3 ≤ 9)) → (suN ((OFs FN 14).2.2 : Int) v2 v3 < 1 → (-1000002) = -1000002) ∧ (¬ suN ((OFs FN 14).2.2 : Int) v2 v3 < 1 → (-1000002) = (OFs FN 14).1 (Int.toNat (suN ((OFs FN 14).2.2 : Int) v2 v3) - 1))) from by
                              refine ⟨fun z => ?_, fun z => ?_⟩
                              · exfalso; omega
                              · exact ⟨fun _ => by first | rfl | omega, fun b => absurd (by omega) b⟩)⟩
        ·
          refine ⟨fun c => absurd (show ((0 : Int) = 0) from by decide) c, fun _ => ?_⟩
          refine ⟨⟨_, rfl, (by decide)⟩, ?_⟩
          refine s_X11_refuse hF (e := 1) (by decide) ?_
          exact ⟨rfl, fun hv hA' => hQ _ _ (Rg.u hR (Pr_f rfl)) hA' (hv _ rfl) (fun ka ja hk => (uI_o (show ¬ (ka = 203 ∧ ja = 1) from by first | (intro e; obtain ⟨rfl, rfl⟩ := e; exact hk (by decide)) | omega))) (show (¬ ((0 ≤ v0 ∧ v0 ≤ 3) ∧ (0 ≤ v1 ∧ v1 ≤ 3) ∧ (1 ≤ v2 ∧ v2 ≤ 9) ∧ (1 ≤ v3 ∧ v3 ≤ 9)) → (-1000001) = -1000001) ∧ (((0 ≤ v0 ∧ v0 ≤ 3) ∧ (0 ≤ v1 ∧ v1 ≤ 3) ∧ (1 ≤ v2 ∧ v2 ≤ 9) ∧ (1 ≤ v3 ∧ v3 ≤ 9)) → (suN ((OFs FN 14).2.2 : Int) v2 v3 < 1 → (-1000001) = -1000002) ∧ (¬ suN ((OFs FN 14).2.2 : Int) v2 v3 < 1 → (-1000001) = (OFs FN 14).1 (Int.toNat (suN ((OFs FN 14).2.2 : Int) v2 v3) - 1))) from by
                              refine ⟨fun z => ?_, fun z => ?_⟩
                              · first | rfl | omega
                              · exfalso; omega)⟩
      ·
        refine ⟨fun _ => ?_, fun c => absurd (show ((0 : Int) = 0) from by decide) c⟩
        refine ⟨⟨_, rfl, (by decide)⟩, ?_⟩
        refine s_X11_refuse hF (e := 1) (by decide) ?_
        exact ⟨rfl, fun hv hA' => hQ _ _ (Rg.u hR (Pr_f rfl)) hA' (hv _ rfl) (fun ka ja hk => (uI_o (show ¬ (ka = 203 ∧ ja = 1) from by first | (intro e; obtain ⟨rfl, rfl⟩ := e; exact hk (by decide)) | omega))) (show (¬ ((0 ≤ v0 ∧ v0 ≤ 3) ∧ (0 ≤ v1 ∧ v1 ≤ 3) ∧ (1 ≤ v2 ∧ v2 ≤ 9) ∧ (1 ≤ v3 ∧ v3 ≤ 9)) → (-1000001) = -1000001) ∧ (((0 ≤ v0 ∧ v0 ≤ 3) ∧ (0 ≤ v1 ∧ v1 ≤ 3) ∧ (1 ≤ v2 ∧ v2 ≤ 9) ∧ (1 ≤ v3 ∧ v3 ≤ 9)) → (suN ((OFs FN 14).2.2 : Int) v2 v3 < 1 → (-1000001) = -1000002) ∧ (¬ suN ((OFs FN 14).2.2 : Int) v2 v3 < 1 → (-1000001) = (OFs FN 14).1 (Int.toNat (suN ((OFs FN 14).2.2 : Int) v2 v3) - 1))) from by
                              refine ⟨fun z => ?_, fun z => ?_⟩
                              · first | rfl | omega
                              · exfalso; omega)⟩
    ·
      refine ⟨fun _ => ?_, fun c => absurd (show ((0 : Int) = 0) from by decide) c⟩
      refine ⟨⟨_, rfl, (by decide)⟩, ?_⟩
      refine s_X11_refuse hF (e := 1) (by decide) ?_
      exact ⟨rfl, fun hv hA' => hQ _ _ (Rg.u hR (Pr_f rfl)) hA' (hv _ rfl) (fun ka ja hk => (uI_o (show ¬ (ka = 203 ∧ ja = 1) from by first | (intro e; obtain ⟨rfl, rfl⟩ := e; exact hk (by decide)) | omega))) (show (¬ ((0 ≤ v0 ∧ v0 ≤ 3) ∧ (0 ≤ v1 ∧ v1 ≤ 3) ∧ (1 ≤ v2 ∧ v2 ≤ 9) ∧ (1 ≤ v3 ∧ v3 ≤ 9)) → (-1000001) = -1000001) ∧ (((0 ≤ v0 ∧ v0 ≤ 3) ∧ (0 ≤ v1 ∧ v1 ≤ 3) ∧ (1 ≤ v2 ∧ v2 ≤ 9) ∧ (1 ≤ v3 ∧ v3 ≤ 9)) → (suN ((OFs FN 14).2.2 : Int) v2 v3 < 1 → (-1000001) = -1000002) ∧ (¬ suN ((OFs FN 14).2.2 : Int) v2 v3 < 1 → (-1000001) = (OFs FN 14).1 (Int.toNat (suN ((OFs FN 14).2.2 : Int) v2 v3) - 1))) from by
                              refine ⟨fun z => ?_, fun z => ?_⟩
                              · first | rfl | omega
                              · exfalso; omega)⟩
  ·
    refine ⟨fun _ => ?_, fun c => absurd (show ((0 : Int) = 0) from by decide) c⟩
    refine ⟨⟨_, rfl, (by decide)⟩, ?_⟩
    refine s_X11_refuse hF (e := 1) (by decide) ?_
    exact ⟨rfl, fun hv hA' => hQ _ _ (Rg.u hR (Pr_f rfl)) hA' (hv _ rfl) (fun ka ja hk => (uI_o (show ¬ (ka = 203 ∧ ja = 1) from by first | (intro e; obtain ⟨rfl, rfl⟩ := e; exact hk (by decide)) | omega))) (show (¬ ((0 ≤ v0 ∧ v0 ≤ 3) ∧ (0 ≤ v1 ∧ v1 ≤ 3) ∧ (1 ≤ v2 ∧ v2 ≤ 9) ∧ (1 ≤ v3 ∧ v3 ≤ 9)) → (-1000001) = -1000001) ∧ (((0 ≤ v0 ∧ v0 ≤ 3) ∧ (0 ≤ v1 ∧ v1 ≤ 3) ∧ (1 ≤ v2 ∧ v2 ≤ 9) ∧ (1 ≤ v3 ∧ v3 ≤ 9)) → (suN ((OFs FN 14).2.2 : Int) v2 v3 < 1 → (-1000001) = -1000002) ∧ (¬ suN ((OFs FN 14).2.2 : Int) v2 v3 < 1 → (-1000001) = (OFs FN 14).1 (Int.toNat (suN ((OFs FN 14).2.2 : Int) v2 v3) - 1))) from by
                              refine ⟨fun z => ?_, fun z => ?_⟩
                              · first | rfl | omega
                              · exfalso; omega)⟩
theorem r_sure11 (hF : FS F) (hR : Rg I) {v0 v1 v2 v3 : Int} {SF LF : Nat → Nat → Int} {NF : Nat → Int} (hq : ∀ p : Nat, (p : Int) < I 236 0 → RDM I p (SF p) (LF p) (NF p)) {FN : Nat → Int} (hf : ∀ i : Nat, (i : Int) < I 236 0 → FN i = if I 236 (304 + 66 * i + 1) = v0 then nmF (SF i) (LF i) (Int.toNat (NF i)) v1 else -1) (hn : ∀ i : Nat, ¬ (i : Int) < I 236 0 → FN i = -1) (hb : ∀ i, FN i ≤ 2000000000) (hQ : ∀ (r : Int) (I' : pI), Rg I' → AR I' → iR r → (∀ k j, ¬ (k = 238 ∨ (k = 235 ∧ (j = 22 ∨ j = 23 ∨ j = 24 ∨ j = 27)) ∨ k = 245 ∨ k = 246) → I' k j = I k j) → ((¬ ((0 ≤ v0 ∧ v0 ≤ 3) ∧ (0 ≤ v1 ∧ v1 ≤ 3) ∧ (1 ≤ v2 ∧ v2 ≤ 9) ∧ (1 ≤ v3 ∧ v3 ≤ 9)) → r = -1000001) ∧ (((0 ≤ v0 ∧ v0 ≤ 3) ∧ (0 ≤ v1 ∧ v1 ≤ 3) ∧ (1 ≤ v2 ∧ v2 ≤ 9) ∧ (1 ≤ v3 ∧ v3 ≤ 9)) → (suN ((OFs FN 14).2.2 : Int) v2 v3 < 1 → r = -1000002) ∧ (¬ suN ((OFs FN 14).2.2 : Int) v2 v3 < 1 → r = (OFs FN 14).1 (Int.toNat (suN ((OFs FN 14).2.2 : Int) v2 v3) - 1)))) → Q (some (vi r)) F I') : CallN G (d + 8) kX12_sure [vr 235, vi v0, vi v1, vi v2, vi v3] NP F I Q := by
  refine CallN_in (fun hok hA => CallN_out ?_)
  have iv0 : -2147483648 ≤ v0 ∧ v0 < 2147483648 := hok (vi v0) (by simp)
  have iv1 : -2147483648 ≤ v1 ∧ v1 < 2147483648 := hok (vi v1) (by simp)
  have iv2 : -2147483648 ≤ v2 ∧ v2 < 2147483648 := hok (vi v2) (by simp)
  have iv3 : -2147483648 ≤ v3 ∧ v3 < 2147483648 := hok (vi v3) (by simp)
  refine Call_wp (lv := [some (vr 235), some (vi v0), some (vi v1), some (vi v2), some (vi v3), none]) (by decide) ckX12_sure [] rfl rfl ?_
  refine s_X12_isLot (fun (w1 : ((0 : Int) ≤ v0 ∧ (v0 : Int) ≤ 3)) => ?_) (fun (w1 : ¬ ((0 : Int) ≤ v0 ∧ (v0 : Int) ≤ 3)) => ?_)
  ·
    refine ⟨fun c => absurd c (show (¬ ((1 : Int) = 0)) from by decide), fun _ => ?_⟩
    refine s_X12_isLaw (fun (w2 : ((0 : Int) ≤ v1 ∧ (v1 : Int) ≤ 3)) => ?_) (fun (w2 : ¬ ((0 : Int) ≤ v1 ∧ (v1 : Int) ≤ 3)) => ?_)
    ·
      refine ⟨fun c => absurd c (show (¬ ((1 : Int) = 0)) from by decide), fun _ => ?_⟩
      refine s_X12_areTenths (fun (w3 : ((1 ≤ v2 ∧ v2 ≤ 9) ∧ (1 ≤ v3 ∧ v3 ≤ 9))) => ?_) (fun (w3 : ¬ ((1 ≤ v2 ∧ v2 ≤ 9) ∧ (1 ≤ v3 ∧ v3 ≤ 9))) => ?_)
      ·
        refine ⟨fun _ => ?_, fun c => absurd c (show (¬ (1 : Int) = 0) from by decide)⟩
        refine ⟨⟨_, rfl, (by decide)⟩, ?_⟩
        refine r_ordn11 (v0 := v0) (v1 := v1) hF hR hq hf hn (by omega) (fun I4 hR5 hA6 hW7 qr8 => ?_)
        have e2 := qr8.2.1
        refine ⟨_, rfl, (by decide), ?_⟩
        have z9 : (I4 235 27) = ((OFs FN 14).2.2 : Int) := qr8.1
        have r10 : 0 ≤ (I4 235 27) ∧ (I4 235 27) ≤ 14 := Rg.f27 hR5
        refine ⟨fun (c12 : (((I4 235 27) : Int) ≤ 12)) => ?_, fun (c12 : (¬ (((I4 235 27) : Int) ≤ 12))) => ?_⟩
        ·
          refine ⟨_, rfl, (by decide), ?_⟩
          have en : (I4 235 27) = ((OFs FN 14).2.2 : Int) := by omega
          by_cases hs : 1 ≤ (I4 235 27) ∧ (I4 235 27) ≤ 12
          ·
            have sb := su_t (n := (I4 235 27)) (p := v2) (t := v3) hs (by omega) (by omega)
            have sb1 := sb.1
            have sb2 := sb.2
            have sn : suN ((OFs FN 14).2.2 : Int) v2 v3 = (rkF (I4 235 27) v2 v3) := by rw [← en, sb.1]; exact suN_y hs
            refine m_X12_rankOf (n := (I4 235 27)) hs (by omega) (by omega) ?_
            refine ⟨fun (c13 : (¬ ((rkF (I4 235 27) v2 v3) : Int) = 0)) => ?_, fun (c13 : (((rkF (I4 235 27) v2 v3) : Int) = 0)) => ?_⟩
            ·
              refine ⟨_, rfl, (by decide), ?_⟩
              refine fun w0 hw0 => ?_; obtain rfl : w0 = some 245 := hw0.symm.trans (FS.g hF rfl)
              have n14 : (wr ((rkF (I4 235 27) v2 v3) - 1)) = (rkF (I4 235 27) v2 v3) - 1 := wr_id (show -2147483648 ≤ ((rkF (I4 235 27) v2 v3) - 1 : Int) ∧ ((rkF (I4 235 27) v2 v3) - 1 : Int) < 2147483648 from by omega)
              refine ⟨_, rfl, (by decide), (show (0 : Int) ≤ (wr ((rkF (I4 235 27) v2 v3) - 1)) from by first | with_reducible assumption | omega | (simp only [wr, wl] at *; omega)), (show (wr ((rkF (I4 235 27) v2 v3) - 1)) < (14 : Int) from by first | with_reducible assumption | omega | (simp only [wr, wl] at *; omega)), ?_⟩
              have z15 : (I4 245 (Int.toNat (wr ((rkF (I4 235 27) v2 v3) - 1)))) = (OFs FN 14).1 (Int.toNat (wr ((rkF (I4 235 27) v2 v3) - 1))) := (congrArg (I4 245) (by omega)).trans (qr8.2.2 (Int.toNat (wr ((rkF (I4 235 27) v2 v3) - 1))) (by omega)).1
              have z16 := (RV_14 hb) (Int.toNat (wr ((rkF (I4 235 27) v2 v3) - 1))) (by omega)
              have a17 : -2147483648 ≤ (I4 245 (Int.toNat (wr ((rkF (I4 235 27) v2 v3) - 1)))) ∧ (I4 245 (Int.toNat (wr ((rkF (I4 235 27) v2 v3) - 1)))) < 2147483648 := hA6.1 _ _
              exact ⟨rfl, fun hv hA' => hQ _ _ hR5 hA' (hv _ rfl) (fun ka ja hk => (hW7 ka ja (by omega))) (show (¬ ((0 ≤ v0 ∧ v0 ≤ 3) ∧ (0 ≤ v1 ∧ v1 ≤ 3) ∧ (1 ≤ v2 ∧ v2 ≤ 9) ∧ (1 ≤ v3 ∧ v3 ≤ 9)) → (I4 245 (Int.toNat (wr ((rkF (I4 235 27) v2 v3) - 1)))) = -1000001) ∧ (((0 ≤ v0 ∧ v0 ≤ 3) ∧ (0 ≤ v1 ∧ v1 ≤ 3) ∧ (1 ≤ v2 ∧ v2 ≤ 9) ∧ (1 ≤ v3 ∧ v3 ≤ 9)) → (suN ((OFs FN 14).2.2 : Int) v2 v3 < 1 → (I4 245 (Int.toNat (wr ((rkF (I4 235 27) v2 v3) - 1)))) = -1000002) ∧ (¬ suN ((OFs FN 14).2.2 : Int) v2 v3 < 1 → (I4 245 (Int.toNat (wr ((rkF (I4 235 27) v2 v3) - 1)))) = (OFs FN 14).1 (Int.toNat (suN ((OFs FN 14).2.2 : Int) v2 v3) - 1))) from by
                              refine ⟨fun z => ?_, fun z => ?_⟩
                              · exfalso; omega
                              · refine ⟨fun b => by exfalso; omega, fun _ => ?_⟩
                                rw [sn]
                                have q : Int.toNat (rkF (I4 235 27) v2 v3) - 1 = Int.toNat (wr ((rkF (I4 235 27) v2 v3) - 1)) := by omega
                                rw [q]; omega)⟩
            ·
              refine ⟨⟨_, rfl, (by decide)⟩, ?_⟩
              refine s_X12_finding hF (v := (-1000002)) (by decide) ?_
              have u18 : (I4 238 2) = (I 238 2) := hW7 _ _ (by first | decide | omega)
              have a19 : -2147483648 ≤ (I 238 2) ∧ (I 238 2) < 2147483648 := hA.1 _ _
              have a20 : -2147483648 ≤ (I4 238 2) ∧ (I4 238 2) < 2147483648 := hA6.1 _ _
              exact ⟨rfl, fun hv hA' => hQ _ _ (Rg.u hR5 (Pr_f rfl)) hA' (hv _ rfl) (fun ka ja hk => ((uI_o (show ¬ (ka = 238 ∧ ja = 2) from by first | (intro e; obtain ⟨rfl, rfl⟩ := e; exact hk (by decide)) | omega))).trans ((hW7 ka ja (by omega)))) (show (¬ ((0 ≤ v0 ∧ v0 ≤ 3) ∧ (0 ≤ v1 ∧ v1 ≤ 3) ∧ (1 ≤ v2 ∧ v2 ≤ 9) ∧ (1 ≤ v3 ∧ v3 ≤ 9)) → (-1000002) = -1000001) ∧ (((0 ≤ v0 ∧ v0 ≤ 3) ∧ (0 ≤ v1 ∧ v1 ≤ 3) ∧ (1 ≤ v2 ∧ v2 ≤ 9) ∧ (1 ≤ v3 ∧ v3 ≤ 9)) → (suN ((OFs FN 14).2.2 : Int) v2 v3 < 1 → (-1000002) = -1000002) ∧ (¬ suN ((OFs FN 14).2.2 : Int) v2 v3 < 1 → (-1000002) = (OFs FN 14).1 (Int.toNat (suN ((OFs FN 14).2.2 : Int) v2 v3) - 1))) from by
                              refine ⟨fun z => ?_, fun z => ?_⟩
                              · exfalso; omega
                              · have hu : suN ((OFs FN 14).2.2 : Int) v2 v3 < 1 := by first | omega | (rw [suN_n (by omega)]; omega)
                                exact ⟨fun _ => by first | rfl | omega, fun b => absurd hu b⟩)⟩
          ·
            have sn : suN ((OFs FN 14).2.2 : Int) v2 v3 = 0 := by rw [← en]; exact suN_n hs
            refine r_rank0 (v0 := (I4 235 27)) hF hR5 (by omega) (fun vr21 _ hz => ?_)
            have hz : vr21 = 0 := hz
            refine ⟨fun c => absurd (show ((vr21 : Int) = 0) from by first | omega | (simp only [wr, wl] at *; omega)) c, fun _ => ?_⟩
            refine ⟨⟨_, rfl, (by decide)⟩, ?_⟩
            refine s_X12_finding hF (v := (-1000002)) (by decide) ?_
            have u22 : (I4 238 2) = (I 238 2) := hW7 _ _ (by first | decide | omega)
            have a23 : -2147483648 ≤ (I 238 2) ∧ (I 238 2) < 2147483648 := hA.1 _ _
            have a24 : -2147483648 ≤ (I4 238 2) ∧ (I4 238 2) < 2147483648 := hA6.1 _ _
            exact ⟨rfl, fun hv hA' => hQ _ _ (Rg.u hR5 (Pr_f rfl)) hA' (hv _ rfl) (fun ka ja hk => ((uI_o (show ¬ (ka = 238 ∧ ja = 2) from by first | (intro e; obtain ⟨rfl, rfl⟩ := e; exact hk (by decide)) | omega))).trans ((hW7 ka ja (by omega)))) (show (¬ ((0 ≤ v0 ∧ v0 ≤ 3) ∧ (0 ≤ v1 ∧ v1 ≤ 3) ∧ (1 ≤ v2 ∧ v2 ≤ 9) ∧ (1 ≤ v3 ∧ v3 ≤ 9)) → (-1000002) = -1000001) ∧ (((0 ≤ v0 ∧ v0 ≤ 3) ∧ (0 ≤ v1 ∧ v1 ≤ 3) ∧ (1 ≤ v2 ∧ v2 ≤ 9) ∧ (1 ≤ v3 ∧ v3 ≤ 9)) → (suN ((OFs FN 14).2.2 : Int) v2 v3 < 1 → (-1000002) = -1000002) ∧ (¬ suN ((OFs FN 14).2.2 : Int) v2 v3 < 1 → (-1000002) = (OFs FN 14).1 (Int.toNat (suN ((OFs FN 14).2.2 : Int) v2 v3) - 1))) from by
                              refine ⟨fun z => ?_, fun z => ?_⟩
                              · exfalso; omega
                              · have hu : suN ((OFs FN 14).2.2 : Int) v2 v3 < 1 := by first | omega | (rw [suN_n (by omega)]; omega)
                                exact ⟨fun _ => by first | rfl | omega, fun b => absurd hu b⟩)⟩
        ·
          refine ⟨fun c => absurd (show ((0 : Int) = 0) from by decide) c, fun _ => ?_⟩
          refine ⟨⟨_, rfl, (by decide)⟩, ?_⟩
          refine s_X12_finding hF (v := (-1000002)) (by decide) ?_
          have u25 : (I4 238 2) = (I 238 2) := hW7 _ _ (by first | decide | omega)
          have a26 : -2147483648 ≤ (I 238 2) ∧ (I 238 2) < 2147483648 := hA.1 _ _
          have a27 : -2147483648 ≤ (I4 238 2) ∧ (I4 238 2) < 2147483648 := hA6.1 _ _
          exact ⟨rfl, fun hv hA' => hQ _ _ (Rg.u hR5 (Pr_f rfl)) hA' (hv _ rfl) (fun ka ja hk => ((uI_o (show ¬ (ka = 238 ∧ ja = 2) from by first | (intro e; obtain ⟨rfl, rfl⟩ := e; exact hk (by decide)) | omega))).trans ((hW7 ka ja (by omega)))) (show (¬ ((0 ≤ v0 ∧ v0 ≤ 3) ∧ (0 ≤ v1 ∧ v1 ≤ 3) ∧ (1 ≤ v2 ∧ v2 ≤ 9) ∧ (1 ≤ v3 ∧ v3 ≤ 9)) → (-1000002) = -1000001) ∧ (((0 ≤ v0 ∧ v0 ≤ 3) ∧ (0 ≤ v1 ∧ v1 ≤ 3) ∧ (1 ≤ v2 ∧ v2 ≤ 9) ∧ (1 ≤ v3 ∧ v3 ≤ 9)) → (suN ((OFs FN 14).2.2 : Int) v2 v3 < 1 → (-1000002) = -1000002) ∧ (¬ suN ((OFs FN 14).2.2 : Int) v2 v3 < 1 → (-1000002) = (OFs FN 14).1 (Int.toNat (suN ((OFs FN 14).2.2 : Int) v2 v3) - 1))) from by
                              refine ⟨fun z => ?_, fun z => ?_⟩
                              · exfalso; omega
                              · have hu : suN ((OFs FN 14).2.2 : Int) v2 v3 < 1 := by first | omega | (rw [suN_n (by omega)]; omega)
                                exact ⟨fun _ => by first | rfl | omega, fun b => absurd hu b⟩)⟩
      ·
        refine ⟨fun c => absurd (show ((0 : Int) = 0) from by decide) c, fun _ => ?_⟩
        refine ⟨⟨_, rfl, (by decide)⟩, ?_⟩
        refine s_X12_finding hF (v := (-1000001)) (by decide) ?_
        exact ⟨rfl, fun hv hA' => hQ _ _ (Rg.u hR (Pr_f rfl)) hA' (hv _ rfl) (fun ka ja hk => (uI_o (show ¬ (ka = 238 ∧ ja = 1) from by first | (intro e; obtain ⟨rfl, rfl⟩ := e; exact hk (by decide)) | omega))) (show (¬ ((0 ≤ v0 ∧ v0 ≤ 3) ∧ (0 ≤ v1 ∧ v1 ≤ 3) ∧ (1 ≤ v2 ∧ v2 ≤ 9) ∧ (1 ≤ v3 ∧ v3 ≤ 9)) → (-1000001) = -1000001) ∧ (((0 ≤ v0 ∧ v0 ≤ 3) ∧ (0 ≤ v1 ∧ v1 ≤ 3) ∧ (1 ≤ v2 ∧ v2 ≤ 9) ∧ (1 ≤ v3 ∧ v3 ≤ 9)) → (suN ((OFs FN 14).2.2 : Int) v2 v3 < 1 → (-1000001) = -1000002) ∧ (¬ suN ((OFs FN 14).2.2 : Int) v2 v3 < 1 → (-1000001) = (OFs FN 14).1 (Int.toNat (suN ((OFs FN 14).2.2 : Int) v2 v3) - 1))) from by
                              refine ⟨fun z => ?_, fun z => ?_⟩
                              · first | rfl | omega
                              · exfalso; omega)⟩
    ·
      refine ⟨fun _ => ?_, fun c => absurd (show ((0 : Int) = 0) from by decide) c⟩
      refine ⟨⟨_, rfl, (by decide)⟩, ?_⟩
      refine s_X12_finding hF (v := (-1000001)) (by decide) ?_
      exact ⟨rfl, fun hv hA' => hQ _ _ (Rg.u hR (Pr_f rfl)) hA' (hv _ rfl) (fun ka ja hk => (uI_o (show ¬ (ka = 238 ∧ ja = 1) from by first | (intro e; obtain ⟨rfl, rfl⟩ := e; exact hk (by decide)) | omega))) (show (¬ ((0 ≤ v0 ∧ v0 ≤ 3) ∧ (0 ≤ v1 ∧ v1 ≤ 3) ∧ (1 ≤ v2 ∧ v2 ≤ 9) ∧ (1 ≤ v3 ∧ v3 ≤ 9)) → (-1000001) = -1000001) ∧ (((0 ≤ v0 ∧ v0 ≤ 3) ∧ (0 ≤ v1 ∧ v1 ≤ 3) ∧ (1 ≤ v2 ∧ v2 ≤ 9) ∧ (1 ≤ v3 ∧ v3 ≤ 9)) → (suN ((OFs FN 14).2.2 : Int) v2 v3 < 1 → (-1000001) = -1000002) ∧ (¬ suN ((OFs FN 14).2.2 : Int) v2 v3 < 1 → (-1000001) = (OFs FN 14).1 (Int.toNat (suN ((OFs FN 14).2.2 : Int) v2 v3) - 1))) from by
                              refine ⟨fun z => ?_, fun z => ?_⟩
                              · first | rfl | omega
                              · exfalso; omega)⟩
  ·
    refine ⟨fun _ => ?_, fun c => absurd (show ((0 : Int) = 0) from by decide) c⟩
    refine ⟨⟨_, rfl, (by decide)⟩, ?_⟩
    refine s_X12_finding hF (v := (-1000001)) (by decide) ?_
    exact ⟨rfl, fun hv hA' => hQ _ _ (Rg.u hR (Pr_f rfl)) hA' (hv _ rfl) (fun ka ja hk => (uI_o (show ¬ (ka = 238 ∧ ja = 1) from by first | (intro e; obtain ⟨rfl, rfl⟩ := e; exact hk (by decide)) | omega))) (show (¬ ((0 ≤ v0 ∧ v0 ≤ 3) ∧ (0 ≤ v1 ∧ v1 ≤ 3) ∧ (1 ≤ v2 ∧ v2 ≤ 9) ∧ (1 ≤ v3 ∧ v3 ≤ 9)) → (-1000001) = -1000001) ∧ (((0 ≤ v0 ∧ v0 ≤ 3) ∧ (0 ≤ v1 ∧ v1 ≤ 3) ∧ (1 ≤ v2 ∧ v2 ≤ 9) ∧ (1 ≤ v3 ∧ v3 ≤ 9)) → (suN ((OFs FN 14).2.2 : Int) v2 v3 < 1 → (-1000001) = -1000002) ∧ (¬ suN ((OFs FN 14).2.2 : Int) v2 v3 < 1 → (-1000001) = (OFs FN 14).1 (Int.toNat (suN ((OFs FN 14).2.2 : Int) v2 v3) - 1))) from by
                              refine ⟨fun z => ?_, fun z => ?_⟩
                              · first | rfl | omega
                              · exfalso; omega)⟩
end SU11
def SUQ (FN : Nat → Int) (v0 v1 v2 v3 r : Int) : Prop := (¬ ((0 ≤ v0 ∧ v0 ≤ 3) ∧ (0 ≤ v1 ∧ v1 ≤ 3) ∧ (1 ≤ v2 ∧ v2 ≤ 9) ∧ (1 ≤ v3 ∧ v3 ≤ 9)) → r = -1000001) ∧ (((0 ≤ v0 ∧ v0 ≤ 3) ∧ (0 ≤ v1 ∧ v1 ≤ 3) ∧ (1 ≤ v2 ∧ v2 ≤ 9) ∧ (1 ≤ v3 ∧ v3 ≤ 9)) → (suN ((OFs FN 14).2.2 : Int) v2 v3 < 1 → r = -1000002) ∧ (¬ suN ((OFs FN 14).2.2 : Int) v2 v3 < 1 → r = (OFs FN 14).1 (Int.toNat (suN ((OFs FN 14).2.2 : Int) v2 v3) - 1)))
theorem sure_e {FN : Nat → Int} {v0 v1 v2 v3 r r' : Int} (c : SUQ FN v0 v1 v2 v3 r) (d : SUQ FN v0 v1 v2 v3 r') : r = r' := by
  unfold SUQ at c d
  by_cases v : ((0 ≤ v0 ∧ v0 ≤ 3) ∧ (0 ≤ v1 ∧ v1 ≤ 3) ∧ (1 ≤ v2 ∧ v2 ≤ 9) ∧ (1 ≤ v3 ∧ v3 ≤ 9))
  · have c1 := c.2 v
    have d1 := d.2 v
    by_cases t : suN ((OFs FN 14).2.2 : Int) v2 v3 < 1
    · exact (c1.1 t).trans (d1.1 t).symm
    · exact (c1.2 t).trans (d1.2 t).symm
  · exact (c.1 v).trans (d.1 v).symm
