/-! a text's parts, and what the class's reader makes of them. Own work (scripts laid by wip/pm/gen34.py). -/
section CP9
variable {G : pG} {d : Nat} {F : pF} {I : pI} {Q : Option pV → pF → pI → Prop}
/-- the word at which part i begins (a, b), and whether last parts have begun: ahead of the asking for "last" .. -/
noncomputable def ckP (t : Int → Int) (n : Int) (i : Nat) (s : Int × Int × Int) : Int × Int × Int := @ite _ (0 < i ∧ s.2.2 = 0 ∧ mkW0 t s.1 s.2.1) (Classical.propDecidable _) (na t n s.2.1, nb t n s.2.1, 1) s
noncomputable def twP (t : Int → Int) (n : Int) : Nat → Int × Int × Int
  | 0 => (na t n 0, nb t n 0, 0)
  | i + 1 => (na t n (peB t n (ckP t n i (twP t n i)).1 (ckP t n i (twP t n i)).2.1), nb t n (peB t n (ckP t n i (twP t n i)).1 (ckP t n i (twP t n i)).2.1), (ckP t n i (twP t n i)).2.2)
/-- .. and behind it -/
noncomputable def cP (t : Int → Int) (n : Int) (i : Nat) : Int × Int × Int := ckP t n i (twP t n i)
def okP (t : Int → Int) (n : Int) (i : Nat) : Prop := pok t n (cP t n i).1 (cP t n i).2.1
noncomputable def eA (t : Int → Int) (n : Int) (i : Nat) : Int := peA t n (cP t n i).1 (cP t n i).2.1
noncomputable def eB (t : Int → Int) (n : Int) (i : Nat) : Int := peB t n (cP t n i).1 (cP t n i).2.1
def sepP (t : Int → Int) (n : Int) (i : Nat) : Prop := ((cP t n i).2.2 = 0 → mkW8 t (eA t n i) (eB t n i)) ∧ (¬ (cP t n i).2.2 = 0 → mkW7 t (eA t n i) (eB t n i))
noncomputable def fsP (t : Int → Int) (n : Int) : Nat → Int
  | 0 => 0
  | i + 1 => fsP t n i + (1 - (cP t n i).2.2)
noncomputable def actP (t : Int → Int) (n : Int) (i : Nat) : Int := aF t (cP t n i).1 (cP t n i).2.1
noncomputable def amP (t : Int → Int) (n : Int) (i : Nat) : Int := pam t n (cP t n i).1 (cP t n i).2.1
noncomputable def flP (t : Int → Int) (n : Int) (i : Nat) : Int := pfl t n (cP t n i).1 (cP t n i).2.1
/-- what a text is: r the fault's place or -1, m the last part that was looked at -/
def RESP (t : Int → Int) (n r : Int) (m : Nat) : Prop := (∀ k : Nat, k < m → okP t n k ∧ sepP t n k) ∧ ((¬ okP t n m ∧ 0 ≤ r ∧ r = flP t n m) ∨ (okP t n m ∧ ¬ sepP t n m ∧ r = if n ≤ eA t n m then -1 else eA t n m))
theorem RESP_u {t : Int → Int} {n r r' : Int} {m m' : Nat} (h : RESP t n r m) (g : RESP t n r' m') : r = r' ∧ m = m' := by
  have no : ∀ {r : Int} {m : Nat}, RESP t n r m → ¬ (okP t n m ∧ sepP t n m) := fun h e => by
    rcases h.2 with q | q
    · exact q.1 e.1
    · exact q.2.1 e.2
  by_cases e : m < m'
  · exact absurd (g.1 m e) (no h)
  · by_cases e2 : m' < m
    · exact absurd (h.1 m' e2) (no g)
    · obtain rfl : m = m' := by omega
      refine ⟨?_, rfl⟩
      rcases h.2 with q | q <;> rcases g.2 with p | p
      · rw [q.2.2, p.2.2]
      · exact absurd p.1 q.1
      · exact absurd q.1 p.1
      · rw [q.2.2, p.2.2]
theorem cP_n {t : Int → Int} {n a b l : Int} {i : Nat} (h : twP t n i = (a, b, l)) (e : ¬ (0 < i ∧ l = 0 ∧ mkW0 t a b)) : cP t n i = (a, b, l) := by
  unfold cP ckP
  rw [h]
  exact if_neg e
theorem cP_y {t : Int → Int} {n a b l : Int} {i : Nat} (h : twP t n i = (a, b, l)) (h1 : 0 < i) (h2 : l = 0) (h3 : mkW0 t a b) : cP t n i = (na t n b, nb t n b, 1) := by
  unfold cP ckP
  rw [h]
  exact if_pos ⟨h1, h2, h3⟩
theorem twP_s {t : Int → Int} {n a b l d : Int} {i : Nat} (h : cP t n i = (a, b, l)) (e : d = peB t n a b) : twP t n (i + 1) = (na t n d, nb t n d, l) := by
  show (na t n (peB t n (cP t n i).1 (cP t n i).2.1), nb t n (peB t n (cP t n i).1 (cP t n i).2.1), (cP t n i).2.2) = _
  rw [h, e]
theorem okP_i {t : Int → Int} {n a b l : Int} {i : Nat} (h : cP t n i = (a, b, l)) : okP t n i ↔ pok t n a b := by unfold okP; rw [h]
theorem eA_i {t : Int → Int} {n a b l : Int} {i : Nat} (h : cP t n i = (a, b, l)) : eA t n i = peA t n a b := by unfold eA; rw [h]
theorem eB_i {t : Int → Int} {n a b l : Int} {i : Nat} (h : cP t n i = (a, b, l)) : eB t n i = peB t n a b := by unfold eB; rw [h]
theorem flP_i {t : Int → Int} {n a b l : Int} {i : Nat} (h : cP t n i = (a, b, l)) : flP t n i = pfl t n a b := by unfold flP; rw [h]
theorem actP_i {t : Int → Int} {n a b l : Int} {i : Nat} (h : cP t n i = (a, b, l)) : actP t n i = aF t a b := by unfold actP; rw [h]
theorem amP_i {t : Int → Int} {n a b l : Int} {i : Nat} (h : cP t n i = (a, b, l)) : amP t n i = pam t n a b := by unfold amP; rw [h]
theorem fsP_s {t : Int → Int} {n a b l : Int} {i : Nat} (h : cP t n i = (a, b, l)) : fsP t n (i + 1) = fsP t n i + (1 - l) := by
  show fsP t n i + (1 - (cP t n i).2.2) = _
  rw [h]
theorem sepP_i {t : Int → Int} {n a b l x y : Int} {i : Nat} (h : cP t n i = (a, b, l)) (ha : x = peA t n a b) (hb : y = peB t n a b) : sepP t n i ↔ ((l = 0 → mkW8 t x y) ∧ (¬ l = 0 → mkW7 t x y)) := by
  unfold sepP
  rw [eA_i h, eB_i h, h, ha, hb]
theorem mk_len {t : Int → Int} {a b : Int} : (mkW8 t a b → b - a = 1) ∧ (mkW7 t a b → b - a = 1) := ⟨fun h => h.1, fun h => h.1⟩
theorem uJ_eqj {I : pI} {q b j : Nat} {v : Int} (h : j = b) : uI I q b v q j = v := by subst h; exact uJ_eq
theorem c_add9 (hF : FS F) (hR : Rg I) {v0 v1 v2 : Int} (hc : 0 ≤ I 220 4 ∧ I 220 4 ≤ 31) (hv2 : 0 ≤ v2 ∧ v2 ≤ 1) (hs : 0 ≤ I 220 3 ∧ I 220 3 ≤ 31) (hQ : ∀ (I' : pI), Rg I' → AR I' → (∀ k j, ¬ (k = 221 ∨ k = 222 ∨ (k = 220 ∧ 3 ≤ j)) → I' k j = I k j) → ((I' 220 4) = (I 220 4) + 1) → ((I' 220 3) = (I 220 3) + (1 - v2)) → ((∀ j : Nat, ¬ (j : Int) = I 220 4 → I' 221 j = I 221 j ∧ I' 222 j = I 222 j) ∧ (∀ j : Nat, (j : Int) = I 220 4 → I' 221 j = v0 ∧ I' 222 j = v1)) → Q none F I') : CallN G d kX5_add [vr 220, vi v0, vi v1, vi v2] NP F I Q := by
  refine CallN_in (fun hok hA => CallN_out ?_)
  have iv0 : -2147483648 ≤ v0 ∧ v0 < 2147483648 := hok (vi v0) (by simp)
  have iv1 : -2147483648 ≤ v1 ∧ v1 < 2147483648 := hok (vi v1) (by simp)
  have iv2 : -2147483648 ≤ v2 ∧ v2 < 2147483648 := hok (vi v2) (by simp)
  refine Call_wp (lv := [some (vr 220), some (vi v0), some (vi v1), some (vi v2)]) (by decide) ckX5_add [] rfl rfl ?_
  refine ⟨_, rfl, (by decide), ?_⟩
  have r1 : 0 ≤ (I 220 4) ∧ (I 220 4) ≤ 31 := (by omega)
  refine ⟨fun c => absurd c (show (¬ (((I 220 4) : Int) < 0)) from by first | omega | (simp only [wr, wl] at *; omega)), fun _ => ?_⟩
  refine ⟨_, rfl, (by decide), ?_⟩
  refine ⟨fun c => absurd c (show (¬ ((32 : Int) ≤ (I 220 4))) from by first | omega | (simp only [wr, wl] at *; omega)), fun _ => ?_⟩
  refine ⟨_, rfl, (by decide), ?_⟩
  refine fun w0 hw0 => ?_; obtain rfl : w0 = some 221 := hw0.symm.trans (FS.g hF rfl)
  refine ⟨_, rfl, (by decide), ?_⟩
  refine ⟨_, rfl, (by decide), (show (0 : Int) ≤ (I 220 4) from by first | with_reducible assumption | omega | (simp only [wr, wl] at *; omega)), (show (I 220 4) < (32 : Int) from by first | with_reducible assumption | omega | (simp only [wr, wl] at *; omega)), ?_⟩
  refine ⟨_, rfl, (by decide), ?_⟩
  refine fun w0 hw0 => ?_; obtain rfl : w0 = some 222 := hw0.symm.trans (FS.g hF rfl)
  refine ⟨_, rfl, (by decide), ?_⟩
  refine ⟨_, rfl, (by decide), (show (0 : Int) ≤ (I 220 4) from by first | with_reducible assumption | omega | (simp only [wr, wl] at *; omega)), (show (I 220 4) < (32 : Int) from by first | with_reducible assumption | omega | (simp only [wr, wl] at *; omega)), ?_⟩
  refine ⟨_, rfl, (by decide), ?_⟩
  refine ⟨_, rfl, (by decide), ?_⟩
  refine ⟨_, rfl, (by decide), ?_⟩
  have r3 : 0 ≤ (I 220 3) ∧ (I 220 3) ≤ 31 := (by omega)
  refine ⟨fun (c4 : ((v2 : Int) = 0)) => ?_, fun (c4 : (¬ ((v2 : Int) = 0))) => ?_⟩
  ·
    refine ⟨_, rfl, (by decide), ?_⟩
    have n5 : (wr ((I 220 4) + 1)) = (I 220 4) + 1 := wr_id (show -2147483648 ≤ ((I 220 4) + 1 : Int) ∧ ((I 220 4) + 1 : Int) < 2147483648 from by omega)
    have n7 : (wr ((I 220 3) + 1)) = (I 220 3) + 1 := wr_id (show -2147483648 ≤ ((I 220 3) + 1 : Int) ∧ ((I 220 3) + 1 : Int) < 2147483648 from by omega)
    exact ⟨rfl, fun hv hA' => hQ _ (Rg.u (Rg.u (Rg.u (Rg.u hR (Pr_p (k := 221) rfl _ _)) (Pr_p (k := 222) rfl _ _)) (Pr_f rfl)) (Pr_f rfl)) hA' (fun ka ja hk => ((uI_o (show ¬ (ka = 220 ∧ ja = 3) from by first | (intro e; obtain ⟨rfl, rfl⟩ := e; exact hk (by decide)) | omega))).trans (((uI_o (show ¬ (ka = 220 ∧ ja = 4) from by first | (intro e; obtain ⟨rfl, rfl⟩ := e; exact hk (by decide)) | omega))).trans (((uI_o (show ¬ (ka = 222 ∧ ja = (Int.toNat (I 220 4))) from by first | (intro e; obtain ⟨rfl, _⟩ := e; exact hk (by decide)) | omega))).trans ((uI_o (show ¬ (ka = 221 ∧ ja = (Int.toNat (I 220 4))) from by first | (intro e; obtain ⟨rfl, _⟩ := e; exact hk (by decide)) | omega)))))) (show (wr ((I 220 4) + 1)) = (I 220 4) + 1 from by first | omega | (simp only [wr, wl] at *; omega)) (show (wr ((I 220 3) + 1)) = (I 220 3) + (1 - v2) from by first | omega | (simp only [wr, wl] at *; omega)) (⟨fun j hj => ⟨(uI_o (fun e => absurd e.1 (by decide))).trans ((uI_o (fun e => absurd e.1 (by decide))).trans ((uI_o (fun e => absurd e.1 (by decide))).trans (uJ_ne (show ¬ j = (Int.toNat (I 220 4)) from by omega)))), (uI_o (fun e => absurd e.1 (by decide))).trans ((uI_o (fun e => absurd e.1 (by decide))).trans ((uJ_ne (show ¬ j = (Int.toNat (I 220 4)) from by omega)).trans (uI_o (fun e => absurd e.1 (by decide)))))⟩, fun j hj => ⟨(uI_o (fun e => absurd e.1 (by decide))).trans ((uI_o (fun e => absurd e.1 (by decide))).trans ((uI_o (fun e => absurd e.1 (by decide))).trans (uJ_eqj (show j = (Int.toNat (I 220 4)) from by omega)))), (uI_o (fun e => absurd e.1 (by decide))).trans ((uI_o (fun e => absurd e.1 (by decide))).trans (uJ_eqj (show j = (Int.toNat (I 220 4)) from by omega)))⟩⟩)⟩
  ·
    refine ⟨_, rfl, (by decide), ?_⟩
    have n8 : (wr ((I 220 4) + 1)) = (I 220 4) + 1 := wr_id (show -2147483648 ≤ ((I 220 4) + 1 : Int) ∧ ((I 220 4) + 1 : Int) < 2147483648 from by omega)
    have n10 : (wr ((I 220 3) + 0)) = (I 220 3) + 0 := wr_id (show -2147483648 ≤ ((I 220 3) + 0 : Int) ∧ ((I 220 3) + 0 : Int) < 2147483648 from by omega)
    exact ⟨rfl, fun hv hA' => hQ _ (Rg.u (Rg.u (Rg.u (Rg.u hR (Pr_p (k := 221) rfl _ _)) (Pr_p (k := 222) rfl _ _)) (Pr_f rfl)) (Pr_f rfl)) hA' (fun ka ja hk => ((uI_o (show ¬ (ka = 220 ∧ ja = 3) from by first | (intro e; obtain ⟨rfl, rfl⟩ := e; exact hk (by decide)) | omega))).trans (((uI_o (show ¬ (ka = 220 ∧ ja = 4) from by first | (intro e; obtain ⟨rfl, rfl⟩ := e; exact hk (by decide)) | omega))).trans (((uI_o (show ¬ (ka = 222 ∧ ja = (Int.toNat (I 220 4))) from by first | (intro e; obtain ⟨rfl, _⟩ := e; exact hk (by decide)) | omega))).trans ((uI_o (show ¬ (ka = 221 ∧ ja = (Int.toNat (I 220 4))) from by first | (intro e; obtain ⟨rfl, _⟩ := e; exact hk (by decide)) | omega)))))) (show (wr ((I 220 4) + 1)) = (I 220 4) + 1 from by first | omega | (simp only [wr, wl] at *; omega)) (show (wr ((I 220 3) + 0)) = (I 220 3) + (1 - v2) from by first | omega | (simp only [wr, wl] at *; omega)) (⟨fun j hj => ⟨(uI_o (fun e => absurd e.1 (by decide))).trans ((uI_o (fun e => absurd e.1 (by decide))).trans ((uI_o (fun e => absurd e.1 (by decide))).trans (uJ_ne (show ¬ j = (Int.toNat (I 220 4)) from by omega)))), (uI_o (fun e => absurd e.1 (by decide))).trans ((uI_o (fun e => absurd e.1 (by decide))).trans ((uJ_ne (show ¬ j = (Int.toNat (I 220 4)) from by omega)).trans (uI_o (fun e => absurd e.1 (by decide)))))⟩, fun j hj => ⟨(uI_o (fun e => absurd e.1 (by decide))).trans ((uI_o (fun e => absurd e.1 (by decide))).trans ((uI_o (fun e => absurd e.1 (by decide))).trans (uJ_eqj (show j = (Int.toNat (I 220 4)) from by omega)))), (uI_o (fun e => absurd e.1 (by decide))).trans ((uI_o (fun e => absurd e.1 (by decide))).trans (uJ_eqj (show j = (Int.toNat (I 220 4)) from by omega)))⟩⟩)⟩
theorem c_readPart9 (hF : FS F) (hR : Rg I) {v0 : Int} (hx : F 218 0 = some 5) {tt : Int → Int} {nn : Int} (hl : I 218 1 = nn) (ht : TXT tt nn (I 5)) (hb : 0 ≤ I 218 2 ∧ I 218 2 ≤ I 218 3 ∧ I 218 3 ≤ nn) (hc : 0 ≤ I 220 4 ∧ I 220 4 ≤ 31) (hv0 : 0 ≤ v0 ∧ v0 ≤ 1) (hs : 0 ≤ I 220 3 ∧ I 220 3 ≤ 31) (hQ : ∀ (r : Int) (I' : pI), Rg I' → AR I' → iR r → (∀ k j, ¬ ((k = 218 ∧ 2 ≤ j) ∨ k = 221 ∨ k = 222 ∨ (k = 220 ∧ 3 ≤ j)) → I' k j = I k j) → (0 ≤ r ∧ r ≤ 1) → (r = 1 → (I 218 2) + 3 ≤ (I' 218 2)) → ((I' 218 2) ≤ (I' 218 3)) → ((I' 218 3) ≤ nn) → (0 ≤ (I' 218 2)) → (r = 1 → (I' 220 4) = (I 220 4) + 1) → (r = 0 → (I' 220 4) = (I 220 4)) → (r = 1 → (I' 220 3) = (I 220 3) + (1 - v0)) → (r = 0 → (I' 220 3) = (I 220 3)) → ((r = 1 → pok tt nn (I 218 2) (I 218 3) ∧ I' 218 2 = peA tt nn (I 218 2) (I 218 3) ∧ I' 218 3 = peB tt nn (I 218 2) (I 218 3) ∧ (∀ j : Nat, ¬ (j : Int) = I 220 4 → I' 221 j = I 221 j ∧ I' 222 j = I 222 j) ∧ (∀ j : Nat, (j : Int) = I 220 4 → I' 221 j = aF tt (I 218 2) (I 218 3) ∧ I' 222 j = pam tt nn (I 218 2) (I 218 3))) ∧ (r = 0 → ¬ pok tt nn (I 218 2) (I 218 3) ∧ I' 218 2 = pfl tt nn (I 218 2) (I 218 3) ∧ ∀ j : Nat, I' 221 j = I 221 j ∧ I' 222 j = I 222 j)) → Q (some (vi r)) F I') : CallN G (d + 6) kX9_readPart [vr 218, vr 220, vi v0] NP F I Q := by
  refine CallN_in (fun hok hA => CallN_out ?_)
  have iv0 : -2147483648 ≤ v0 ∧ v0 < 2147483648 := hok (vi v0) (by simp)
  have hn2 := ht.1
  refine Call_wp (lv := [some (vr 218), some (vr 220), some (vi v0), none, none]) (by decide) ckX9_readPart [] rfl rfl ?_
  refine ⟨⟨_, rfl, (by decide)⟩, ?_⟩
  have r1 : 0 ≤ (I 218 2) ∧ (I 218 2) ≤ 64 := (by omega)
  have r3 : 0 ≤ (I 218 3) ∧ (I 218 3) ≤ 64 := (by omega)
  refine c_actHere9  hF hR hx (hl) ht (show 0 ≤ (I 218 2) ∧ (I 218 2) ≤ (I 218 3) ∧ (I 218 3) ≤ nn from by first | omega | (simp only [wr, wl] at *; omega)) (fun vr5 hr6 q7 q8 q9 qr10 => ?_)
  have hr6 : -2147483648 ≤ vr5 ∧ vr5 < 2147483648 := hr6
  have q7 : -1 ≤ vr5 ∧ vr5 ≤ 5 := q7
  have q8 : 0 ≤ vr5 → (I 218 2) + 2 ≤ (I 218 3) := q8
  have q9 : vr5 = 4 → (I 218 2) + 4 ≤ (I 218 3) := q9
  refine ⟨fun (c11 : ((0 : Int) ≤ vr5)) => ?_, fun (c11 : (¬ ((0 : Int) ≤ vr5))) => ?_⟩
  ·
    refine ⟨⟨_, rfl, (by decide)⟩, ?_⟩
    refine c_next9  hF hR hx (hl) ht (show 0 ≤ (I 218 3) ∧ (I 218 3) ≤ nn from by first | omega | (simp only [wr, wl] at *; omega)) (fun I12 hR13 hA14 hW15 q16 q17 q18 q19 qr20 => ?_)
    have q16 : (I 218 3) ≤ (I12 218 2) := q16
    have q17 : (I12 218 2) ≤ (I12 218 3) := q17
    have q18 : (I12 218 3) ≤ nn := q18
    have q19 : (I12 218 2) < nn → (I12 218 2) < (I12 218 3) := q19
    refine ⟨fun (c21 : (¬ (vr5 : Int) = 4)) => ?_, fun (c21 : ((vr5 : Int) = 4)) => ?_⟩
    ·
      refine ⟨⟨_, rfl, (by decide)⟩, ?_⟩
      have r22 : 0 ≤ (I12 218 2) ∧ (I12 218 2) ≤ 64 := (by omega)
      have r24 : 0 ≤ (I12 218 3) ∧ (I12 218 3) ≤ 64 := (by omega)
      refine c_numb9  hF hR13 hx ((hW15 218 1 (by first | decide | omega)).trans hl) (TXT_f ht (fun j => hW15 5 j (by omega))) (show 0 ≤ (I12 218 2) ∧ (I12 218 2) ≤ (I12 218 3) ∧ (I12 218 3) ≤ nn from by first | omega | (simp only [wr, wl] at *; omega)) qr20.2 (fun vr26 hr27 q28 q29 qr30 => ?_)
      have hr27 : -2147483648 ≤ vr26 ∧ vr26 < 2147483648 := hr27
      have q28 : -1 ≤ vr26 ∧ vr26 ≤ 9999 := q28
      have q29 : 0 ≤ vr26 → (I12 218 2) + 1 ≤ (I12 218 3) := q29
      refine ⟨fun (c31 : ((0 : Int) ≤ vr26)) => ?_, fun (c31 : (¬ ((0 : Int) ≤ vr26))) => ?_⟩
      ·
        refine ⟨⟨_, rfl, (by decide)⟩, ?_⟩
        refine c_next9  hF hR13 hx ((hW15 218 1 (by first | decide | omega)).trans hl) (TXT_f ht (fun j => hW15 5 j (by omega))) (show 0 ≤ (I12 218 3) ∧ (I12 218 3) ≤ nn from by first | omega | (simp only [wr, wl] at *; omega)) (fun I32 hR33 hA34 hW35 q36 q37 q38 q39 qr40 => ?_)
        have q36 : (I12 218 3) ≤ (I32 218 2) := q36
        have q37 : (I32 218 2) ≤ (I32 218 3) := q37
        have q38 : (I32 218 3) ≤ nn := q38
        have q39 : (I32 218 2) < nn → (I32 218 2) < (I32 218 3) := q39
        refine ⟨⟨_, rfl, (by decide)⟩, ?_⟩
        have r41 : 0 ≤ (I 220 4) ∧ (I 220 4) ≤ 32 := (by omega)
        have u42 : (I12 220 4) = (I 220 4) := hW15 _ _ (by first | decide | omega)
        have a44 : -2147483648 ≤ (I12 220 4) ∧ (I12 220 4) < 2147483648 := hA14.1 _ _
        have r45 : 0 ≤ (I12 220 4) ∧ (I12 220 4) ≤ 32 := (by omega)
        have u46 : (I32 220 4) = (I12 220 4) := hW35 _ _ (by first | decide | omega)
        have a47 : -2147483648 ≤ (I32 220 4) ∧ (I32 220 4) < 2147483648 := hA34.1 _ _
        have r48 : 0 ≤ (I32 220 4) ∧ (I32 220 4) ≤ 32 := (by omega)
        have r49 : 0 ≤ (I 220 3) ∧ (I 220 3) ≤ 32 := (by omega)
        have u50 : (I12 220 3) = (I 220 3) := hW15 _ _ (by first | decide | omega)
        have a52 : -2147483648 ≤ (I12 220 3) ∧ (I12 220 3) < 2147483648 := hA14.1 _ _
        have r53 : 0 ≤ (I12 220 3) ∧ (I12 220 3) ≤ 32 := (by omega)
        have u54 : (I32 220 3) = (I12 220 3) := hW35 _ _ (by first | decide | omega)
        have a55 : -2147483648 ≤ (I32 220 3) ∧ (I32 220 3) < 2147483648 := hA34.1 _ _
        have r56 : 0 ≤ (I32 220 3) ∧ (I32 220 3) ≤ 32 := (by omega)
        refine c_add9 (v0 := vr5) (v1 := vr26) (v2 := v0) hF hR33 (show 0 ≤ (I32 220 4) ∧ (I32 220 4) ≤ 31 from by first | omega | (simp only [wr, wl] at *; omega)) (show 0 ≤ v0 ∧ v0 ≤ 1 from by first | omega | (simp only [wr, wl] at *; omega)) (show 0 ≤ (I32 220 3) ∧ (I32 220 3) ≤ 31 from by first | omega | (simp only [wr, wl] at *; omega)) (fun I57 hR58 hA59 hW60 q61 q62 qr63 => ?_)
        have q61 : (I57 220 4) = (I32 220 4) + 1 := q61
        have q62 : (I57 220 3) = (I32 220 3) + (1 - (v0 : Int)) := q62
        have r64 : 0 ≤ (I32 218 2) ∧ (I32 218 2) ≤ 64 := (by omega)
        have u65 : (I57 218 2) = (I32 218 2) := hW60 _ _ (by first | decide | omega)
        have a67 : -2147483648 ≤ (I57 218 2) ∧ (I57 218 2) < 2147483648 := hA59.1 _ _
        have r68 : 0 ≤ (I57 218 2) ∧ (I57 218 2) ≤ 64 := (by omega)
        have r69 : 0 ≤ (I32 218 3) ∧ (I32 218 3) ≤ 64 := (by omega)
        have u70 : (I57 218 3) = (I32 218 3) := hW60 _ _ (by first | decide | omega)
        have a72 : -2147483648 ≤ (I57 218 3) ∧ (I57 218 3) < 2147483648 := hA59.1 _ _
        have r73 : 0 ≤ (I57 218 3) ∧ (I57 218 3) ≤ 64 := (by omega)
        have r74 : 0 ≤ (I57 220 4) ∧ (I57 220 4) ≤ 32 := (by omega)
        have r76 : 0 ≤ (I57 220 3) ∧ (I57 220 3) ≤ 32 := (by omega)
        exact ⟨rfl, (by decide), fun hv hA' => hQ _ _ hR58 hA' (hv _ rfl) (fun ka ja hk => ((hW60 ka ja (by omega))).trans (((hW35 ka ja (by omega))).trans ((hW15 ka ja (by omega))))) (show 0 ≤ 1 ∧ 1 ≤ 1 from by decide) (show 1 = 1 → (I 218 2) + 3 ≤ (I57 218 2) from by first | with_reducible assumption | omega | (simp only [wr, wl] at *; omega)) (show (I57 218 2) ≤ (I57 218 3) from by first | with_reducible assumption | omega | (simp only [wr, wl] at *; omega)) (show (I57 218 3) ≤ nn from by first | with_reducible assumption | omega | (simp only [wr, wl] at *; omega)) (show 0 ≤ (I57 218 2) from by first | with_reducible assumption | omega | (simp only [wr, wl] at *; omega)) (show 1 = 1 → (I57 220 4) = (I 220 4) + 1 from by first | with_reducible assumption | omega | (simp only [wr, wl] at *; omega)) (show 1 = 0 → (I57 220 4) = (I 220 4) from fun z => absurd z (by decide)) (show 1 = 1 → (I57 220 3) = (I 220 3) + (1 - v0) from by first | with_reducible assumption | omega | (simp only [wr, wl] at *; omega)) (show 1 = 0 → (I57 220 3) = (I 220 3) from fun z => absurd z (by decide)) ((by
                              have ha := qr10
                              have e1 := Tok_n qr20
                              have hn := qr30
                              rw [e1.1, e1.2] at hn
                              have e2 := Tok_n qr40
                              rw [e1.2] at e2
                              have hq := qr63
                              have hC : I32 220 4 = I 220 4 := (hW35 220 4 (by first | decide | omega)).trans (hW15 220 4 (by first | decide | omega))
                              rw [hC] at hq
                              refine ⟨fun _ => ⟨⟨by rw [← ha]; omega, Or.inr (by rw [← hn]; omega)⟩, ?_, ?_, fun j hj => ?_, fun j hj => ?_⟩, fun z => absurd z (by decide)⟩
                              · unfold peA; rw [if_neg (by rw [← ha]; omega)]; exact (hW60 218 2 (by first | decide | omega)).trans e2.1
                              · unfold peB; rw [if_neg (by rw [← ha]; omega)]; exact (hW60 218 3 (by first | decide | omega)).trans e2.2
                              · exact ⟨(hq.1 j hj).1.trans ((hW35 221 j (by omega)).trans (hW15 221 j (by omega))), (hq.1 j hj).2.trans ((hW35 222 j (by omega)).trans (hW15 222 j (by omega)))⟩
                              · refine ⟨(hq.2 j hj).1.trans ?_, (hq.2 j hj).2.trans ?_⟩
                                · rw [← ha]
                                · unfold pam; rw [if_neg (by rw [← ha]; omega)]; exact hn))⟩
      ·
        have r78 : 0 ≤ (I 220 4) ∧ (I 220 4) ≤ 32 := (by omega)
        have u79 : (I12 220 4) = (I 220 4) := hW15 _ _ (by first | decide | omega)
        have a81 : -2147483648 ≤ (I12 220 4) ∧ (I12 220 4) < 2147483648 := hA14.1 _ _
        have r82 : 0 ≤ (I12 220 4) ∧ (I12 220 4) ≤ 32 := (by omega)
        have r83 : 0 ≤ (I 220 3) ∧ (I 220 3) ≤ 32 := (by omega)
        have u84 : (I12 220 3) = (I 220 3) := hW15 _ _ (by first | decide | omega)
        have a86 : -2147483648 ≤ (I12 220 3) ∧ (I12 220 3) < 2147483648 := hA14.1 _ _
        have r87 : 0 ≤ (I12 220 3) ∧ (I12 220 3) ≤ 32 := (by omega)
        exact ⟨rfl, (by decide), fun hv hA' => hQ _ _ hR13 hA' (hv _ rfl) (fun ka ja hk => (hW15 ka ja (by omega))) (show 0 ≤ 0 ∧ 0 ≤ 1 from by decide) (show 0 = 1 → (I 218 2) + 3 ≤ (I12 218 2) from fun z => absurd z (by decide)) (show (I12 218 2) ≤ (I12 218 3) from by first | with_reducible assumption | omega | (simp only [wr, wl] at *; omega)) (show (I12 218 3) ≤ nn from by first | with_reducible assumption | omega | (simp only [wr, wl] at *; omega)) (show 0 ≤ (I12 218 2) from by first | with_reducible assumption | omega | (simp only [wr, wl] at *; omega)) (show 0 = 1 → (I12 220 4) = (I 220 4) + 1 from fun z => absurd z (by decide)) (show 0 = 0 → (I12 220 4) = (I 220 4) from by first | with_reducible assumption | omega | (simp only [wr, wl] at *; omega)) (show 0 = 1 → (I12 220 3) = (I 220 3) + (1 - v0) from fun z => absurd z (by decide)) (show 0 = 0 → (I12 220 3) = (I 220 3) from by first | with_reducible assumption | omega | (simp only [wr, wl] at *; omega)) ((by
                              have ha := qr10
                              have e1 := Tok_n qr20
                              have hn := qr30
                              rw [e1.1, e1.2] at hn
                              refine ⟨fun z => absurd z (by decide), fun _ => ⟨fun z => ?_, ?_, fun j => ⟨hW15 221 j (by omega), hW15 222 j (by omega)⟩⟩⟩
                              · have y := z.2
                                rw [← ha, ← hn] at y; omega
                              · unfold pfl; rw [if_neg (by rw [← ha]; omega)]; exact (rfl).trans e1.1))⟩
    ·
      refine ⟨⟨_, rfl, (by decide)⟩, ?_⟩
      have r88 : 0 ≤ (I 220 4) ∧ (I 220 4) ≤ 32 := (by omega)
      have u89 : (I12 220 4) = (I 220 4) := hW15 _ _ (by first | decide | omega)
      have a91 : -2147483648 ≤ (I12 220 4) ∧ (I12 220 4) < 2147483648 := hA14.1 _ _
      have r92 : 0 ≤ (I12 220 4) ∧ (I12 220 4) ≤ 32 := (by omega)
      have r93 : 0 ≤ (I 220 3) ∧ (I 220 3) ≤ 32 := (by omega)
      have u94 : (I12 220 3) = (I 220 3) := hW15 _ _ (by first | decide | omega)
      have a96 : -2147483648 ≤ (I12 220 3) ∧ (I12 220 3) < 2147483648 := hA14.1 _ _
      have r97 : 0 ≤ (I12 220 3) ∧ (I12 220 3) ≤ 32 := (by omega)
      refine c_add9 (v0 := vr5) (v1 := 0) (v2 := v0) hF hR13 (show 0 ≤ (I12 220 4) ∧ (I12 220 4) ≤ 31 from by first | omega | (simp only [wr, wl] at *; omega)) (show 0 ≤ v0 ∧ v0 ≤ 1 from by first | omega | (simp only [wr, wl] at *; omega)) (show 0 ≤ (I12 220 3) ∧ (I12 220 3) ≤ 31 from by first | omega | (simp only [wr, wl] at *; omega)) (fun I98 hR99 hA100 hW101 q102 q103 qr104 => ?_)
      have q102 : (I98 220 4) = (I12 220 4) + 1 := q102
      have q103 : (I98 220 3) = (I12 220 3) + (1 - (v0 : Int)) := q103
      have r105 : 0 ≤ (I12 218 2) ∧ (I12 218 2) ≤ 64 := (by omega)
      have u106 : (I98 218 2) = (I12 218 2) := hW101 _ _ (by first | decide | omega)
      have a108 : -2147483648 ≤ (I98 218 2) ∧ (I98 218 2) < 2147483648 := hA100.1 _ _
      have r109 : 0 ≤ (I98 218 2) ∧ (I98 218 2) ≤ 64 := (by omega)
      have r110 : 0 ≤ (I12 218 3) ∧ (I12 218 3) ≤ 64 := (by omega)
      have u111 : (I98 218 3) = (I12 218 3) := hW101 _ _ (by first | decide | omega)
      have a113 : -2147483648 ≤ (I98 218 3) ∧ (I98 218 3) < 2147483648 := hA100.1 _ _
      have r114 : 0 ≤ (I98 218 3) ∧ (I98 218 3) ≤ 64 := (by omega)
      have r115 : 0 ≤ (I98 220 4) ∧ (I98 220 4) ≤ 32 := (by omega)
      have r117 : 0 ≤ (I98 220 3) ∧ (I98 220 3) ≤ 32 := (by omega)
      exact ⟨rfl, (by decide), fun hv hA' => hQ _ _ hR99 hA' (hv _ rfl) (fun ka ja hk => ((hW101 ka ja (by omega))).trans ((hW15 ka ja (by omega)))) (show 0 ≤ 1 ∧ 1 ≤ 1 from by decide) (show 1 = 1 → (I 218 2) + 3 ≤ (I98 218 2) from by first | with_reducible assumption | omega | (simp only [wr, wl] at *; omega)) (show (I98 218 2) ≤ (I98 218 3) from by first | with_reducible assumption | omega | (simp only [wr, wl] at *; omega)) (show (I98 218 3) ≤ nn from by first | with_reducible assumption | omega | (simp only [wr, wl] at *; omega)) (show 0 ≤ (I98 218 2) from by first | with_reducible assumption | omega | (simp only [wr, wl] at *; omega)) (show 1 = 1 → (I98 220 4) = (I 220 4) + 1 from by first | with_reducible assumption | omega | (simp only [wr, wl] at *; omega)) (show 1 = 0 → (I98 220 4) = (I 220 4) from fun z => absurd z (by decide)) (show 1 = 1 → (I98 220 3) = (I 220 3) + (1 - v0) from by first | with_reducible assumption | omega | (simp only [wr, wl] at *; omega)) (show 1 = 0 → (I98 220 3) = (I 220 3) from fun z => absurd z (by decide)) ((by
                              have ha := qr10
                              have e1 := Tok_n qr20
                              have hq := qr104
                              have hC : I12 220 4 = I 220 4 := hW15 220 4 (by first | decide | omega)
                              rw [hC] at hq
                              refine ⟨fun _ => ⟨⟨by rw [← ha]; omega, Or.inl (by rw [← ha]; omega)⟩, ?_, ?_, fun j hj => ?_, fun j hj => ?_⟩, fun z => absurd z (by decide)⟩
                              · unfold peA; rw [if_pos (by rw [← ha]; omega)]; exact (hW101 218 2 (by first | decide | omega)).trans e1.1
                              · unfold peB; rw [if_pos (by rw [← ha]; omega)]; exact (hW101 218 3 (by first | decide | omega)).trans e1.2
                              · exact ⟨(hq.1 j hj).1.trans (hW15 221 j (by omega)), (hq.1 j hj).2.trans (hW15 222 j (by omega))⟩
                              · refine ⟨(hq.2 j hj).1.trans ?_, (hq.2 j hj).2.trans ?_⟩
                                · rw [← ha]
                                · unfold pam; rw [if_pos (by rw [← ha]; omega)]))⟩
  ·
    have r119 : 0 ≤ (I 220 4) ∧ (I 220 4) ≤ 32 := (by omega)
    have r121 : 0 ≤ (I 220 3) ∧ (I 220 3) ≤ 32 := (by omega)
    exact ⟨rfl, (by decide), fun hv hA' => hQ _ _ hR hA' (hv _ rfl) (fun _ _ _ => rfl) (show 0 ≤ 0 ∧ 0 ≤ 1 from by decide) (show 0 = 1 → (I 218 2) + 3 ≤ (I 218 2) from fun z => absurd z (by decide)) (show (I 218 2) ≤ (I 218 3) from by first | with_reducible assumption | omega | (simp only [wr, wl] at *; omega)) (show (I 218 3) ≤ nn from by first | with_reducible assumption | omega | (simp only [wr, wl] at *; omega)) (show 0 ≤ (I 218 2) from by first | with_reducible assumption | omega | (simp only [wr, wl] at *; omega)) (show 0 = 1 → (I 220 4) = (I 220 4) + 1 from fun z => absurd z (by decide)) (show 0 = 0 → (I 220 4) = (I 220 4) from by first | with_reducible assumption | omega | (simp only [wr, wl] at *; omega)) (show 0 = 1 → (I 220 3) = (I 220 3) + (1 - v0) from fun z => absurd z (by decide)) (show 0 = 0 → (I 220 3) = (I 220 3) from by first | with_reducible assumption | omega | (simp only [wr, wl] at *; omega)) ((by
                              have ha := qr10
                              refine ⟨fun z => absurd z (by decide), fun _ => ⟨fun z => ?_, ?_, fun j => ⟨rfl, rfl⟩⟩⟩
                              · have y := z.1
                                rw [← ha] at y; omega
                              · show I 218 2 = _
                                unfold pfl; rw [if_pos (by rw [← ha]; omega)]))⟩
theorem c_fault9_l (hF : FS F) (hR : Rg I) {v0 : Int} (hx : F 218 0 = some 5) {tt : Int → Int} {nn : Int} (hl : I 218 1 = nn) (ht : TXT tt nn (I 5)) (hQ : ∀ (r : Int) (I' : pI), Rg I' → (∀ k j, ¬ ((k = 218 ∧ 2 ≤ j) ∨ k = 221 ∨ k = 222 ∨ (k = 220 ∧ 3 ≤ j)) → I' k j = I k j) → (-1 ≤ r ∧ r ≤ 64) → (∃ m : Nat, RESP tt nn r m ∧ (r = -1 → m < 17 ∧ I' 220 4 = m + 1 ∧ I' 220 3 = fsP tt nn (m + 1) ∧ ∀ k : Nat, k < m + 1 → I' 221 k = actP tt nn k ∧ I' 222 k = amP tt nn k)) → Q (some (vi r)) F I') : ∀ (mz : Nat) (la i : Int) (J : pI), Rg J → (∀ k j, ¬ ((k = 218 ∧ 2 ≤ j) ∨ k = 221 ∨ k = 222 ∨ (k = 220 ∧ 3 ≤ j)) → J k j = I k j) → ((0 : Int) ≤ la) → ((la : Int) ≤ 1) → ((0 : Int) ≤ i) → ((i : Int) ≤ 32) → ((J 220 4) = i) → (4 * i ≤ (J 218 2)) → ((J 218 2) ≤ (J 218 3)) → ((J 218 3) ≤ nn) → (twP tt nn (Int.toNat i) = ((J 218 2), (J 218 3), la)) → (∀ k : Nat, (k : Int) < i → okP tt nn k ∧ sepP tt nn k) → ((J 220 3) = fsP tt nn (Int.toNat i)) → (∀ k : Nat, (k : Int) < i → J 221 k = actP tt nn k ∧ J 222 k = amP tt nn k) → (0 ≤ (J 220 3) ∧ (J 220 3) ≤ i) → (32 - i).toNat < mz → GoN G (d + 7) kX9_faultOf NP NP 38 [some (vr 218), some (vr 5), some (vi v0), some (vr 220), some (vi la), some (vi i)] [] F J Q := by
  intro mz
  induction mz with
  | zero => intro la i J hJ hV _ _ _ _ _ _ _ _ _ _ _ _ _ h; exact absurd h (Nat.not_lt_zero _)
  | succ mz ih =>
    intro la i J hJ hV cc100 cc101 cc102 cc103 cc104 cc105 cc106 cc107 cc108 cc109 cc110 cc111 cc112 hm
    refine GoN_in (fun hok hA => ?_)
    have iiv0 : -2147483648 ≤ v0 ∧ v0 < 2147483648 := hok 2 _ rfl
    have iila : -2147483648 ≤ la ∧ la < 2147483648 := hok 4 _ rfl
    have iii : -2147483648 ≤ i ∧ i < 2147483648 := hok 5 _ rfl
    have hn2 := ht.1
    have r1 : 0 ≤ (J 218 2) ∧ (J 218 2) ≤ 64 := (by omega)
    have r3 : 0 ≤ (J 218 3) ∧ (J 218 3) ≤ 64 := (by omega)
    have r5 : 0 ≤ (J 220 4) ∧ (J 220 4) ≤ 32 := (by omega)
    have r7 : 0 ≤ (J 220 3) ∧ (J 220 3) ≤ 32 := (by omega)
    refine Go_wp (by decide) ckX9_faultOf [38] ?_
    refine ⟨fun (c9 : ((32 : Int) ≤ i)) => ?_, fun (c9 : (¬ ((32 : Int) ≤ i))) => ?_⟩
    ·
      refine ⟨_, rfl, (by decide), ?_⟩
      exact ⟨rfl, hQ _ _ hJ (fun ka ja hk => (hV ka ja (by omega))) (show -1 ≤ (J 218 2) ∧ (J 218 2) ≤ 64 from by first | omega | (simp only [wr, wl] at *; omega)) ((by exfalso; omega))⟩
    ·
      refine ⟨fun (c10 : ((i : Int) ≤ 0)) => ?_, fun (c10 : (¬ ((i : Int) ≤ 0))) => ?_⟩
      ·
        refine ⟨⟨_, rfl, (by decide)⟩, ?_⟩
        have hc : cP tt nn (Int.toNat i) = ((J 218 2), (J 218 3), la) := cP_n cc108 (by omega)
        refine c_readPart9 (v0 := la) hF hJ hx ((hV 218 1 (by first | decide | omega)).trans hl) (TXT_f ht (fun j => hV 5 j (by omega))) (show 0 ≤ (J 218 2) ∧ (J 218 2) ≤ (J 218 3) ∧ (J 218 3) ≤ nn from by first | omega | (simp only [wr, wl] at *; omega)) (show 0 ≤ (J 220 4) ∧ (J 220 4) ≤ 31 from by first | omega | (simp only [wr, wl] at *; omega)) (show 0 ≤ la ∧ la ≤ 1 from by first | omega | (simp only [wr, wl] at *; omega)) (show 0 ≤ (J 220 3) ∧ (J 220 3) ≤ 31 from by first | omega | (simp only [wr, wl] at *; omega)) (fun vr11 I12 hR13 hA14 hr16 hW15 q17 q18 q19 q20 q21 q22 q23 q24 q25 qr26 => ?_)
        have hr16 : -2147483648 ≤ vr11 ∧ vr11 < 2147483648 := hr16
        have q17 : 0 ≤ vr11 ∧ vr11 ≤ 1 := q17
        have q18 : vr11 = 1 → (J 218 2) + 3 ≤ (I12 218 2) := q18
        have q19 : (I12 218 2) ≤ (I12 218 3) := q19
        have q20 : (I12 218 3) ≤ nn := q20
        have q21 : 0 ≤ (I12 218 2) := q21
        have q22 : vr11 = 1 → (I12 220 4) = (J 220 4) + 1 := q22
        have q23 : vr11 = 0 → (I12 220 4) = (J 220 4) := q23
        have q24 : vr11 = 1 → (I12 220 3) = (J 220 3) + (1 - (la : Int)) := q24
        have q25 : vr11 = 0 → (I12 220 3) = (J 220 3) := q25
        refine ⟨fun (c27 : (¬ (vr11 : Int) = 0)) => ?_, fun (c27 : ((vr11 : Int) = 0)) => ?_⟩
        ·
          refine ⟨_, rfl, (by decide), ?_⟩
          have r28 : 0 ≤ (I12 218 2) ∧ (I12 218 2) ≤ 64 := (by omega)
          refine ⟨_, rfl, (by decide), ?_⟩
          have u29 : (J 218 1) = (I 218 1) := hV _ _ (by first | decide | omega)
          have a30 : -2147483648 ≤ (J 218 1) ∧ (J 218 1) < 2147483648 := hA.1 _ _
          have u31 : (I12 218 1) = (J 218 1) := hW15 _ _ (by first | decide | omega)
          have a32 : -2147483648 ≤ (I12 218 1) ∧ (I12 218 1) < 2147483648 := hA14.1 _ _
          refine ⟨fun (c34 : (((I12 218 2) : Int) < (I12 218 1))) => ?_, fun (c34 : (¬ (((I12 218 2) : Int) < (I12 218 1)))) => ?_⟩
          ·
            refine ⟨fun (c35 : ((la : Int) = 0)) => ?_, fun (c35 : (¬ ((la : Int) = 0))) => ?_⟩
            ·
              refine ⟨⟨_, rfl, (by decide)⟩, ?_⟩
              have r36 : 0 ≤ (I12 218 3) ∧ (I12 218 3) ≤ 64 := (by omega)
              refine c_mk9_8 hF hR13 hx (((hW15 218 1 (by first | decide | omega)).trans (hV 218 1 (by first | decide | omega))).trans hl) (TXT_f ht (fun j => (hW15 5 j (by omega)).trans (hV 5 j (by omega)))) (show 0 ≤ (I12 218 2) ∧ (I12 218 2) ≤ (I12 218 3) ∧ (I12 218 3) ≤ nn from by first | omega | (simp only [wr, wl] at *; omega)) (fun (w38 : mkW8 tt (I12 218 2) (I12 218 3)) l39 => ?_) (fun (w38 : ¬ mkW8 tt (I12 218 2) (I12 218 3)) => ?_)
              ·
                have l39 : (I12 218 3) - (I12 218 2) = 1 := l39
                refine ⟨fun _ => ?_, fun c => absurd c (show (¬ (1 : Int) = 0) from by decide)⟩
                refine ⟨⟨_, rfl, (by decide)⟩, ?_⟩
                refine c_next9  hF hR13 hx (((hW15 218 1 (by first | decide | omega)).trans (hV 218 1 (by first | decide | omega))).trans hl) (TXT_f ht (fun j => (hW15 5 j (by omega)).trans (hV 5 j (by omega)))) (show 0 ≤ (I12 218 3) ∧ (I12 218 3) ≤ nn from by first | omega | (simp only [wr, wl] at *; omega)) (fun I40 hR41 hA42 hW43 q44 q45 q46 q47 qr48 => ?_)
                have q44 : (I12 218 3) ≤ (I40 218 2) := q44
                have q45 : (I40 218 2) ≤ (I40 218 3) := q45
                have q46 : (I40 218 3) ≤ nn := q46
                have q47 : (I40 218 2) < nn → (I40 218 2) < (I40 218 3) := q47
                have n49 : (wr (i + 1)) = i + 1 := wr_id (show -2147483648 ≤ (i + 1 : Int) ∧ (i + 1 : Int) < 2147483648 from by omega)
                have r50 : 0 ≤ (I40 218 2) ∧ (I40 218 2) ≤ 64 := (by omega)
                have r52 : 0 ≤ (I40 218 3) ∧ (I40 218 3) ≤ 64 := (by omega)
                have r54 : 0 ≤ (I12 220 4) ∧ (I12 220 4) ≤ 32 := (by omega)
                have u55 : (I40 220 4) = (I12 220 4) := hW43 _ _ (by first | decide | omega)
                have a57 : -2147483648 ≤ (I40 220 4) ∧ (I40 220 4) < 2147483648 := hA42.1 _ _
                have r58 : 0 ≤ (I40 220 4) ∧ (I40 220 4) ≤ 32 := (by omega)
                have r59 : 0 ≤ (I12 220 3) ∧ (I12 220 3) ≤ 32 := (by omega)
                have u60 : (I40 220 3) = (I12 220 3) := hW43 _ _ (by first | decide | omega)
                have a62 : -2147483648 ≤ (I40 220 3) ∧ (I40 220 3) < 2147483648 := hA42.1 _ _
                have r63 : 0 ≤ (I40 220 3) ∧ (I40 220 3) ≤ 32 := (by omega)
                exact ih la (wr (i + 1)) I40 hR41 (fun ka ja hk => ((hW43 ka ja (by omega))).trans (((hW15 ka ja (by omega))).trans ((hV ka ja (by omega))))) (show (0 : Int) ≤ la from by first | with_reducible assumption | omega | (simp only [wr, wl] at *; omega)) (show (la : Int) ≤ 1 from by first | with_reducible assumption | omega | (simp only [wr, wl] at *; omega)) (show (0 : Int) ≤ (wr (i + 1)) from by first | with_reducible assumption | omega | (simp only [wr, wl] at *; omega)) (show ((wr (i + 1)) : Int) ≤ 32 from by first | with_reducible assumption | omega | (simp only [wr, wl] at *; omega)) (show (I40 220 4) = (wr (i + 1)) from by first | omega | (simp only [wr, wl] at *; omega)) (show 4 * (wr (i + 1)) ≤ (I40 218 2) from by first | with_reducible assumption | omega | (simp only [wr, wl] at *; omega)) (show (I40 218 2) ≤ (I40 218 3) from by first | with_reducible assumption | omega | (simp only [wr, wl] at *; omega)) (show (I40 218 3) ≤ nn from by first | with_reducible assumption | omega | (simp only [wr, wl] at *; omega)) (show twP tt nn (Int.toNat (wr (i + 1))) = ((I40 218 2), (I40 218 3), la) from (by
                              have hq := qr26.1 (by omega)
                              rw [show Int.toNat (wr (i + 1)) = Int.toNat i + 1 from by omega, twP_s hc hq.2.2.1, ← (Tok_n qr48).1, ← (Tok_n qr48).2])) (show ∀ k : Nat, (k : Int) < (wr (i + 1)) → okP tt nn k ∧ sepP tt nn k from fun k hk => if e : (k : Int) < i then cc109 k e else (by
                              have hq := qr26.1 (by omega)
                              obtain rfl : k = Int.toNat i := by omega
                              exact ⟨(okP_i hc).2 hq.1, (sepP_i hc hq.2.1 hq.2.2.1).2 ⟨fun _ => w38, fun z => absurd (by omega) z⟩⟩)) (show (I40 220 3) = fsP tt nn (Int.toNat (wr (i + 1))) from (by
                              rw [show Int.toNat (wr (i + 1)) = Int.toNat i + 1 from by omega, fsP_s hc, ← cc110]
                              omega)) (fun k hk => (by
                              have hq := qr26.1 (by omega)
                              have hC := (show J 220 4 = i from (rfl).trans cc104)
                              rw [hC] at hq
                              by_cases e : (k : Int) = i
                              · obtain rfl : k = Int.toNat i := by omega
                                rw [actP_i hc, amP_i hc]
                                exact ⟨(hW43 221 (Int.toNat i) (by omega)).trans (hq.2.2.2.2 _ e).1, (hW43 222 (Int.toNat i) (by omega)).trans (hq.2.2.2.2 _ e).2⟩
                              · have z := cc111 k (by omega)
                                exact ⟨(hW43 221 k (by omega)).trans ((hq.2.2.2.1 k e).1.trans ((rfl).trans z.1)), (hW43 222 k (by omega)).trans ((hq.2.2.2.1 k e).2.trans ((rfl).trans z.2))⟩)) (show 0 ≤ (I40 220 3) ∧ (I40 220 3) ≤ (wr (i + 1)) from by first | omega | (simp only [wr, wl] at *; omega)) (show (32 - (wr (i + 1))).toNat < mz from by omega)
              ·
                refine ⟨fun c => absurd (show ((0 : Int) = 0) from by decide) c, fun _ => ?_⟩
                refine ⟨_, rfl, (by decide), ?_⟩
                exact ⟨rfl, hQ _ _ hR13 (fun ka ja hk => ((hW15 ka ja (by omega))).trans ((hV ka ja (by omega)))) (show -1 ≤ (I12 218 2) ∧ (I12 218 2) ≤ 64 from by first | omega | (simp only [wr, wl] at *; omega)) ((by
                              have hq := qr26.1 (by omega)
                              have ea := (eA_i hc).trans hq.2.1.symm
                              exact ⟨Int.toNat i, ⟨fun k hk => cc109 k (by omega), Or.inr ⟨(okP_i hc).2 hq.1, fun z => w38 (((sepP_i hc hq.2.1 hq.2.2.1).1 z).1 (by omega)), (show (I12 218 2) = _ from by rw [if_neg (by rw [ea]; omega), ea])⟩⟩, fun z => absurd (show (I12 218 2) = -1 from z) (by omega)⟩))⟩
            ·
              refine ⟨⟨_, rfl, (by decide)⟩, ?_⟩
              have r64 : 0 ≤ (I12 218 3) ∧ (I12 218 3) ≤ 64 := (by omega)
              refine c_mk9_7 hF hR13 hx (((hW15 218 1 (by first | decide | omega)).trans (hV 218 1 (by first | decide | omega))).trans hl) (TXT_f ht (fun j => (hW15 5 j (by omega)).trans (hV 5 j (by omega)))) (show 0 ≤ (I12 218 2) ∧ (I12 218 2) ≤ (I12 218 3) ∧ (I12 218 3) ≤ nn from by first | omega | (simp only [wr, wl] at *; omega)) (fun (w66 : mkW7 tt (I12 218 2) (I12 218 3)) l67 => ?_) (fun (w66 : ¬ mkW7 tt (I12 218 2) (I12 218 3)) => ?_)
              ·
                have l67 : (I12 218 3) - (I12 218 2) = 1 := l67
                refine ⟨fun _ => ?_, fun c => absurd c (show (¬ (1 : Int) = 0) from by decide)⟩
                refine ⟨⟨_, rfl, (by decide)⟩, ?_⟩
                refine c_next9  hF hR13 hx (((hW15 218 1 (by first | decide | omega)).trans (hV 218 1 (by first | decide | omega))).trans hl) (TXT_f ht (fun j => (hW15 5 j (by omega)).trans (hV 5 j (by omega)))) (show 0 ≤ (I12 218 3) ∧ (I12 218 3) ≤ nn from by first | omega | (simp only [wr, wl] at *; omega)) (fun I68 hR69 hA70 hW71 q72 q73 q74 q75 qr76 => ?_)
                have q72 : (I12 218 3) ≤ (I68 218 2) := q72
                have q73 : (I68 218 2) ≤ (I68 218 3) := q73
                have q74 : (I68 218 3) ≤ nn := q74
                have q75 : (I68 218 2) < nn → (I68 218 2) < (I68 218 3) := q75
                have n77 : (wr (i + 1)) = i + 1 := wr_id (show -2147483648 ≤ (i + 1 : Int) ∧ (i + 1 : Int) < 2147483648 from by omega)
                have r78 : 0 ≤ (I68 218 2) ∧ (I68 218 2) ≤ 64 := (by omega)
                have r80 : 0 ≤ (I68 218 3) ∧ (I68 218 3) ≤ 64 := (by omega)
                have r82 : 0 ≤ (I12 220 4) ∧ (I12 220 4) ≤ 32 := (by omega)
                have u83 : (I68 220 4) = (I12 220 4) := hW71 _ _ (by first | decide | omega)
                have a85 : -2147483648 ≤ (I68 220 4) ∧ (I68 220 4) < 2147483648 := hA70.1 _ _
                have r86 : 0 ≤ (I68 220 4) ∧ (I68 220 4) ≤ 32 := (by omega)
                have r87 : 0 ≤ (I12 220 3) ∧ (I12 220 3) ≤ 32 := (by omega)
                have u88 : (I68 220 3) = (I12 220 3) := hW71 _ _ (by first | decide | omega)
                have a90 : -2147483648 ≤ (I68 220 3) ∧ (I68 220 3) < 2147483648 := hA70.1 _ _
                have r91 : 0 ≤ (I68 220 3) ∧ (I68 220 3) ≤ 32 := (by omega)
                exact ih la (wr (i + 1)) I68 hR69 (fun ka ja hk => ((hW71 ka ja (by omega))).trans (((hW15 ka ja (by omega))).trans ((hV ka ja (by omega))))) (show (0 : Int) ≤ la from by first | with_reducible assumption | omega | (simp only [wr, wl] at *; omega)) (show (la : Int) ≤ 1 from by first | with_reducible assumption | omega | (simp only [wr, wl] at *; omega)) (show (0 : Int) ≤ (wr (i + 1)) from by first | with_reducible assumption | omega | (simp only [wr, wl] at *; omega)) (show ((wr (i + 1)) : Int) ≤ 32 from by first | with_reducible assumption | omega | (simp only [wr, wl] at *; omega)) (show (I68 220 4) = (wr (i + 1)) from by first | omega | (simp only [wr, wl] at *; omega)) (show 4 * (wr (i + 1)) ≤ (I68 218 2) from by first | with_reducible assumption | omega | (simp only [wr, wl] at *; omega)) (show (I68 218 2) ≤ (I68 218 3) from by first | with_reducible assumption | omega | (simp only [wr, wl] at *; omega)) (show (I68 218 3) ≤ nn from by first | with_reducible assumption | omega | (simp only [wr, wl] at *; omega)) (show twP tt nn (Int.toNat (wr (i + 1))) = ((I68 218 2), (I68 218 3), la) from (by
                              have hq := qr26.1 (by omega)
                              rw [show Int.toNat (wr (i + 1)) = Int.toNat i + 1 from by omega, twP_s hc hq.2.2.1, ← (Tok_n qr76).1, ← (Tok_n qr76).2])) (show ∀ k : Nat, (k : Int) < (wr (i + 1)) → okP tt nn k ∧ sepP tt nn k from fun k hk => if e : (k : Int) < i then cc109 k e else (by
                              have hq := qr26.1 (by omega)
                              obtain rfl : k = Int.toNat i := by omega
                              exact ⟨(okP_i hc).2 hq.1, (sepP_i hc hq.2.1 hq.2.2.1).2 ⟨fun z => absurd z (by omega), fun _ => w66⟩⟩)) (show (I68 220 3) = fsP tt nn (Int.toNat (wr (i + 1))) from (by
                              rw [show Int.toNat (wr (i + 1)) = Int.toNat i + 1 from by omega, fsP_s hc, ← cc110]
                              omega)) (fun k hk => (by
                              have hq := qr26.1 (by omega)
                              have hC := (show J 220 4 = i from (rfl).trans cc104)
                              rw [hC] at hq
                              by_cases e : (k : Int) = i
                              · obtain rfl : k = Int.toNat i := by omega
                                rw [actP_i hc, amP_i hc]
                                exact ⟨(hW71 221 (Int.toNat i) (by omega)).trans (hq.2.2.2.2 _ e).1, (hW71 222 (Int.toNat i) (by omega)).trans (hq.2.2.2.2 _ e).2⟩
                              · have z := cc111 k (by omega)
                                exact ⟨(hW71 221 k (by omega)).trans ((hq.2.2.2.1 k e).1.trans ((rfl).trans z.1)), (hW71 222 k (by omega)).trans ((hq.2.2.2.1 k e).2.trans ((rfl).trans z.2))⟩)) (show 0 ≤ (I68 220 3) ∧ (I68 220 3) ≤ (wr (i + 1)) from by first | omega | (simp only [wr, wl] at *; omega)) (show (32 - (wr (i + 1))).toNat < mz from by omega)
              ·
                refine ⟨fun c => absurd (show ((0 : Int) = 0) from by decide) c, fun _ => ?_⟩
                refine ⟨_, rfl, (by decide), ?_⟩
                exact ⟨rfl, hQ _ _ hR13 (fun ka ja hk => ((hW15 ka ja (by omega))).trans ((hV ka ja (by omega)))) (show -1 ≤ (I12 218 2) ∧ (I12 218 2) ≤ 64 from by first | omega | (simp only [wr, wl] at *; omega)) ((by
                              have hq := qr26.1 (by omega)
                              have ea := (eA_i hc).trans hq.2.1.symm
                              exact ⟨Int.toNat i, ⟨fun k hk => cc109 k (by omega), Or.inr ⟨(okP_i hc).2 hq.1, fun z => w66 (((sepP_i hc hq.2.1 hq.2.2.1).1 z).2 (by omega)), (show (I12 218 2) = _ from by rw [if_neg (by rw [ea]; omega), ea])⟩⟩, fun z => absurd (show (I12 218 2) = -1 from z) (by omega)⟩))⟩
          ·
            exact ⟨rfl, hQ _ _ hR13 (fun ka ja hk => ((hW15 ka ja (by omega))).trans ((hV ka ja (by omega)))) (show -1 ≤ (-1) ∧ (-1) ≤ 64 from by first | omega | (simp only [wr, wl] at *; omega)) ((by
                              have hq := qr26.1 (by omega)
                              have hC := (show J 220 4 = i from (rfl).trans cc104)
                              rw [hC] at hq
                              have ea := (eA_i hc).trans hq.2.1.symm
                              have ns : ¬ sepP tt nn (Int.toNat i) := fun z => by
                                have y := (sepP_i hc hq.2.1 hq.2.2.1).1 z
                                by_cases w0 : (la : Int) = 0
                                · have := mk_len.1 (y.1 w0); omega
                                · have := mk_len.2 (y.2 w0); omega
                              refine ⟨Int.toNat i, ⟨fun k hk => cc109 k (by omega), Or.inr ⟨(okP_i hc).2 hq.1, ns, by rw [if_pos (by rw [ea]; omega)]⟩⟩, fun _ => ⟨by omega, by omega, ?_, fun k hk => ?_⟩⟩
                              · rw [fsP_s hc, ← cc110]; omega
                              · by_cases e : (k : Int) = i
                                · obtain rfl : k = Int.toNat i := by omega
                                  rw [actP_i hc, amP_i hc]
                                  exact ⟨(hq.2.2.2.2 _ e).1, (hq.2.2.2.2 _ e).2⟩
                                · have z := cc111 k (by omega)
                                  exact ⟨(hq.2.2.2.1 k e).1.trans ((rfl).trans z.1), (hq.2.2.2.1 k e).2.trans ((rfl).trans z.2)⟩))⟩
        ·
          refine ⟨_, rfl, (by decide), ?_⟩
          have r92 : 0 ≤ (I12 218 2) ∧ (I12 218 2) ≤ 64 := (by omega)
          exact ⟨rfl, hQ _ _ hR13 (fun ka ja hk => ((hW15 ka ja (by omega))).trans ((hV ka ja (by omega)))) (show -1 ≤ (I12 218 2) ∧ (I12 218 2) ≤ 64 from by first | omega | (simp only [wr, wl] at *; omega)) ((by
                              have hq := qr26.2 (by omega)
                              exact ⟨Int.toNat i, ⟨fun k hk => cc109 k (by omega), Or.inl ⟨fun z => hq.1 ((okP_i hc).1 z), (show 0 ≤ (I12 218 2) from by omega), (rfl).trans (hq.2.1.trans (flP_i hc).symm)⟩⟩, fun z => absurd (show (I12 218 2) = -1 from z) (by omega)⟩))⟩
      ·
        refine ⟨fun (c94 : (¬ (la : Int) = 0)) => ?_, fun (c94 : ((la : Int) = 0)) => ?_⟩
        ·
          refine ⟨⟨_, rfl, (by decide)⟩, ?_⟩
          have hc : cP tt nn (Int.toNat i) = ((J 218 2), (J 218 3), la) := cP_n cc108 (by omega)
          refine c_readPart9 (v0 := la) hF hJ hx ((hV 218 1 (by first | decide | omega)).trans hl) (TXT_f ht (fun j => hV 5 j (by omega))) (show 0 ≤ (J 218 2) ∧ (J 218 2) ≤ (J 218 3) ∧ (J 218 3) ≤ nn from by first | omega | (simp only [wr, wl] at *; omega)) (show 0 ≤ (J 220 4) ∧ (J 220 4) ≤ 31 from by first | omega | (simp only [wr, wl] at *; omega)) (show 0 ≤ la ∧ la ≤ 1 from by first | omega | (simp only [wr, wl] at *; omega)) (show 0 ≤ (J 220 3) ∧ (J 220 3) ≤ 31 from by first | omega | (simp only [wr, wl] at *; omega)) (fun vr95 I96 hR97 hA98 hr100 hW99 q101 q102 q103 q104 q105 q106 q107 q108 q109 qr110 => ?_)
          have hr100 : -2147483648 ≤ vr95 ∧ vr95 < 2147483648 := hr100
          have q101 : 0 ≤ vr95 ∧ vr95 ≤ 1 := q101
          have q102 : vr95 = 1 → (J 218 2) + 3 ≤ (I96 218 2) := q102
          have q103 : (I96 218 2) ≤ (I96 218 3) := q103
          have q104 : (I96 218 3) ≤ nn := q104
          have q105 : 0 ≤ (I96 218 2) := q105
          have q106 : vr95 = 1 → (I96 220 4) = (J 220 4) + 1 := q106
          have q107 : vr95 = 0 → (I96 220 4) = (J 220 4) := q107
          have q108 : vr95 = 1 → (I96 220 3) = (J 220 3) + (1 - (la : Int)) := q108
          have q109 : vr95 = 0 → (I96 220 3) = (J 220 3) := q109
          refine ⟨fun (c111 : (¬ (vr95 : Int) = 0)) => ?_, fun (c111 : ((vr95 : Int) = 0)) => ?_⟩
          ·
            refine ⟨_, rfl, (by decide), ?_⟩
            have r112 : 0 ≤ (I96 218 2) ∧ (I96 218 2) ≤ 64 := (by omega)
            refine ⟨_, rfl, (by decide), ?_⟩
            have u113 : (J 218 1) = (I 218 1) := hV _ _ (by first | decide | omega)
            have a114 : -2147483648 ≤ (J 218 1) ∧ (J 218 1) < 2147483648 := hA.1 _ _
            have u115 : (I96 218 1) = (J 218 1) := hW99 _ _ (by first | decide | omega)
            have a116 : -2147483648 ≤ (I96 218 1) ∧ (I96 218 1) < 2147483648 := hA98.1 _ _
            refine ⟨fun (c118 : (((I96 218 2) : Int) < (I96 218 1))) => ?_, fun (c118 : (¬ (((I96 218 2) : Int) < (I96 218 1)))) => ?_⟩
            ·
              refine ⟨fun c => absurd c (show (¬ ((la : Int) = 0)) from by first | omega | (simp only [wr, wl] at *; omega)), fun _ => ?_⟩
              refine ⟨⟨_, rfl, (by decide)⟩, ?_⟩
              have r119 : 0 ≤ (I96 218 3) ∧ (I96 218 3) ≤ 64 := (by omega)
              refine c_mk9_7 hF hR97 hx (((hW99 218 1 (by first | decide | omega)).trans (hV 218 1 (by first | decide | omega))).trans hl) (TXT_f ht (fun j => (hW99 5 j (by omega)).trans (hV 5 j (by omega)))) (show 0 ≤ (I96 218 2) ∧ (I96 218 2) ≤ (I96 218 3) ∧ (I96 218 3) ≤ nn from by first | omega | (simp only [wr, wl] at *; omega)) (fun (w121 : mkW7 tt (I96 218 2) (I96 218 3)) l122 => ?_) (fun (w121 : ¬ mkW7 tt (I96 218 2) (I96 218 3)) => ?_)
              ·
                have l122 : (I96 218 3) - (I96 218 2) = 1 := l122
                refine ⟨fun _ => ?_, fun c => absurd c (show (¬ (1 : Int) = 0) from by decide)⟩
                refine ⟨⟨_, rfl, (by decide)⟩, ?_⟩
                refine c_next9  hF hR97 hx (((hW99 218 1 (by first | decide | omega)).trans (hV 218 1 (by first | decide | omega))).trans hl) (TXT_f ht (fun j => (hW99 5 j (by omega)).trans (hV 5 j (by omega)))) (show 0 ≤ (I96 218 3) ∧ (I96 218 3) ≤ nn from by first | omega | (simp only [wr, wl] at *; omega)) (fun I123 hR124 hA125 hW126 q127 q128 q129 q130 qr131 => ?_)
                have q127 : (I96 218 3) ≤ (I123 218 2) := q127
                have q128 : (I123 218 2) ≤ (I123 218 3) := q128
                have q129 : (I123 218 3) ≤ nn := q129
                have q130 : (I123 218 2) < nn → (I123 218 2) < (I123 218 3) := q130
                have n132 : (wr (i + 1)) = i + 1 := wr_id (show -2147483648 ≤ (i + 1 : Int) ∧ (i + 1 : Int) < 2147483648 from by omega)
                have r133 : 0 ≤ (I123 218 2) ∧ (I123 218 2) ≤ 64 := (by omega)
                have r135 : 0 ≤ (I123 218 3) ∧ (I123 218 3) ≤ 64 := (by omega)
                have r137 : 0 ≤ (I96 220 4) ∧ (I96 220 4) ≤ 32 := (by omega)
                have u138 : (I123 220 4) = (I96 220 4) := hW126 _ _ (by first | decide | omega)
                have a140 : -2147483648 ≤ (I123 220 4) ∧ (I123 220 4) < 2147483648 := hA125.1 _ _
                have r141 : 0 ≤ (I123 220 4) ∧ (I123 220 4) ≤ 32 := (by omega)
                have r142 : 0 ≤ (I96 220 3) ∧ (I96 220 3) ≤ 32 := (by omega)
                have u143 : (I123 220 3) = (I96 220 3) := hW126 _ _ (by first | decide | omega)
                have a145 : -2147483648 ≤ (I123 220 3) ∧ (I123 220 3) < 2147483648 := hA125.1 _ _
                have r146 : 0 ≤ (I123 220 3) ∧ (I123 220 3) ≤ 32 := (by omega)
                exact ih la (wr (i + 1)) I123 hR124 (fun ka ja hk => ((hW126 ka ja (by omega))).trans (((hW99 ka ja (by omega))).trans ((hV ka ja (by omega))))) (show (0 : Int) ≤ la from by first | with_reducible assumption | omega | (simp only [wr, wl] at *; omega)) (show (la : Int) ≤ 1 from by first | with_reducible assumption | omega | (simp only [wr, wl] at *; omega)) (show (0 : Int) ≤ (wr (i + 1)) from by first | with_reducible assumption | omega | (simp only [wr, wl] at *; omega)) (show ((wr (i + 1)) : Int) ≤ 32 from by first | with_reducible assumption | omega | (simp only [wr, wl] at *; omega)) (show (I123 220 4) = (wr (i + 1)) from by first | omega | (simp only [wr, wl] at *; omega)) (show 4 * (wr (i + 1)) ≤ (I123 218 2) from by first | with_reducible assumption | omega | (simp only [wr, wl] at *; omega)) (show (I123 218 2) ≤ (I123 218 3) from by first | with_reducible assumption | omega | (simp only [wr, wl] at *; omega)) (show (I123 218 3) ≤ nn from by first | with_reducible assumption | omega | (simp only [wr, wl] at *; omega)) (show twP tt nn (Int.toNat (wr (i + 1))) = ((I123 218 2), (I123 218 3), la) from (by
                              have hq := qr110.1 (by omega)
                              rw [show Int.toNat (wr (i + 1)) = Int.toNat i + 1 from by omega, twP_s hc hq.2.2.1, ← (Tok_n qr131).1, ← (Tok_n qr131).2])) (show ∀ k : Nat, (k : Int) < (wr (i + 1)) → okP tt nn k ∧ sepP tt nn k from fun k hk => if e : (k : Int) < i then cc109 k e else (by
                              have hq := qr110.1 (by omega)
                              obtain rfl : k = Int.toNat i := by omega
                              exact ⟨(okP_i hc).2 hq.1, (sepP_i hc hq.2.1 hq.2.2.1).2 ⟨fun z => absurd z (by omega), fun _ => w121⟩⟩)) (show (I123 220 3) = fsP tt nn (Int.toNat (wr (i + 1))) from (by
                              rw [show Int.toNat (wr (i + 1)) = Int.toNat i + 1 from by omega, fsP_s hc, ← cc110]
                              omega)) (fun k hk => (by
                              have hq := qr110.1 (by omega)
                              have hC := (show J 220 4 = i from (rfl).trans cc104)
                              rw [hC] at hq
                              by_cases e : (k : Int) = i
                              · obtain rfl : k = Int.toNat i := by omega
                                rw [actP_i hc, amP_i hc]
                                exact ⟨(hW126 221 (Int.toNat i) (by omega)).trans (hq.2.2.2.2 _ e).1, (hW126 222 (Int.toNat i) (by omega)).trans (hq.2.2.2.2 _ e).2⟩
                              · have z := cc111 k (by omega)
                                exact ⟨(hW126 221 k (by omega)).trans ((hq.2.2.2.1 k e).1.trans ((rfl).trans z.1)), (hW126 222 k (by omega)).trans ((hq.2.2.2.1 k e).2.trans ((rfl).trans z.2))⟩)) (show 0 ≤ (I123 220 3) ∧ (I123 220 3) ≤ (wr (i + 1)) from by first | omega | (simp only [wr, wl] at *; omega)) (show (32 - (wr (i + 1))).toNat < mz from by omega)
              ·
                refine ⟨fun c => absurd (show ((0 : Int) = 0) from by decide) c, fun _ => ?_⟩
                refine ⟨_, rfl, (by decide), ?_⟩
                exact ⟨rfl, hQ _ _ hR97 (fun ka ja hk => ((hW99 ka ja (by omega))).trans ((hV ka ja (by omega)))) (show -1 ≤ (I96 218 2) ∧ (I96 218 2) ≤ 64 from by first | omega | (simp only [wr, wl] at *; omega)) ((by
                              have hq := qr110.1 (by omega)
                              have ea := (eA_i hc).trans hq.2.1.symm
                              exact ⟨Int.toNat i, ⟨fun k hk => cc109 k (by omega), Or.inr ⟨(okP_i hc).2 hq.1, fun z => w121 (((sepP_i hc hq.2.1 hq.2.2.1).1 z).2 (by omega)), (show (I96 218 2) = _ from by rw [if_neg (by rw [ea]; omega), ea])⟩⟩, fun z => absurd (show (I96 218 2) = -1 from z) (by omega)⟩))⟩
            ·
              exact ⟨rfl, hQ _ _ hR97 (fun ka ja hk => ((hW99 ka ja (by omega))).trans ((hV ka ja (by omega)))) (show -1 ≤ (-1) ∧ (-1) ≤ 64 from by first | omega | (simp only [wr, wl] at *; omega)) ((by
                              have hq := qr110.1 (by omega)
                              have hC := (show J 220 4 = i from (rfl).trans cc104)
                              rw [hC] at hq
                              have ea := (eA_i hc).trans hq.2.1.symm
                              have ns : ¬ sepP tt nn (Int.toNat i) := fun z => by
                                have y := (sepP_i hc hq.2.1 hq.2.2.1).1 z
                                by_cases w0 : (la : Int) = 0
                                · have := mk_len.1 (y.1 w0); omega
                                · have := mk_len.2 (y.2 w0); omega
                              refine ⟨Int.toNat i, ⟨fun k hk => cc109 k (by omega), Or.inr ⟨(okP_i hc).2 hq.1, ns, by rw [if_pos (by rw [ea]; omega)]⟩⟩, fun _ => ⟨by omega, by omega, ?_, fun k hk => ?_⟩⟩
                              · rw [fsP_s hc, ← cc110]; omega
                              · by_cases e : (k : Int) = i
                                · obtain rfl : k = Int.toNat i := by omega
                                  rw [actP_i hc, amP_i hc]
                                  exact ⟨(hq.2.2.2.2 _ e).1, (hq.2.2.2.2 _ e).2⟩
                                · have z := cc111 k (by omega)
                                  exact ⟨(hq.2.2.2.1 k e).1.trans ((rfl).trans z.1), (hq.2.2.2.1 k e).2.trans ((rfl).trans z.2)⟩))⟩
          ·
            refine ⟨_, rfl, (by decide), ?_⟩
            have r147 : 0 ≤ (I96 218 2) ∧ (I96 218 2) ≤ 64 := (by omega)
            exact ⟨rfl, hQ _ _ hR97 (fun ka ja hk => ((hW99 ka ja (by omega))).trans ((hV ka ja (by omega)))) (show -1 ≤ (I96 218 2) ∧ (I96 218 2) ≤ 64 from by first | omega | (simp only [wr, wl] at *; omega)) ((by
                              have hq := qr110.2 (by omega)
                              exact ⟨Int.toNat i, ⟨fun k hk => cc109 k (by omega), Or.inl ⟨fun z => hq.1 ((okP_i hc).1 z), (show 0 ≤ (I96 218 2) from by omega), (rfl).trans (hq.2.1.trans (flP_i hc).symm)⟩⟩, fun z => absurd (show (I96 218 2) = -1 from z) (by omega)⟩))⟩
        ·
          refine ⟨⟨_, rfl, (by decide)⟩, ?_⟩
          refine c_mk9_0 hF hJ hx ((hV 218 1 (by first | decide | omega)).trans hl) (TXT_f ht (fun j => hV 5 j (by omega))) (show 0 ≤ (J 218 2) ∧ (J 218 2) ≤ (J 218 3) ∧ (J 218 3) ≤ nn from by first | omega | (simp only [wr, wl] at *; omega)) (fun (w149 : mkW0 tt (J 218 2) (J 218 3)) l150 => ?_) (fun (w149 : ¬ mkW0 tt (J 218 2) (J 218 3)) => ?_)
          ·
            have l150 : (J 218 3) - (J 218 2) = 4 := l150
            refine ⟨fun c => absurd c (show (¬ ((1 : Int) = 0)) from by decide), fun _ => ?_⟩
            refine ⟨⟨_, rfl, (by decide)⟩, ?_⟩
            refine c_next9  hF hJ hx ((hV 218 1 (by first | decide | omega)).trans hl) (TXT_f ht (fun j => hV 5 j (by omega))) (show 0 ≤ (J 218 3) ∧ (J 218 3) ≤ nn from by first | omega | (simp only [wr, wl] at *; omega)) (fun I151 hR152 hA153 hW154 q155 q156 q157 q158 qr159 => ?_)
            have q155 : (J 218 3) ≤ (I151 218 2) := q155
            have q156 : (I151 218 2) ≤ (I151 218 3) := q156
            have q157 : (I151 218 3) ≤ nn := q157
            have q158 : (I151 218 2) < nn → (I151 218 2) < (I151 218 3) := q158
            refine ⟨⟨_, rfl, (by decide)⟩, ?_⟩
            have r160 : 0 ≤ (I151 218 2) ∧ (I151 218 2) ≤ 64 := (by omega)
            have r161 : 0 ≤ (I151 218 3) ∧ (I151 218 3) ≤ 64 := (by omega)
            have hc : cP tt nn (Int.toNat i) = ((I151 218 2), (I151 218 3), 1) := (cP_y cc108 (by omega) (by omega) w149).trans (by rw [← (Tok_n qr159).1, ← (Tok_n qr159).2])
            have u164 : (I151 220 4) = (J 220 4) := hW154 _ _ (by first | decide | omega)
            have a165 : -2147483648 ≤ (I151 220 4) ∧ (I151 220 4) < 2147483648 := hA153.1 _ _
            have r166 : 0 ≤ (I151 220 4) ∧ (I151 220 4) ≤ 32 := (by omega)
            have u167 : (I151 220 3) = (J 220 3) := hW154 _ _ (by first | decide | omega)
            have a168 : -2147483648 ≤ (I151 220 3) ∧ (I151 220 3) < 2147483648 := hA153.1 _ _
            have r169 : 0 ≤ (I151 220 3) ∧ (I151 220 3) ≤ 32 := (by omega)
            refine c_readPart9 (v0 := 1) hF hR152 hx (((hW154 218 1 (by first | decide | omega)).trans (hV 218 1 (by first | decide | omega))).trans hl) (TXT_f ht (fun j => (hW154 5 j (by omega)).trans (hV 5 j (by omega)))) (show 0 ≤ (I151 218 2) ∧ (I151 218 2) ≤ (I151 218 3) ∧ (I151 218 3) ≤ nn from by first | omega | (simp only [wr, wl] at *; omega)) (show 0 ≤ (I151 220 4) ∧ (I151 220 4) ≤ 31 from by first | omega | (simp only [wr, wl] at *; omega)) (show 0 ≤ 1 ∧ 1 ≤ 1 from by decide) (show 0 ≤ (I151 220 3) ∧ (I151 220 3) ≤ 31 from by first | omega | (simp only [wr, wl] at *; omega)) (fun vr170 I171 hR172 hA173 hr175 hW174 q176 q177 q178 q179 q180 q181 q182 q183 q184 qr185 => ?_)
            have hr175 : -2147483648 ≤ vr170 ∧ vr170 < 2147483648 := hr175
            have q176 : 0 ≤ vr170 ∧ vr170 ≤ 1 := q176
            have q177 : vr170 = 1 → (I151 218 2) + 3 ≤ (I171 218 2) := q177
            have q178 : (I171 218 2) ≤ (I171 218 3) := q178
            have q179 : (I171 218 3) ≤ nn := q179
            have q180 : 0 ≤ (I171 218 2) := q180
            have q181 : vr170 = 1 → (I171 220 4) = (I151 220 4) + 1 := q181
            have q182 : vr170 = 0 → (I171 220 4) = (I151 220 4) := q182
            have q183 : vr170 = 1 → (I171 220 3) = (I151 220 3) + (1 - (1 : Int)) := q183
            have q184 : vr170 = 0 → (I171 220 3) = (I151 220 3) := q184
            refine ⟨fun (c186 : (¬ (vr170 : Int) = 0)) => ?_, fun (c186 : ((vr170 : Int) = 0)) => ?_⟩
            ·
              refine ⟨_, rfl, (by decide), ?_⟩
              have r187 : 0 ≤ (I171 218 2) ∧ (I171 218 2) ≤ 64 := (by omega)
              refine ⟨_, rfl, (by decide), ?_⟩
              have u188 : (J 218 1) = (I 218 1) := hV _ _ (by first | decide | omega)
              have a189 : -2147483648 ≤ (J 218 1) ∧ (J 218 1) < 2147483648 := hA.1 _ _
              have u190 : (I151 218 1) = (J 218 1) := hW154 _ _ (by first | decide | omega)
              have a191 : -2147483648 ≤ (I151 218 1) ∧ (I151 218 1) < 2147483648 := hA153.1 _ _
              have u192 : (I171 218 1) = (I151 218 1) := hW174 _ _ (by first | decide | omega)
              have a193 : -2147483648 ≤ (I171 218 1) ∧ (I171 218 1) < 2147483648 := hA173.1 _ _
              refine ⟨fun (c195 : (((I171 218 2) : Int) < (I171 218 1))) => ?_, fun (c195 : (¬ (((I171 218 2) : Int) < (I171 218 1)))) => ?_⟩
              ·
                refine ⟨fun c => absurd c (show (¬ ((1 : Int) = 0)) from by decide), fun _ => ?_⟩
                refine ⟨⟨_, rfl, (by decide)⟩, ?_⟩
                have r196 : 0 ≤ (I171 218 3) ∧ (I171 218 3) ≤ 64 := (by omega)
                refine c_mk9_7 hF hR172 hx (((hW174 218 1 (by first | decide | omega)).trans ((hW154 218 1 (by first | decide | omega)).trans (hV 218 1 (by first | decide | omega)))).trans hl) (TXT_f ht (fun j => (hW174 5 j (by omega)).trans ((hW154 5 j (by omega)).trans (hV 5 j (by omega))))) (show 0 ≤ (I171 218 2) ∧ (I171 218 2) ≤ (I171 218 3) ∧ (I171 218 3) ≤ nn from by first | omega | (simp only [wr, wl] at *; omega)) (fun (w198 : mkW7 tt (I171 218 2) (I171 218 3)) l199 => ?_) (fun (w198 : ¬ mkW7 tt (I171 218 2) (I171 218 3)) => ?_)
                ·
                  have l199 : (I171 218 3) - (I171 218 2) = 1 := l199
                  refine ⟨fun _ => ?_, fun c => absurd c (show (¬ (1 : Int) = 0) from by decide)⟩
                  refine ⟨⟨_, rfl, (by decide)⟩, ?_⟩
                  refine c_next9  hF hR172 hx (((hW174 218 1 (by first | decide | omega)).trans ((hW154 218 1 (by first | decide | omega)).trans (hV 218 1 (by first | decide | omega)))).trans hl) (TXT_f ht (fun j => (hW174 5 j (by omega)).trans ((hW154 5 j (by omega)).trans (hV 5 j (by omega))))) (show 0 ≤ (I171 218 3) ∧ (I171 218 3) ≤ nn from by first | omega | (simp only [wr, wl] at *; omega)) (fun I200 hR201 hA202 hW203 q204 q205 q206 q207 qr208 => ?_)
                  have q204 : (I171 218 3) ≤ (I200 218 2) := q204
                  have q205 : (I200 218 2) ≤ (I200 218 3) := q205
                  have q206 : (I200 218 3) ≤ nn := q206
                  have q207 : (I200 218 2) < nn → (I200 218 2) < (I200 218 3) := q207
                  have n209 : (wr (i + 1)) = i + 1 := wr_id (show -2147483648 ≤ (i + 1 : Int) ∧ (i + 1 : Int) < 2147483648 from by omega)
                  have r210 : 0 ≤ (I200 218 2) ∧ (I200 218 2) ≤ 64 := (by omega)
                  have r212 : 0 ≤ (I200 218 3) ∧ (I200 218 3) ≤ 64 := (by omega)
                  have r214 : 0 ≤ (I171 220 4) ∧ (I171 220 4) ≤ 32 := (by omega)
                  have u215 : (I200 220 4) = (I171 220 4) := hW203 _ _ (by first | decide | omega)
                  have a217 : -2147483648 ≤ (I200 220 4) ∧ (I200 220 4) < 2147483648 := hA202.1 _ _
                  have r218 : 0 ≤ (I200 220 4) ∧ (I200 220 4) ≤ 32 := (by omega)
                  have r219 : 0 ≤ (I171 220 3) ∧ (I171 220 3) ≤ 32 := (by omega)
                  have u220 : (I200 220 3) = (I171 220 3) := hW203 _ _ (by first | decide | omega)
                  have a222 : -2147483648 ≤ (I200 220 3) ∧ (I200 220 3) < 2147483648 := hA202.1 _ _
                  have r223 : 0 ≤ (I200 220 3) ∧ (I200 220 3) ≤ 32 := (by omega)
                  exact ih 1 (wr (i + 1)) I200 hR201 (fun ka ja hk => ((hW203 ka ja (by omega))).trans (((hW174 ka ja (by omega))).trans (((hW154 ka ja (by omega))).trans ((hV ka ja (by omega)))))) (show (0 : Int) ≤ (1 : Int) from by first | with_reducible assumption | omega | (simp only [wr, wl] at *; omega)) (show ((1 : Int) : Int) ≤ 1 from by first | with_reducible assumption | omega | (simp only [wr, wl] at *; omega)) (show (0 : Int) ≤ (wr (i + 1)) from by first | with_reducible assumption | omega | (simp only [wr, wl] at *; omega)) (show ((wr (i + 1)) : Int) ≤ 32 from by first | with_reducible assumption | omega | (simp only [wr, wl] at *; omega)) (show (I200 220 4) = (wr (i + 1)) from by first | omega | (simp only [wr, wl] at *; omega)) (show 4 * (wr (i + 1)) ≤ (I200 218 2) from by first | with_reducible assumption | omega | (simp only [wr, wl] at *; omega)) (show (I200 218 2) ≤ (I200 218 3) from by first | with_reducible assumption | omega | (simp only [wr, wl] at *; omega)) (show (I200 218 3) ≤ nn from by first | with_reducible assumption | omega | (simp only [wr, wl] at *; omega)) (show twP tt nn (Int.toNat (wr (i + 1))) = ((I200 218 2), (I200 218 3), (1 : Int)) from (by
                              have hq := qr185.1 (by omega)
                              rw [show Int.toNat (wr (i + 1)) = Int.toNat i + 1 from by omega, twP_s hc hq.2.2.1, ← (Tok_n qr208).1, ← (Tok_n qr208).2])) (show ∀ k : Nat, (k : Int) < (wr (i + 1)) → okP tt nn k ∧ sepP tt nn k from fun k hk => if e : (k : Int) < i then cc109 k e else (by
                              have hq := qr185.1 (by omega)
                              obtain rfl : k = Int.toNat i := by omega
                              exact ⟨(okP_i hc).2 hq.1, (sepP_i hc hq.2.1 hq.2.2.1).2 ⟨fun z => absurd z (by omega), fun _ => w198⟩⟩)) (show (I200 220 3) = fsP tt nn (Int.toNat (wr (i + 1))) from (by
                              rw [show Int.toNat (wr (i + 1)) = Int.toNat i + 1 from by omega, fsP_s hc, ← cc110]
                              omega)) (fun k hk => (by
                              have hq := qr185.1 (by omega)
                              have hC := (show I151 220 4 = i from (hW154 220 4 (by first | decide | omega)).trans cc104)
                              rw [hC] at hq
                              by_cases e : (k : Int) = i
                              · obtain rfl : k = Int.toNat i := by omega
                                rw [actP_i hc, amP_i hc]
                                exact ⟨(hW203 221 (Int.toNat i) (by omega)).trans (hq.2.2.2.2 _ e).1, (hW203 222 (Int.toNat i) (by omega)).trans (hq.2.2.2.2 _ e).2⟩
                              · have z := cc111 k (by omega)
                                exact ⟨(hW203 221 k (by omega)).trans ((hq.2.2.2.1 k e).1.trans ((hW154 221 k (by omega)).trans z.1)), (hW203 222 k (by omega)).trans ((hq.2.2.2.1 k e).2.trans ((hW154 222 k (by omega)).trans z.2))⟩)) (show 0 ≤ (I200 220 3) ∧ (I200 220 3) ≤ (wr (i + 1)) from by first | omega | (simp only [wr, wl] at *; omega)) (show (32 - (wr (i + 1))).toNat < mz from by omega)
                ·
                  refine ⟨fun c => absurd (show ((0 : Int) = 0) from by decide) c, fun _ => ?_⟩
                  refine ⟨_, rfl, (by decide), ?_⟩
                  exact ⟨rfl, hQ _ _ hR172 (fun ka ja hk => ((hW174 ka ja (by omega))).trans (((hW154 ka ja (by omega))).trans ((hV ka ja (by omega))))) (show -1 ≤ (I171 218 2) ∧ (I171 218 2) ≤ 64 from by first | omega | (simp only [wr, wl] at *; omega)) ((by
                              have hq := qr185.1 (by omega)
                              have ea := (eA_i hc).trans hq.2.1.symm
                              exact ⟨Int.toNat i, ⟨fun k hk => cc109 k (by omega), Or.inr ⟨(okP_i hc).2 hq.1, fun z => w198 (((sepP_i hc hq.2.1 hq.2.2.1).1 z).2 (by omega)), (show (I171 218 2) = _ from by rw [if_neg (by rw [ea]; omega), ea])⟩⟩, fun z => absurd (show (I171 218 2) = -1 from z) (by omega)⟩))⟩
              ·
                exact ⟨rfl, hQ _ _ hR172 (fun ka ja hk => ((hW174 ka ja (by omega))).trans (((hW154 ka ja (by omega))).trans ((hV ka ja (by omega))))) (show -1 ≤ (-1) ∧ (-1) ≤ 64 from by first | omega | (simp only [wr, wl] at *; omega)) ((by
                              have hq := qr185.1 (by omega)
                              have hC := (show I151 220 4 = i from (hW154 220 4 (by first | decide | omega)).trans cc104)
                              rw [hC] at hq
                              have ea := (eA_i hc).trans hq.2.1.symm
                              have ns : ¬ sepP tt nn (Int.toNat i) := fun z => by
                                have y := (sepP_i hc hq.2.1 hq.2.2.1).1 z
                                by_cases w0 : (1 : Int) = 0
                                · have := mk_len.1 (y.1 w0); omega
                                · have := mk_len.2 (y.2 w0); omega
                              refine ⟨Int.toNat i, ⟨fun k hk => cc109 k (by omega), Or.inr ⟨(okP_i hc).2 hq.1, ns, by rw [if_pos (by rw [ea]; omega)]⟩⟩, fun _ => ⟨by omega, by omega, ?_, fun k hk => ?_⟩⟩
                              · rw [fsP_s hc, ← cc110]; omega
                              · by_cases e : (k : Int) = i
                                · obtain rfl : k = Int.toNat i := by omega
                                  rw [actP_i hc, amP_i hc]
                                  exact ⟨(hq.2.2.2.2 _ e).1, (hq.2.2.2.2 _ e).2⟩
                                · have z := cc111 k (by omega)
                                  exact ⟨(hq.2.2.2.1 k e).1.trans ((hW154 221 k (by omega)).trans z.1), (hq.2.2.2.1 k e).2.trans ((hW154 222 k (by omega)).trans z.2)⟩))⟩
            ·
              refine ⟨_, rfl, (by decide), ?_⟩
              have r224 : 0 ≤ (I171 218 2) ∧ (I171 218 2) ≤ 64 := (by omega)
              exact ⟨rfl, hQ _ _ hR172 (fun ka ja hk => ((hW174 ka ja (by omega))).trans (((hW154 ka ja (by omega))).trans ((hV ka ja (by omega))))) (show -1 ≤ (I171 218 2) ∧ (I171 218 2) ≤ 64 from by first | omega | (simp only [wr, wl] at *; omega)) ((by
                              have hq := qr185.2 (by omega)
                              exact ⟨Int.toNat i, ⟨fun k hk => cc109 k (by omega), Or.inl ⟨fun z => hq.1 ((okP_i hc).1 z), (show 0 ≤ (I171 218 2) from by omega), (rfl).trans (hq.2.1.trans (flP_i hc).symm)⟩⟩, fun z => absurd (show (I171 218 2) = -1 from z) (by omega)⟩))⟩
          ·
            refine ⟨fun _ => ?_, fun c => absurd (show ((0 : Int) = 0) from by decide) c⟩
            refine ⟨⟨_, rfl, (by decide)⟩, ?_⟩
            have hc : cP tt nn (Int.toNat i) = ((J 218 2), (J 218 3), la) := cP_n cc108 (fun e => w149 e.2.2)
            refine c_readPart9 (v0 := la) hF hJ hx ((hV 218 1 (by first | decide | omega)).trans hl) (TXT_f ht (fun j => hV 5 j (by omega))) (show 0 ≤ (J 218 2) ∧ (J 218 2) ≤ (J 218 3) ∧ (J 218 3) ≤ nn from by first | omega | (simp only [wr, wl] at *; omega)) (show 0 ≤ (J 220 4) ∧ (J 220 4) ≤ 31 from by first | omega | (simp only [wr, wl] at *; omega)) (show 0 ≤ la ∧ la ≤ 1 from by first | omega | (simp only [wr, wl] at *; omega)) (show 0 ≤ (J 220 3) ∧ (J 220 3) ≤ 31 from by first | omega | (simp only [wr, wl] at *; omega)) (fun vr226 I227 hR228 hA229 hr231 hW230 q232 q233 q234 q235 q236 q237 q238 q239 q240 qr241 => ?_)
            have hr231 : -2147483648 ≤ vr226 ∧ vr226 < 2147483648 := hr231
            have q232 : 0 ≤ vr226 ∧ vr226 ≤ 1 := q232
            have q233 : vr226 = 1 → (J 218 2) + 3 ≤ (I227 218 2) := q233
            have q234 : (I227 218 2) ≤ (I227 218 3) := q234
            have q235 : (I227 218 3) ≤ nn := q235
            have q236 : 0 ≤ (I227 218 2) := q236
            have q237 : vr226 = 1 → (I227 220 4) = (J 220 4) + 1 := q237
            have q238 : vr226 = 0 → (I227 220 4) = (J 220 4) := q238
            have q239 : vr226 = 1 → (I227 220 3) = (J 220 3) + (1 - (la : Int)) := q239
            have q240 : vr226 = 0 → (I227 220 3) = (J 220 3) := q240
            refine ⟨fun (c242 : (¬ (vr226 : Int) = 0)) => ?_, fun (c242 : ((vr226 : Int) = 0)) => ?_⟩
            ·
              refine ⟨_, rfl, (by decide), ?_⟩
              have r243 : 0 ≤ (I227 218 2) ∧ (I227 218 2) ≤ 64 := (by omega)
              refine ⟨_, rfl, (by decide), ?_⟩
              have u244 : (J 218 1) = (I 218 1) := hV _ _ (by first | decide | omega)
              have a245 : -2147483648 ≤ (J 218 1) ∧ (J 218 1) < 2147483648 := hA.1 _ _
              have u246 : (I227 218 1) = (J 218 1) := hW230 _ _ (by first | decide | omega)
              have a247 : -2147483648 ≤ (I227 218 1) ∧ (I227 218 1) < 2147483648 := hA229.1 _ _
              refine ⟨fun (c249 : (((I227 218 2) : Int) < (I227 218 1))) => ?_, fun (c249 : (¬ (((I227 218 2) : Int) < (I227 218 1)))) => ?_⟩
              ·
                refine ⟨fun _ => ?_, fun c => absurd (show ((la : Int) = 0) from by first | omega | (simp only [wr, wl] at *; omega)) c⟩
                refine ⟨⟨_, rfl, (by decide)⟩, ?_⟩
                have r250 : 0 ≤ (I227 218 3) ∧ (I227 218 3) ≤ 64 := (by omega)
                refine c_mk9_8 hF hR228 hx (((hW230 218 1 (by first | decide | omega)).trans (hV 218 1 (by first | decide | omega))).trans hl) (TXT_f ht (fun j => (hW230 5 j (by omega)).trans (hV 5 j (by omega)))) (show 0 ≤ (I227 218 2) ∧ (I227 218 2) ≤ (I227 218 3) ∧ (I227 218 3) ≤ nn from by first | omega | (simp only [wr, wl] at *; omega)) (fun (w252 : mkW8 tt (I227 218 2) (I227 218 3)) l253 => ?_) (fun (w252 : ¬ mkW8 tt (I227 218 2) (I227 218 3)) => ?_)
                ·
                  have l253 : (I227 218 3) - (I227 218 2) = 1 := l253
                  refine ⟨fun _ => ?_, fun c => absurd c (show (¬ (1 : Int) = 0) from by decide)⟩
                  refine ⟨⟨_, rfl, (by decide)⟩, ?_⟩
                  refine c_next9  hF hR228 hx (((hW230 218 1 (by first | decide | omega)).trans (hV 218 1 (by first | decide | omega))).trans hl) (TXT_f ht (fun j => (hW230 5 j (by omega)).trans (hV 5 j (by omega)))) (show 0 ≤ (I227 218 3) ∧ (I227 218 3) ≤ nn from by first | omega | (simp only [wr, wl] at *; omega)) (fun I254 hR255 hA256 hW257 q258 q259 q260 q261 qr262 => ?_)
                  have q258 : (I227 218 3) ≤ (I254 218 2) := q258
                  have q259 : (I254 218 2) ≤ (I254 218 3) := q259
                  have q260 : (I254 218 3) ≤ nn := q260
                  have q261 : (I254 218 2) < nn → (I254 218 2) < (I254 218 3) := q261
                  have n263 : (wr (i + 1)) = i + 1 := wr_id (show -2147483648 ≤ (i + 1 : Int) ∧ (i + 1 : Int) < 2147483648 from by omega)
                  have r264 : 0 ≤ (I254 218 2) ∧ (I254 218 2) ≤ 64 := (by omega)
                  have r266 : 0 ≤ (I254 218 3) ∧ (I254 218 3) ≤ 64 := (by omega)
                  have r268 : 0 ≤ (I227 220 4) ∧ (I227 220 4) ≤ 32 := (by omega)
                  have u269 : (I254 220 4) = (I227 220 4) := hW257 _ _ (by first | decide | omega)
                  have a271 : -2147483648 ≤ (I254 220 4) ∧ (I254 220 4) < 2147483648 := hA256.1 _ _
                  have r272 : 0 ≤ (I254 220 4) ∧ (I254 220 4) ≤ 32 := (by omega)
                  have r273 : 0 ≤ (I227 220 3) ∧ (I227 220 3) ≤ 32 := (by omega)
                  have u274 : (I254 220 3) = (I227 220 3) := hW257 _ _ (by first | decide | omega)
                  have a276 : -2147483648 ≤ (I254 220 3) ∧ (I254 220 3) < 2147483648 := hA256.1 _ _
                  have r277 : 0 ≤ (I254 220 3) ∧ (I254 220 3) ≤ 32 := (by omega)
                  exact ih la (wr (i + 1)) I254 hR255 (fun ka ja hk => ((hW257 ka ja (by omega))).trans (((hW230 ka ja (by omega))).trans ((hV ka ja (by omega))))) (show (0 : Int) ≤ la from by first | with_reducible assumption | omega | (simp only [wr, wl] at *; omega)) (show (la : Int) ≤ 1 from by first | with_reducible assumption | omega | (simp only [wr, wl] at *; omega)) (show (0 : Int) ≤ (wr (i + 1)) from by first | with_reducible assumption | omega | (simp only [wr, wl] at *; omega)) (show ((wr (i + 1)) : Int) ≤ 32 from by first | with_reducible assumption | omega | (simp only [wr, wl] at *; omega)) (show (I254 220 4) = (wr (i + 1)) from by first | omega | (simp only [wr, wl] at *; omega)) (show 4 * (wr (i + 1)) ≤ (I254 218 2) from by first | with_reducible assumption | omega | (simp only [wr, wl] at *; omega)) (show (I254 218 2) ≤ (I254 218 3) from by first | with_reducible assumption | omega | (simp only [wr, wl] at *; omega)) (show (I254 218 3) ≤ nn from by first | with_reducible assumption | omega | (simp only [wr, wl] at *; omega)) (show twP tt nn (Int.toNat (wr (i + 1))) = ((I254 218 2), (I254 218 3), la) from (by
                              have hq := qr241.1 (by omega)
                              rw [show Int.toNat (wr (i + 1)) = Int.toNat i + 1 from by omega, twP_s hc hq.2.2.1, ← (Tok_n qr262).1, ← (Tok_n qr262).2])) (show ∀ k : Nat, (k : Int) < (wr (i + 1)) → okP tt nn k ∧ sepP tt nn k from fun k hk => if e : (k : Int) < i then cc109 k e else (by
                              have hq := qr241.1 (by omega)
                              obtain rfl : k = Int.toNat i := by omega
                              exact ⟨(okP_i hc).2 hq.1, (sepP_i hc hq.2.1 hq.2.2.1).2 ⟨fun _ => w252, fun z => absurd (by omega) z⟩⟩)) (show (I254 220 3) = fsP tt nn (Int.toNat (wr (i + 1))) from (by
                              rw [show Int.toNat (wr (i + 1)) = Int.toNat i + 1 from by omega, fsP_s hc, ← cc110]
                              omega)) (fun k hk => (by
                              have hq := qr241.1 (by omega)
                              have hC := (show J 220 4 = i from (rfl).trans cc104)
                              rw [hC] at hq
                              by_cases e : (k : Int) = i
                              · obtain rfl : k = Int.toNat i := by omega
                                rw [actP_i hc, amP_i hc]
                                exact ⟨(hW257 221 (Int.toNat i) (by omega)).trans (hq.2.2.2.2 _ e).1, (hW257 222 (Int.toNat i) (by omega)).trans (hq.2.2.2.2 _ e).2⟩
                              · have z := cc111 k (by omega)
                                exact ⟨(hW257 221 k (by omega)).trans ((hq.2.2.2.1 k e).1.trans ((rfl).trans z.1)), (hW257 222 k (by omega)).trans ((hq.2.2.2.1 k e).2.trans ((rfl).trans z.2))⟩)) (show 0 ≤ (I254 220 3) ∧ (I254 220 3) ≤ (wr (i + 1)) from by first | omega | (simp only [wr, wl] at *; omega)) (show (32 - (wr (i + 1))).toNat < mz from by omega)
                ·
                  refine ⟨fun c => absurd (show ((0 : Int) = 0) from by decide) c, fun _ => ?_⟩
                  refine ⟨_, rfl, (by decide), ?_⟩
                  exact ⟨rfl, hQ _ _ hR228 (fun ka ja hk => ((hW230 ka ja (by omega))).trans ((hV ka ja (by omega)))) (show -1 ≤ (I227 218 2) ∧ (I227 218 2) ≤ 64 from by first | omega | (simp only [wr, wl] at *; omega)) ((by
                              have hq := qr241.1 (by omega)
                              have ea := (eA_i hc).trans hq.2.1.symm
                              exact ⟨Int.toNat i, ⟨fun k hk => cc109 k (by omega), Or.inr ⟨(okP_i hc).2 hq.1, fun z => w252 (((sepP_i hc hq.2.1 hq.2.2.1).1 z).1 (by omega)), (show (I227 218 2) = _ from by rw [if_neg (by rw [ea]; omega), ea])⟩⟩, fun z => absurd (show (I227 218 2) = -1 from z) (by omega)⟩))⟩
              ·
                exact ⟨rfl, hQ _ _ hR228 (fun ka ja hk => ((hW230 ka ja (by omega))).trans ((hV ka ja (by omega)))) (show -1 ≤ (-1) ∧ (-1) ≤ 64 from by first | omega | (simp only [wr, wl] at *; omega)) ((by
                              have hq := qr241.1 (by omega)
                              have hC := (show J 220 4 = i from (rfl).trans cc104)
                              rw [hC] at hq
                              have ea := (eA_i hc).trans hq.2.1.symm
                              have ns : ¬ sepP tt nn (Int.toNat i) := fun z => by
                                have y := (sepP_i hc hq.2.1 hq.2.2.1).1 z
                                by_cases w0 : (la : Int) = 0
                                · have := mk_len.1 (y.1 w0); omega
                                · have := mk_len.2 (y.2 w0); omega
                              refine ⟨Int.toNat i, ⟨fun k hk => cc109 k (by omega), Or.inr ⟨(okP_i hc).2 hq.1, ns, by rw [if_pos (by rw [ea]; omega)]⟩⟩, fun _ => ⟨by omega, by omega, ?_, fun k hk => ?_⟩⟩
                              · rw [fsP_s hc, ← cc110]; omega
                              · by_cases e : (k : Int) = i
                                · obtain rfl : k = Int.toNat i := by omega
                                  rw [actP_i hc, amP_i hc]
                                  exact ⟨(hq.2.2.2.2 _ e).1, (hq.2.2.2.2 _ e).2⟩
                                · have z := cc111 k (by omega)
                                  exact ⟨(hq.2.2.2.1 k e).1.trans ((rfl).trans z.1), (hq.2.2.2.1 k e).2.trans ((rfl).trans z.2)⟩))⟩
            ·
              refine ⟨_, rfl, (by decide), ?_⟩
              have r278 : 0 ≤ (I227 218 2) ∧ (I227 218 2) ≤ 64 := (by omega)
              exact ⟨rfl, hQ _ _ hR228 (fun ka ja hk => ((hW230 ka ja (by omega))).trans ((hV ka ja (by omega)))) (show -1 ≤ (I227 218 2) ∧ (I227 218 2) ≤ 64 from by first | omega | (simp only [wr, wl] at *; omega)) ((by
                              have hq := qr241.2 (by omega)
                              exact ⟨Int.toNat i, ⟨fun k hk => cc109 k (by omega), Or.inl ⟨fun z => hq.1 ((okP_i hc).1 z), (show 0 ≤ (I227 218 2) from by omega), (rfl).trans (hq.2.1.trans (flP_i hc).symm)⟩⟩, fun z => absurd (show (I227 218 2) = -1 from z) (by omega)⟩))⟩
theorem c_fault9 (hF : FS F) (hR : Rg I) {v0 : Int} {tt : Int → Int} {nn : Int} (hv : v0 = nn) (ht : TXT tt nn (I 5)) (hQ : ∀ (r : Int) (I' : pI), Rg I' → AR I' → iR r → (∀ k j, ¬ (k = 218 ∨ (220 ≤ k ∧ k ≤ 222)) → I' k j = I k j) → (-1 ≤ r ∧ r ≤ 64) → (∃ m : Nat, RESP tt nn r m ∧ (r = -1 → m < 17 ∧ I' 220 4 = m + 1 ∧ I' 220 3 = fsP tt nn (m + 1) ∧ ∀ k : Nat, k < m + 1 → I' 221 k = actP tt nn k ∧ I' 222 k = amP tt nn k)) → Q (some (vi r)) (uF F 218 0 (some 5)) I') : CallN G (d + 7) kX9_faultOf [vr 218, vr 5, vi v0, vr 220] NP F I Q := by
  refine CallN_in (fun hok hA => CallN_out ?_)
  have iv0 : -2147483648 ≤ v0 ∧ v0 < 2147483648 := hok (vi v0) (by simp)
  have hz0 := ht.1
  refine Call_wp (lv := [some (vr 218), some (vr 5), some (vi v0), some (vr 220), none, none]) (by decide) ckX9_faultOf [38] rfl rfl ?_
  refine ⟨_, rfl, (by decide), ?_⟩
  refine ⟨_, _, (by decide), rfl, (by decide), ?_⟩
  refine j_min (fun w1 h2 h3 h4 => ?_)
  refine j_max (fun w5 h6 h7 h8 => ?_)
  refine ⟨_, rfl, (by decide), ?_⟩
  refine ⟨_, rfl, (by decide), ?_⟩
  refine ⟨⟨_, rfl, (by decide)⟩, ?_⟩
  refine Call_wp (lv := [some (vr 220)]) (by decide) ckX5_clear [] rfl rfl ?_
  refine ⟨_, rfl, (by decide), ?_⟩
  refine ⟨_, rfl, (by decide), ?_⟩
  refine ⟨rfl, ?_⟩
  refine ⟨⟨_, rfl, (by decide)⟩, ?_⟩
  have hz := ht.1
  have hl0 : w5 = nn := by omega
  refine c_next9  (FS.u hF rfl) (Rg.u (Rg.u (Rg.u (Rg.u hR (Pr_f rfl)) (Pr_f rfl)) (Pr_f rfl)) (Pr_f rfl)) rfl (by
                              have z : (uI (uI (uI (uI I 218 1 w5) 218 3 0) 220 3 0) 220 4 0) 218 1 = w5 := ((uI_o (show ¬ (218 = 220 ∧ 1 = 4) from fun e => absurd e.1 (Nat.ne_of_beq_eq_false rfl))).trans ((uI_o (show ¬ (218 = 220 ∧ 1 = 3) from fun e => absurd e.1 (Nat.ne_of_beq_eq_false rfl))).trans (uJ_ne (show ¬ 1 = 3 from Nat.ne_of_beq_eq_false rfl)))).trans uJ_eq
                              rw [z]; exact hl0) (TXT_f ht (fun j => (uI_o (show ¬ (5 = 220 ∧ j = 4) from fun e => absurd e.1 (Nat.ne_of_beq_eq_false rfl))).trans ((uI_o (show ¬ (5 = 220 ∧ j = 3) from fun e => absurd e.1 (Nat.ne_of_beq_eq_false rfl))).trans ((uI_o (show ¬ (5 = 218 ∧ j = 3) from fun e => absurd e.1 (Nat.ne_of_beq_eq_false rfl))).trans (uI_o (show ¬ (5 = 218 ∧ j = 1) from fun e => absurd e.1 (Nat.ne_of_beq_eq_false rfl))))))) (show 0 ≤ 0 ∧ 0 ≤ nn from by first | omega | (simp only [wr, wl] at *; omega)) (fun I9 hR10 hA11 hW12 q13 q14 q15 q16 qr17 => ?_)
  have q13 : 0 ≤ (I9 218 2) := q13
  have q14 : (I9 218 2) ≤ (I9 218 3) := q14
  have q15 : (I9 218 3) ≤ nn := q15
  have q16 : (I9 218 2) < nn → (I9 218 2) < (I9 218 3) := q16
  have r18 : 0 ≤ (I9 218 2) ∧ (I9 218 2) ≤ 64 := (by omega)
  have r20 : 0 ≤ (I9 218 3) ∧ (I9 218 3) ≤ 64 := (by omega)
  have u22 : (I9 220 4) = ((uI (uI (uI (uI I 218 1 w5) 218 3 0) 220 3 0) 220 4 0) 220 4) := hW12 _ _ (by first | decide | omega)
  have u23 : ((uI (uI (uI (uI I 218 1 w5) 218 3 0) 220 3 0) 220 4 0) 220 4) = 0 := rfl
  have a24 : -2147483648 ≤ (I9 220 4) ∧ (I9 220 4) < 2147483648 := hA11.1 _ _
  have r25 : 0 ≤ (I9 220 4) ∧ (I9 220 4) ≤ 32 := (by omega)
  have u26 : (I9 220 3) = ((uI (uI (uI (uI I 218 1 w5) 218 3 0) 220 3 0) 220 4 0) 220 3) := hW12 _ _ (by first | decide | omega)
  have u27 : ((uI (uI (uI (uI I 218 1 w5) 218 3 0) 220 3 0) 220 4 0) 220 3) = 0 := rfl
  have a28 : -2147483648 ≤ (I9 220 3) ∧ (I9 220 3) < 2147483648 := hA11.1 _ _
  have r29 : 0 ≤ (I9 220 3) ∧ (I9 220 3) ≤ 32 := (by omega)
  refine c_fault9_l (FS.u hF rfl) hR10 rfl ((by
                              have hz := ht.1
                              have z : I9 218 1 = _ := (hW12 218 1 (by first | decide | omega)).trans ((uI_o (show ¬ (218 = 220 ∧ 1 = 4) from fun e => absurd e.1 (Nat.ne_of_beq_eq_false rfl))).trans ((uI_o (show ¬ (218 = 220 ∧ 1 = 3) from fun e => absurd e.1 (Nat.ne_of_beq_eq_false rfl))).trans (uJ_ne (show ¬ 1 = 3 from Nat.ne_of_beq_eq_false rfl))))
                              rw [z]
                              show w5 = nn
                              omega)) (TXT_f ht (fun j => (hW12 5 j (by omega)).trans ((uI_o (show ¬ (5 = 220 ∧ j = 4) from fun e => absurd e.1 (Nat.ne_of_beq_eq_false rfl))).trans ((uI_o (show ¬ (5 = 220 ∧ j = 3) from fun e => absurd e.1 (Nat.ne_of_beq_eq_false rfl))).trans ((uI_o (show ¬ (5 = 218 ∧ j = 3) from fun e => absurd e.1 (Nat.ne_of_beq_eq_false rfl))).trans (uI_o (show ¬ (5 = 218 ∧ j = 1) from fun e => absurd e.1 (Nat.ne_of_beq_eq_false rfl)))))))) (fun r I' g1 g2 g3 g4 hv hA' => hQ _ _ g1 hA' (hv _ rfl) (fun ka ja hk => (g2 ka ja (by omega)).trans (((hW12 ka ja (by omega))).trans (((uI_o (show ¬ (ka = 220 ∧ ja = 4) from by first | (intro e; obtain ⟨rfl, rfl⟩ := e; exact hk (by decide)) | omega))).trans (((uI_o (show ¬ (ka = 220 ∧ ja = 3) from by first | (intro e; obtain ⟨rfl, rfl⟩ := e; exact hk (by decide)) | omega))).trans (((uI_o (show ¬ (ka = 218 ∧ ja = 3) from by first | (intro e; obtain ⟨rfl, rfl⟩ := e; exact hk (by decide)) | omega))).trans ((uI_o (show ¬ (ka = 218 ∧ ja = 1) from by first | (intro e; obtain ⟨rfl, rfl⟩ := e; exact hk (by decide)) | omega)))))))) g3 g4) _ 0 0 I9 hR10 (fun _ _ _ => rfl) (show (0 : Int) ≤ (0 : Int) from Int.le_refl _) (show ((0 : Int) : Int) ≤ 1 from by first | with_reducible assumption | omega | (simp only [wr, wl] at *; omega)) (show (0 : Int) ≤ (0 : Int) from Int.le_refl _) (show ((0 : Int) : Int) ≤ 32 from by first | with_reducible assumption | omega | (simp only [wr, wl] at *; omega)) (show (I9 220 4) = (0 : Int) from by first | omega | (simp only [wr, wl] at *; omega)) (show 4 * (0 : Int) ≤ (I9 218 2) from by first | with_reducible assumption | omega | (simp only [wr, wl] at *; omega)) (show (I9 218 2) ≤ (I9 218 3) from by first | with_reducible assumption | omega | (simp only [wr, wl] at *; omega)) (show (I9 218 3) ≤ nn from by first | with_reducible assumption | omega | (simp only [wr, wl] at *; omega)) (show twP tt nn (Int.toNat (0 : Int)) = ((I9 218 2), (I9 218 3), (0 : Int)) from (by
                              show (na tt nn 0, nb tt nn 0, (0 : Int)) = _
                              rw [show na tt nn 0 = (I9 218 2) from (Tok_n qr17).1.symm, show nb tt nn 0 = (I9 218 3) from (Tok_n qr17).2.symm])) (show ∀ k : Nat, (k : Int) < (0 : Int) → okP tt nn k ∧ sepP tt nn k from fun k hk => absurd hk (by omega)) (show (I9 220 3) = fsP tt nn (Int.toNat (0 : Int)) from (by show _ = (0 : Int); omega)) (fun k hk => absurd hk (by omega)) (show 0 ≤ (I9 220 3) ∧ (I9 220 3) ≤ (0 : Int) from by first | omega | (simp only [wr, wl] at *; omega)) (Nat.lt_succ_self _)
end CP9
