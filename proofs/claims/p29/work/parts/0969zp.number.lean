/-! a piece's number by a law. Own work (scripts laid by wip/pm/gen34.py). -/
section NU11
variable {G : pG} {d : Nat} {F : pF} {I : pI} {Q : Option pV → pF → pI → Prop}
theorem tp_no {L : Nat → Int} : ∀ n : Nat, tpF L n < 0 → ∀ k, k < n → L k < 0 := by
  intro n
  induction n with
  | zero => intro _ k hk; exact absurd hk (by omega)
  | succ n ih =>
    intro h k hk
    have s := tpF_s (L := L) (k := n)
    by_cases c : 0 ≤ L n ∧ (tpF L n < 0 ∨ L (Int.toNat (tpF L n)) < L n)
    · rw [s.1 c] at h; exact absurd h (by omega)
    · rw [s.2 c] at h
      by_cases e : k = n
      · subst e
        exact Classical.byContradiction (fun g => c ⟨by omega, Or.inl h⟩)
      · exact ih h k (by omega)
theorem in_no {S L : Nat → Int} {n i : Nat} (h : L i < 0) : ∀ (m j : Nat) (T : Int × Int × Int), inF S L n i m j T = T := by
  intro m
  induction m with
  | zero => intro j T; rfl
  | succ m ih =>
    intro j T
    have q : trF S L n i j T = T := trF_0 (fun z => by have := z.1; omega)
    show inF S L n i m (j + 1) (trF S L n i j T) = T
    rw [q, ih]
theorem ot_no {S L : Nat → Int} {n : Nat} (h : ∀ k, k < n → L k < 0) : ∀ (m i : Nat) (T : Int × Int × Int), i + m ≤ n → otF S L n m i T = T := by
  intro m
  induction m with
  | zero => intro i T _; rfl
  | succ m ih =>
    intro i T hi
    have q := in_no (S := S) (n := n) (h i (by omega)) (n - (i + 1)) (i + 1) T
    show otF S L n m (i + 1) (inF S L n i (n - (i + 1)) (i + 1) T) = T
    rw [q, ih _ _ (by omega)]
theorem yd_no {S L : Nat → Int} {n : Nat} {o : Int} (h : tpF L n < 0) : ydF S L n o = -1 := by
  have q : LT S L n = (0, 0, 0) := ot_no (tp_no n h) n 0 _ (by omega)
  exact ydF_n (by rw [q]; show ¬ (0 : Int) < 0; omega)
/-- a piece's number by the law w -/
def nmF (S L : Nat → Int) (n : Nat) (w : Int) : Int := if tpF L n < 0 then -1 else if w = 0 then L (Int.toNat (tpF L n)) else if w = 1 then (if ydF S L n 2 < 0 then -1 else S (Int.toNat (ydF S L n 2))) else if w = 2 then (if bkF L n 20 < 0 then -1 else S (Int.toNat (bkF L n 20))) else if (spnF S L n).1 ≤ 2000000000 then (spnF S L n).1 else 2000000000
def NMQ (S L : Nat → Int) (n : Nat) (w r : Int) : Prop := (tpF L n < 0 → r = -1) ∧ (¬ tpF L n < 0 → (w = 0 → r = L (Int.toNat (tpF L n))) ∧ (w = 1 → (ydF S L n 2 < 0 → r = -1) ∧ (¬ ydF S L n 2 < 0 → r = S (Int.toNat (ydF S L n 2)))) ∧ (w = 2 → (bkF L n 20 < 0 → r = -1) ∧ (¬ bkF L n 20 < 0 → r = S (Int.toNat (bkF L n 20)))) ∧ (w = 3 → r ≤ 2000000000 ∧ r ≤ (spnF S L n).1 ∧ (r = 2000000000 ∨ r = (spnF S L n).1)))
theorem nmF_of {S L : Nat → Int} {n : Nat} {w r : Int} (hw : 0 ≤ w ∧ w ≤ 3) (h : NMQ S L n w r) : r = nmF S L n w := by
  unfold nmF
  by_cases t : tpF L n < 0
  · rw [if_pos t]; exact h.1 t
  · rw [if_neg t]
    have g := h.2 t
    by_cases w0 : w = 0
    · rw [if_pos w0]; exact g.1 w0
    · rw [if_neg w0]
      by_cases w1 : w = 1
      · rw [if_pos w1]
        by_cases y : ydF S L n 2 < 0
        · rw [if_pos y]; exact (g.2.1 w1).1 y
        · rw [if_neg y]; exact (g.2.1 w1).2 y
      · rw [if_neg w1]
        by_cases w2 : w = 2
        · rw [if_pos w2]
          by_cases y : bkF L n 20 < 0
          · rw [if_pos y]; exact (g.2.2.1 w2).1 y
          · rw [if_neg y]; exact (g.2.2.1 w2).2 y
        · rw [if_neg w2]
          have s := g.2.2.2 (by omega)
          by_cases y : (spnF S L n).1 ≤ 2000000000
          · rw [if_pos y]; omega
          · rw [if_neg y]; omega
theorem c_nmb11 (hF : FS F) (hR : Rg I) {v0 : Int} {rd : Nat} (hr : RP F rd) {S L : Nat → Int} {N : Int} (hq : RDS I rd S L N) (hv : 0 ≤ v0 ∧ v0 ≤ 3) (hQ : ∀ (r : Int) (I' : pI), Rg I' → AR I' → iR r → (∀ k j, ¬ (k = rd ∧ 3 ≤ j) → I' k j = I k j) → (r = nmF S L (Int.toNat N) v0) → Q (some (vi r)) F I') : CallN G (d + 5) kX6_numberBy [vr rd, vi v0] NP F I Q := by
  refine CallN_in (fun hok hA => CallN_out ?_)
  have iv0 : -2147483648 ≤ v0 ∧ v0 < 2147483648 := hok (vi v0) (by simp)
  have hN := hq.2.2.1
  refine Call_wp (lv := [some (vr rd), some (vi v0), none]) (by decide) ckX6_numberBy [] rfl rfl ?_
  refine ⟨⟨_, hr.1.1, (by have := hr.2; show _ < 254; omega)⟩, ?_⟩
  refine c_tops11  hF hR hr hq (fun vr1 hr2 qr3 => ?_)
  have hr2 : -2147483648 ≤ vr1 ∧ vr1 < 2147483648 := hr2
  have tb := tpF_b (L := L) (Int.toNat N)
  rw [← qr3] at tb
  refine ⟨fun (c4 : ((0 : Int) ≤ vr1)) => ?_, fun (c4 : (¬ ((0 : Int) ≤ vr1))) => ?_⟩
  ·
    refine ⟨fun (c5 : ((v0 : Int) = 0)) => ?_, fun (c5 : (¬ ((v0 : Int) = 0))) => ?_⟩
    ·
      refine ⟨⟨_, hr.1.1, (by have := hr.2; show _ < 254; omega)⟩, ?_⟩
      refine c_ld11 (v0 := vr1) hF hR hr hq (by omega) (fun vr6 hr7 qr8 => ?_)
      have hr7 : -2147483648 ≤ vr6 ∧ vr6 < 2147483648 := hr7
      have b9 : (-200000 : Int) ≤ vr6 ∧ vr6 ≤ 200000 := by rw [qr8]; exact hq.2.2.2.2 _
      exact ⟨rfl, fun hv hA' => hQ _ _ hR hA' (hv _ rfl) (fun _ _ _ => rfl) ((by
                              have tb2 := tpF_b (L := L) (Int.toNat N)
                              have bb2 := bkF_b (L := L) (n := Int.toNat N) (f := 20)
                              have yb2 := ydF_b (S := S) (L := L) (n := Int.toNat N) (o := 2)
                              refine nmF_of (by omega) ⟨fun b => ?_, fun b => ⟨fun e => ?_, fun e => ⟨fun g => ?_, fun g => ?_⟩, fun e => ⟨fun g => ?_, fun g => ?_⟩, fun e => ?_⟩⟩
                              all_goals first | omega | (exfalso; omega) | (subst_vars; omega) | (subst_vars; exfalso; omega)))⟩
    ·
      refine ⟨fun (c10 : ((v0 : Int) = 1)) => ?_, fun (c10 : (¬ ((v0 : Int) = 1))) => ?_⟩
      ·
        refine ⟨⟨_, hr.1.1, (by have := hr.2; show _ < 254; omega)⟩, ?_⟩
        refine c_yld11 (v0 := 2) hF hR hr hq (by omega) (fun vr11 I12 hR13 hA14 hr16 hW15 qr17 => ?_)
        have hr16 : -2147483648 ≤ vr11 ∧ vr11 < 2147483648 := hr16
        have yb := ydF_b (S := S) (L := L) (n := Int.toNat N) (o := 2)
        refine ⟨⟨_, hr.1.1, (by have := hr.2; show _ < 254; omega)⟩, ?_⟩
        refine Call_wp (lv := [some (vr rd), some (vi vr11)]) (by decide) ckX6_stretchOr [] rfl rfl ?_
        refine ⟨fun (c18 : ((0 : Int) ≤ vr11)) => ?_, fun (c18 : (¬ ((0 : Int) ≤ vr11))) => ?_⟩
        ·
          refine ⟨⟨_, hr.1.1, (by have := hr.2; show _ < 254; omega)⟩, ?_⟩
          refine c_st11 (v0 := vr11) hF hR13 hr (RDS_f hq (fun ka ja hk => (hW15 ka ja (by omega)))) (by omega) (fun vr19 hr20 qr21 => ?_)
          have hr20 : -2147483648 ≤ vr19 ∧ vr19 < 2147483648 := hr20
          have b22 : (0 : Int) ≤ vr19 ∧ vr19 ≤ 5100000 := by rw [qr21]; exact hq.2.2.2.1 _
          refine ⟨rfl, ?_⟩
          exact ⟨rfl, fun hv hA' => hQ _ _ hR13 hA' (hv _ rfl) (fun ka ja hk => (hW15 ka ja (by omega))) ((by
                              have tb2 := tpF_b (L := L) (Int.toNat N)
                              have bb2 := bkF_b (L := L) (n := Int.toNat N) (f := 20)
                              have yb2 := ydF_b (S := S) (L := L) (n := Int.toNat N) (o := 2)
                              refine nmF_of (by omega) ⟨fun b => ?_, fun b => ⟨fun e => ?_, fun e => ⟨fun g => ?_, fun g => ?_⟩, fun e => ⟨fun g => ?_, fun g => ?_⟩, fun e => ?_⟩⟩
                              all_goals first | omega | (exfalso; omega) | (subst_vars; omega) | (subst_vars; exfalso; omega)))⟩
        ·
          refine ⟨rfl, ?_⟩
          exact ⟨rfl, fun hv hA' => hQ _ _ hR13 hA' (hv _ rfl) (fun ka ja hk => (hW15 ka ja (by omega))) ((by
                              have tb2 := tpF_b (L := L) (Int.toNat N)
                              have bb2 := bkF_b (L := L) (n := Int.toNat N) (f := 20)
                              have yb2 := ydF_b (S := S) (L := L) (n := Int.toNat N) (o := 2)
                              refine nmF_of (by omega) ⟨fun b => ?_, fun b => ⟨fun e => ?_, fun e => ⟨fun g => ?_, fun g => ?_⟩, fun e => ⟨fun g => ?_, fun g => ?_⟩, fun e => ?_⟩⟩
                              all_goals first | omega | (exfalso; omega) | (subst_vars; omega) | (subst_vars; exfalso; omega)))⟩
      ·
        refine ⟨fun (c23 : ((v0 : Int) = 2)) => ?_, fun (c23 : (¬ ((v0 : Int) = 2))) => ?_⟩
        ·
          refine ⟨⟨_, hr.1.1, (by have := hr.2; show _ < 254; omega)⟩, ?_⟩
          refine c_brk11 (v0 := 20) hF hR hr hq (by omega) (fun vr24 hr25 qr26 => ?_)
          have hr25 : -2147483648 ≤ vr24 ∧ vr24 < 2147483648 := hr25
          have bb := bkF_b (L := L) (n := Int.toNat N) (f := 20)
          refine ⟨⟨_, hr.1.1, (by have := hr.2; show _ < 254; omega)⟩, ?_⟩
          refine Call_wp (lv := [some (vr rd), some (vi vr24)]) (by decide) ckX6_stretchOr [] rfl rfl ?_
          refine ⟨fun (c27 : ((0 : Int) ≤ vr24)) => ?_, fun (c27 : (¬ ((0 : Int) ≤ vr24))) => ?_⟩
          ·
            refine ⟨⟨_, hr.1.1, (by have := hr.2; show _ < 254; omega)⟩, ?_⟩
            refine c_st11 (v0 := vr24) hF hR hr hq (by omega) (fun vr28 hr29 qr30 => ?_)
            have hr29 : -2147483648 ≤ vr28 ∧ vr28 < 2147483648 := hr29
            have b31 : (0 : Int) ≤ vr28 ∧ vr28 ≤ 5100000 := by rw [qr30]; exact hq.2.2.2.1 _
            refine ⟨rfl, ?_⟩
            exact ⟨rfl, fun hv hA' => hQ _ _ hR hA' (hv _ rfl) (fun _ _ _ => rfl) ((by
                              have tb2 := tpF_b (L := L) (Int.toNat N)
                              have bb2 := bkF_b (L := L) (n := Int.toNat N) (f := 20)
                              have yb2 := ydF_b (S := S) (L := L) (n := Int.toNat N) (o := 2)
                              refine nmF_of (by omega) ⟨fun b => ?_, fun b => ⟨fun e => ?_, fun e => ⟨fun g => ?_, fun g => ?_⟩, fun e => ⟨fun g => ?_, fun g => ?_⟩, fun e => ?_⟩⟩
                              all_goals first | omega | (exfalso; omega) | (subst_vars; omega) | (subst_vars; exfalso; omega)))⟩
          ·
            refine ⟨rfl, ?_⟩
            exact ⟨rfl, fun hv hA' => hQ _ _ hR hA' (hv _ rfl) (fun _ _ _ => rfl) ((by
                              have tb2 := tpF_b (L := L) (Int.toNat N)
                              have bb2 := bkF_b (L := L) (n := Int.toNat N) (f := 20)
                              have yb2 := ydF_b (S := S) (L := L) (n := Int.toNat N) (o := 2)
                              refine nmF_of (by omega) ⟨fun b => ?_, fun b => ⟨fun e => ?_, fun e => ⟨fun g => ?_, fun g => ?_⟩, fun e => ⟨fun g => ?_, fun g => ?_⟩, fun e => ?_⟩⟩
                              all_goals first | omega | (exfalso; omega) | (subst_vars; omega) | (subst_vars; exfalso; omega)))⟩
        ·
          refine ⟨fun _ => ?_, fun c => absurd (show ((v0 : Int) = 3) from by first | omega | (simp only [wr, wl] at *; omega)) c⟩
          refine ⟨_, hr.1.1, (by have := hr.2; show _ < 254; omega), ?_⟩
          have z32 : (I rd 2) = N := hq.1
          refine ⟨⟨_, hr.1.1, (by have := hr.2; show _ < 254; omega)⟩, ?_⟩
          have a33 : -2147483648 ≤ (I rd 2) ∧ (I rd 2) < 2147483648 := hA.1 _ _
          have n34 : (wr ((I rd 2) - 1)) = (I rd 2) - 1 := wr_id (show -2147483648 ≤ ((I rd 2) - 1 : Int) ∧ ((I rd 2) - 1 : Int) < 2147483648 from by omega)
          refine c_spt11 (v0 := (wr ((I rd 2) - 1))) hF hR hr hq (by omega) (fun vr35 hr36 qr37 => ?_)
          have hr36 : -9223372036854775808 ≤ vr35 ∧ vr35 < 9223372036854775808 := hr36
          rw [show Int.toNat ((wr ((I rd 2) - 1)) + 1) = Int.toNat N from by omega] at qr37
          refine j_minL (fun w38 h39 h40 h41 => ?_)
          have n42 : (wr w38) = w38 := wr_id (show -2147483648 ≤ (w38 : Int) ∧ (w38 : Int) < 2147483648 from by omega)
          exact ⟨rfl, fun hv hA' => hQ _ _ hR hA' (hv _ rfl) (fun _ _ _ => rfl) ((by
                              have tb2 := tpF_b (L := L) (Int.toNat N)
                              have bb2 := bkF_b (L := L) (n := Int.toNat N) (f := 20)
                              have yb2 := ydF_b (S := S) (L := L) (n := Int.toNat N) (o := 2)
                              refine nmF_of (by omega) ⟨fun b => ?_, fun b => ⟨fun e => ?_, fun e => ⟨fun g => ?_, fun g => ?_⟩, fun e => ⟨fun g => ?_, fun g => ?_⟩, fun e => ?_⟩⟩
                              all_goals first | omega | (exfalso; omega) | (subst_vars; omega) | (subst_vars; exfalso; omega)))⟩
  ·
    exact ⟨rfl, fun hv hA' => hQ _ _ hR hA' (hv _ rfl) (fun _ _ _ => rfl) ((by
                              have tb2 := tpF_b (L := L) (Int.toNat N)
                              have bb2 := bkF_b (L := L) (n := Int.toNat N) (f := 20)
                              have yb2 := ydF_b (S := S) (L := L) (n := Int.toNat N) (o := 2)
                              refine nmF_of (by omega) ⟨fun b => ?_, fun b => ⟨fun e => ?_, fun e => ⟨fun g => ?_, fun g => ?_⟩, fun e => ⟨fun g => ?_, fun g => ?_⟩, fun e => ?_⟩⟩
                              all_goals first | omega | (exfalso; omega) | (subst_vars; omega) | (subst_vars; exfalso; omega)))⟩
theorem r_nmb11 (hF : FS F) (hR : Rg I) {v0 v1 : Int} (hp : 0 ≤ v0 ∧ v0 ≤ 13) {S L : Nat → Int} {N : Int} (hq : RDM I (Int.toNat v0) S L N) (hv : 0 ≤ v1 ∧ v1 ≤ 3) (hQ : ∀ (r : Int) (I' : pI), Rg I' → AR I' → iR r → (∀ k j, ¬ ((k = 235 ∧ 22 ≤ j ∧ j ≤ 24)) → I' k j = I k j) → (r = nmF S L (Int.toNat N) v1) → Q (some (vi r)) F I') : CallN G (d + 6) kX12_numberOf [vr 235, vi v0, vi v1] NP F I Q := by
  refine CallN_in (fun hok hA => CallN_out ?_)
  have iv0 : -2147483648 ≤ v0 ∧ v0 < 2147483648 := hok (vi v0) (by simp)
  have iv1 : -2147483648 ≤ v1 ∧ v1 < 2147483648 := hok (vi v1) (by simp)
  have hN := hq.2.2.1
  refine Call_wp (lv := [some (vr 235), some (vi v0), some (vi v1), none, none]) (by decide) ckX12_numberOf [] rfl rfl ?_
  refine ⟨⟨_, rfl, (by decide)⟩, ?_⟩
  refine r_tops11 (v0 := v0) hF hR (by omega) hq (fun vr1 hr2 qr3 => ?_)
  have hr2 : -2147483648 ≤ vr1 ∧ vr1 < 2147483648 := hr2
  have tb := tpF_b (L := L) (Int.toNat N)
  rw [← qr3] at tb
  refine ⟨fun (c4 : (¬ (v1 : Int) = 1)) => ?_, fun (c4 : ((v1 : Int) = 1)) => ?_⟩
  ·
    refine ⟨fun (c5 : (¬ (v1 : Int) = 2)) => ?_, fun (c5 : ((v1 : Int) = 2)) => ?_⟩
    ·
      refine ⟨fun (c6 : ((0 : Int) ≤ vr1)) => ?_, fun (c6 : (¬ ((0 : Int) ≤ vr1))) => ?_⟩
      ·
        refine ⟨fun (c7 : (¬ (v1 : Int) = 0)) => ?_, fun (c7 : ((v1 : Int) = 0)) => ?_⟩
        ·
          refine ⟨fun _ => ?_, fun c => absurd (show ((3 : Int) ≤ v1) from by first | with_reducible assumption | omega | (simp only [wr, wl] at *; omega)) c⟩
          refine ⟨⟨_, rfl, (by decide)⟩, ?_⟩
          refine r_many11 (v0 := v0) hF hR (by omega) hq (fun vr8 hr9 qr10 => ?_)
          have hr9 : -2147483648 ≤ vr8 ∧ vr8 < 2147483648 := hr9
          refine ⟨⟨_, rfl, (by decide)⟩, ?_⟩
          have n11 : (wr (vr8 - 1)) = vr8 - 1 := wr_id (show -2147483648 ≤ (vr8 - 1 : Int) ∧ (vr8 - 1 : Int) < 2147483648 from by omega)
          refine r_spt11 (v0 := v0) (v1 := (wr (vr8 - 1))) hF hR (by omega) hq (by omega) (fun vr12 hr13 qr14 => ?_)
          have hr13 : -9223372036854775808 ≤ vr12 ∧ vr12 < 9223372036854775808 := hr13
          rw [show Int.toNat ((wr (vr8 - 1)) + 1) = Int.toNat N from by omega] at qr14
          refine j_minL (fun w15 h16 h17 h18 => ?_)
          have n19 : (wr w15) = w15 := wr_id (show -2147483648 ≤ (w15 : Int) ∧ (w15 : Int) < 2147483648 from by omega)
          exact ⟨rfl, fun hv hA' => hQ _ _ hR hA' (hv _ rfl) (fun _ _ _ => rfl) ((by
                              have tb2 := tpF_b (L := L) (Int.toNat N)
                              have bb2 := bkF_b (L := L) (n := Int.toNat N) (f := 20)
                              have yb2 := ydF_b (S := S) (L := L) (n := Int.toNat N) (o := 2)
                              have yn := fun h : tpF L (Int.toNat N) < 0 => yd_no (S := S) (L := L) (n := Int.toNat N) (o := 2) h
                              have bn := fun h : tpF L (Int.toNat N) < 0 => bkF_n (L := L) (n := Int.toNat N) (f := 20) h
                              refine nmF_of (by omega) ⟨fun b => ?_, fun b => ⟨fun e => ?_, fun e => ⟨fun g => ?_, fun g => ?_⟩, fun e => ⟨fun g => ?_, fun g => ?_⟩, fun e => ?_⟩⟩
                              all_goals first | omega | (exfalso; omega) | (subst_vars; omega) | (subst_vars; exfalso; omega)))⟩
        ·
          refine ⟨⟨_, rfl, (by decide)⟩, ?_⟩
          refine r_ld11 (v0 := v0) (v1 := vr1) hF hR (by omega) hq (by omega) (fun vr20 hr21 qr22 => ?_)
          have hr21 : -2147483648 ≤ vr20 ∧ vr20 < 2147483648 := hr21
          have b23 : (-200000 : Int) ≤ vr20 ∧ vr20 ≤ 200000 := by rw [qr22]; exact hq.2.2.2.2 _
          exact ⟨rfl, fun hv hA' => hQ _ _ hR hA' (hv _ rfl) (fun _ _ _ => rfl) ((by
                              have tb2 := tpF_b (L := L) (Int.toNat N)
                              have bb2 := bkF_b (L := L) (n := Int.toNat N) (f := 20)
                              have yb2 := ydF_b (S := S) (L := L) (n := Int.toNat N) (o := 2)
                              have yn := fun h : tpF L (Int.toNat N) < 0 => yd_no (S := S) (L := L) (n := Int.toNat N) (o := 2) h
                              have bn := fun h : tpF L (Int.toNat N) < 0 => bkF_n (L := L) (n := Int.toNat N) (f := 20) h
                              refine nmF_of (by omega) ⟨fun b => ?_, fun b => ⟨fun e => ?_, fun e => ⟨fun g => ?_, fun g => ?_⟩, fun e => ⟨fun g => ?_, fun g => ?_⟩, fun e => ?_⟩⟩
                              all_goals first | omega | (exfalso; omega) | (subst_vars; omega) | (subst_vars; exfalso; omega)))⟩
      ·
        exact ⟨rfl, fun hv hA' => hQ _ _ hR hA' (hv _ rfl) (fun _ _ _ => rfl) ((by
                              have tb2 := tpF_b (L := L) (Int.toNat N)
                              have bb2 := bkF_b (L := L) (n := Int.toNat N) (f := 20)
                              have yb2 := ydF_b (S := S) (L := L) (n := Int.toNat N) (o := 2)
                              have yn := fun h : tpF L (Int.toNat N) < 0 => yd_no (S := S) (L := L) (n := Int.toNat N) (o := 2) h
                              have bn := fun h : tpF L (Int.toNat N) < 0 => bkF_n (L := L) (n := Int.toNat N) (f := 20) h
                              refine nmF_of (by omega) ⟨fun b => ?_, fun b => ⟨fun e => ?_, fun e => ⟨fun g => ?_, fun g => ?_⟩, fun e => ⟨fun g => ?_, fun g => ?_⟩, fun e => ?_⟩⟩
                              all_goals first | omega | (exfalso; omega) | (subst_vars; omega) | (subst_vars; exfalso; omega)))⟩
    ·
      refine ⟨⟨_, rfl, (by decide)⟩, ?_⟩
      refine r_brk11 (v0 := v0) (v1 := 20) hF hR (by omega) hq (by omega) (fun vr24 hr25 qr26 => ?_)
      have hr25 : -2147483648 ≤ vr24 ∧ vr24 < 2147483648 := hr25
      have bb := bkF_b (L := L) (n := Int.toNat N) (f := 20)
      refine ⟨fun (c27 : ((0 : Int) ≤ vr24)) => ?_, fun (c27 : (¬ ((0 : Int) ≤ vr24))) => ?_⟩
      ·
        refine ⟨fun _ => ?_, fun c => absurd c (show (¬ (v1 : Int) = 0) from by first | omega | (simp only [wr, wl] at *; omega))⟩
        refine ⟨fun c => absurd c (show (¬ ((3 : Int) ≤ v1)) from by first | omega | (simp only [wr, wl] at *; omega)), fun _ => ?_⟩
        refine ⟨⟨_, rfl, (by decide)⟩, ?_⟩
        refine r_st11 (v0 := v0) (v1 := vr24) hF hR (by omega) hq (by omega) (fun vr28 hr29 qr30 => ?_)
        have hr29 : -2147483648 ≤ vr28 ∧ vr28 < 2147483648 := hr29
        have b31 : (0 : Int) ≤ vr28 ∧ vr28 ≤ 5100000 := by rw [qr30]; exact hq.2.2.2.1 _
        exact ⟨rfl, fun hv hA' => hQ _ _ hR hA' (hv _ rfl) (fun _ _ _ => rfl) ((by
                              have tb2 := tpF_b (L := L) (Int.toNat N)
                              have bb2 := bkF_b (L := L) (n := Int.toNat N) (f := 20)
                              have yb2 := ydF_b (S := S) (L := L) (n := Int.toNat N) (o := 2)
                              have yn := fun h : tpF L (Int.toNat N) < 0 => yd_no (S := S) (L := L) (n := Int.toNat N) (o := 2) h
                              have bn := fun h : tpF L (Int.toNat N) < 0 => bkF_n (L := L) (n := Int.toNat N) (f := 20) h
                              refine nmF_of (by omega) ⟨fun b => ?_, fun b => ⟨fun e => ?_, fun e => ⟨fun g => ?_, fun g => ?_⟩, fun e => ⟨fun g => ?_, fun g => ?_⟩, fun e => ?_⟩⟩
                              all_goals first | omega | (exfalso; omega) | (subst_vars; omega) | (subst_vars; exfalso; omega)))⟩
      ·
        exact ⟨rfl, fun hv hA' => hQ _ _ hR hA' (hv _ rfl) (fun _ _ _ => rfl) ((by
                              have tb2 := tpF_b (L := L) (Int.toNat N)
                              have bb2 := bkF_b (L := L) (n := Int.toNat N) (f := 20)
                              have yb2 := ydF_b (S := S) (L := L) (n := Int.toNat N) (o := 2)
                              have yn := fun h : tpF L (Int.toNat N) < 0 => yd_no (S := S) (L := L) (n := Int.toNat N) (o := 2) h
                              have bn := fun h : tpF L (Int.toNat N) < 0 => bkF_n (L := L) (n := Int.toNat N) (f := 20) h
                              refine nmF_of (by omega) ⟨fun b => ?_, fun b => ⟨fun e => ?_, fun e => ⟨fun g => ?_, fun g => ?_⟩, fun e => ⟨fun g => ?_, fun g => ?_⟩, fun e => ?_⟩⟩
                              all_goals first | omega | (exfalso; omega) | (subst_vars; omega) | (subst_vars; exfalso; omega)))⟩
  ·
    refine ⟨⟨_, rfl, (by decide)⟩, ?_⟩
    refine r_yld11 (v0 := v0) (v1 := 2) hF hR (by omega) hq (by omega) (fun vr32 I33 hR34 hA35 hr37 hW36 qr38 => ?_)
    have hr37 : -2147483648 ≤ vr32 ∧ vr32 < 2147483648 := hr37
    have yb := ydF_b (S := S) (L := L) (n := Int.toNat N) (o := 2)
    refine ⟨fun (c39 : ((0 : Int) ≤ vr32)) => ?_, fun (c39 : (¬ ((0 : Int) ≤ vr32))) => ?_⟩
    ·
      refine ⟨fun _ => ?_, fun c => absurd c (show (¬ (v1 : Int) = 0) from by first | omega | (simp only [wr, wl] at *; omega))⟩
      refine ⟨fun c => absurd c (show (¬ ((3 : Int) ≤ v1)) from by first | omega | (simp only [wr, wl] at *; omega)), fun _ => ?_⟩
      refine ⟨⟨_, rfl, (by decide)⟩, ?_⟩
      refine r_st11 (v0 := v0) (v1 := vr32) hF hR34 (by omega) (RDM_f hq (fun j => hW36 236 j (by omega))) (by omega) (fun vr40 hr41 qr42 => ?_)
      have hr41 : -2147483648 ≤ vr40 ∧ vr40 < 2147483648 := hr41
      have b43 : (0 : Int) ≤ vr40 ∧ vr40 ≤ 5100000 := by rw [qr42]; exact hq.2.2.2.1 _
      exact ⟨rfl, fun hv hA' => hQ _ _ hR34 hA' (hv _ rfl) (fun ka ja hk => (hW36 ka ja (by omega))) ((by
                              have tb2 := tpF_b (L := L) (Int.toNat N)
                              have bb2 := bkF_b (L := L) (n := Int.toNat N) (f := 20)
                              have yb2 := ydF_b (S := S) (L := L) (n := Int.toNat N) (o := 2)
                              have yn := fun h : tpF L (Int.toNat N) < 0 => yd_no (S := S) (L := L) (n := Int.toNat N) (o := 2) h
                              have bn := fun h : tpF L (Int.toNat N) < 0 => bkF_n (L := L) (n := Int.toNat N) (f := 20) h
                              refine nmF_of (by omega) ⟨fun b => ?_, fun b => ⟨fun e => ?_, fun e => ⟨fun g => ?_, fun g => ?_⟩, fun e => ⟨fun g => ?_, fun g => ?_⟩, fun e => ?_⟩⟩
                              all_goals first | omega | (exfalso; omega) | (subst_vars; omega) | (subst_vars; exfalso; omega)))⟩
    ·
      exact ⟨rfl, fun hv hA' => hQ _ _ hR34 hA' (hv _ rfl) (fun ka ja hk => (hW36 ka ja (by omega))) ((by
                              have tb2 := tpF_b (L := L) (Int.toNat N)
                              have bb2 := bkF_b (L := L) (n := Int.toNat N) (f := 20)
                              have yb2 := ydF_b (S := S) (L := L) (n := Int.toNat N) (o := 2)
                              have yn := fun h : tpF L (Int.toNat N) < 0 => yd_no (S := S) (L := L) (n := Int.toNat N) (o := 2) h
                              have bn := fun h : tpF L (Int.toNat N) < 0 => bkF_n (L := L) (n := Int.toNat N) (f := 20) h
                              refine nmF_of (by omega) ⟨fun b => ?_, fun b => ⟨fun e => ?_, fun e => ⟨fun g => ?_, fun g => ?_⟩, fun e => ⟨fun g => ?_, fun g => ?_⟩, fun e => ?_⟩⟩
                              all_goals first | omega | (exfalso; omega) | (subst_vars; omega) | (subst_vars; exfalso; omega)))⟩
end NU11
