/-! a piece's readings as a picture: stretches, loads, how many. Own work (scripts laid by wip/pm/gen34.py). -/
section RD11
variable {G : pG} {d : Nat} {F : pF} {I : pI} {Q : Option pV → pF → pI → Prop}
def RB (S L : Nat → Int) : Prop := (∀ k, 0 ≤ S k ∧ S k ≤ 5100000) ∧ (∀ k, -200000 ≤ L k ∧ L k ≤ 200000)
def RDS (I : pI) (a : Nat) (S L : Nat → Int) (N : Int) : Prop := I a 2 = N ∧ (∀ k : Nat, (k : Int) < N → I (a + 1) k = S k ∧ I (a + 2) k = L k) ∧ (0 ≤ N ∧ N ≤ 24) ∧ RB S L
def RDM (I : pI) (p : Nat) (S L : Nat → Int) (N : Int) : Prop := I 236 (304 + 66 * p + 4) = N ∧ (∀ k : Nat, (k : Int) < N → I 236 (304 + 66 * p + 17 + 2 * k) = S k ∧ I 236 (304 + 66 * p + 18 + 2 * k) = L k) ∧ (0 ≤ N ∧ N ≤ 24) ∧ RB S L
theorem RDS_f {I J : pI} {a : Nat} {S L : Nat → Int} {N : Int} (h : RDS I a S L N) (e : ∀ k j, (k = a ∧ j = 2) ∨ k = a + 1 ∨ k = a + 2 → J k j = I k j) : RDS J a S L N :=
  ⟨(e a 2 (Or.inl ⟨rfl, rfl⟩)).trans h.1, fun k hk => ⟨(e _ k (Or.inr (Or.inl rfl))).trans (h.2.1 k hk).1, (e _ k (Or.inr (Or.inr rfl))).trans (h.2.1 k hk).2⟩, h.2.2⟩
theorem RDM_f {I J : pI} {p : Nat} {S L : Nat → Int} {N : Int} (h : RDM I p S L N) (e : ∀ j, J 236 j = I 236 j) : RDM J p S L N :=
  ⟨(e _).trans h.1, fun k hk => ⟨(e _).trans (h.2.1 k hk).1, (e _).trans (h.2.1 k hk).2⟩, h.2.2⟩
theorem RB_nz {f g : Nat → Int} {n : Int} (h : ∀ j : Nat, (j : Int) < n → (0 ≤ f j ∧ f j ≤ 5100000) ∧ (-200000 ≤ g j ∧ g j ≤ 200000)) : RB (nz f n) (nz g n) :=
  ⟨fun k => nza (by omega) (fun k hk => (h k hk).1) k, fun k => nza (by omega) (fun k hk => (h k hk).2) k⟩
theorem RDM_of {I : pI} {p : Nat} (hn : 0 ≤ I 236 (304 + 66 * p + 4) ∧ I 236 (304 + 66 * p + 4) ≤ 24) (h : ∀ j : Nat, (j : Int) < I 236 (304 + 66 * p + 4) → (0 ≤ I 236 (304 + 66 * p + 17 + 2 * j) ∧ I 236 (304 + 66 * p + 17 + 2 * j) ≤ 5100000) ∧ (-200000 ≤ I 236 (304 + 66 * p + 18 + 2 * j) ∧ I 236 (304 + 66 * p + 18 + 2 * j) ≤ 200000)) : RDM I p (nz (fun k => I 236 (304 + 66 * p + 17 + 2 * k)) (I 236 (304 + 66 * p + 4))) (nz (fun k => I 236 (304 + 66 * p + 18 + 2 * k)) (I 236 (304 + 66 * p + 4))) (I 236 (304 + 66 * p + 4)) :=
  ⟨rfl, fun k hk => ⟨(nz_i (f := fun k => I 236 (304 + 66 * p + 17 + 2 * k)) hk).symm, (nz_i (f := fun k => I 236 (304 + 66 * p + 18 + 2 * k)) hk).symm⟩, hn, RB_nz (f := fun k => I 236 (304 + 66 * p + 17 + 2 * k)) (g := fun k => I 236 (304 + 66 * p + 18 + 2 * k)) h⟩
def SFI (I : pI) (p : Nat) : Nat → Int := nz (fun k => I 236 (304 + 66 * p + 17 + 2 * k)) (I 236 (304 + 66 * p + 4))
def LFI (I : pI) (p : Nat) : Nat → Int := nz (fun k => I 236 (304 + 66 * p + 18 + 2 * k)) (I 236 (304 + 66 * p + 4))
def NFI (I : pI) (p : Nat) : Int := I 236 (304 + 66 * p + 4)
/-- what both sides hold of a piece's readings, as one picture -/
theorem REQ_S {I : pI} {a p : Nat} (h : REQ I a 236 (304 + 66 * p)) : RDS I (a + 2) (SFI I p) (LFI I p) (NFI I p) ∧ RDM I p (SFI I p) (LFI I p) (NFI I p) := by
  obtain ⟨e, f, g, w⟩ := h
  have r : ∀ j : Nat, (j : Int) < I 236 (304 + 66 * p + 4) → (0 ≤ I 236 (304 + 66 * p + 17 + 2 * j) ∧ I 236 (304 + 66 * p + 17 + 2 * j) ≤ 5100000) ∧ (-200000 ≤ I 236 (304 + 66 * p + 18 + 2 * j) ∧ I 236 (304 + 66 * p + 18 + 2 * j) ≤ 200000) := fun j hj => by
    rw [← e] at hj
    rw [← (f j hj).1, ← (f j hj).2]
    exact w j hj
  have m := RDM_of (by rw [← e]; exact g) r
  refine ⟨⟨e, fun k hk => ?_, m.2.2⟩, m⟩
  have z := f k (by rw [e]; exact hk)
  exact ⟨z.1.trans (m.2.1 k hk).1, z.2.trans (m.2.1 k hk).2⟩
theorem c_st11 (hF : FS F) (hR : Rg I) {v0 : Int} {rd : Nat} (hr : RP F rd) {S L : Nat → Int} {N : Int} (hq : RDS I rd S L N) (hi : 0 ≤ v0 ∧ v0 < N) (hQ : ∀ r : Int, iR r → (r = S (Int.toNat v0)) → Q (some (vi r)) F I) : CallN G d kX6_stretchAt [vr rd, vi v0] NP F I Q := by
  refine CallN_in (fun hok hA => CallN_out ?_)
  have iv0 : -2147483648 ≤ v0 ∧ v0 < 2147483648 := hok (vi v0) (by simp)
  have hN := hq.2.2.1
  refine Call_wp (lv := [some (vr rd), some (vi v0)]) (by decide) ckX6_stretchAt [] rfl rfl ?_
  refine ⟨fun c => absurd c (show (¬ ((v0 : Int) < 0)) from by first | omega | (simp only [wr, wl] at *; omega)), fun _ => ?_⟩
  refine ⟨_, hr.1.1, (by have := hr.2; show _ < 254; omega), ?_⟩
  have z1 : (I rd 2) = N := hq.1
  have a2 : -2147483648 ≤ (I rd 2) ∧ (I rd 2) < 2147483648 := hA.1 _ _
  refine ⟨fun (c3 : (((I rd 2) : Int) ≤ v0)) => ?_, fun (c3 : (¬ (((I rd 2) : Int) ≤ v0))) => ?_⟩
  ·
    exact ⟨rfl, fun hv hA' => hQ _ (hv _ rfl) (by omega)⟩
  ·
    refine ⟨fun c => absurd c (show (¬ ((24 : Int) ≤ v0)) from by first | omega | (simp only [wr, wl] at *; omega)), fun _ => ?_⟩
    refine ⟨_, hr.1.1, (by have := hr.2; show _ < 254; omega), ?_⟩
    refine fun w0 hw0 => ?_; obtain rfl : w0 = some (rd + 1) := hw0.symm.trans hr.1.2.2.2.2.1
    refine ⟨_, hr.1.2.1, (by have := hr.2; show _ < 254; omega), (show (0 : Int) ≤ v0 from by first | with_reducible assumption | omega | (simp only [wr, wl] at *; omega)), (show v0 < (24 : Int) from by first | with_reducible assumption | omega | (simp only [wr, wl] at *; omega)), ?_⟩
    have z4 : (I (rd + 1) (Int.toNat v0)) = S (Int.toNat v0) := (hq.2.1 _ (by omega)).1
    have a5 : -2147483648 ≤ (I (rd + 1) (Int.toNat v0)) ∧ (I (rd + 1) (Int.toNat v0)) < 2147483648 := hA.1 _ _
    exact ⟨rfl, fun hv hA' => hQ _ (hv _ rfl) (by omega)⟩
theorem c_ld11 (hF : FS F) (hR : Rg I) {v0 : Int} {rd : Nat} (hr : RP F rd) {S L : Nat → Int} {N : Int} (hq : RDS I rd S L N) (hi : 0 ≤ v0 ∧ v0 < N) (hQ : ∀ r : Int, iR r → (r = L (Int.toNat v0)) → Q (some (vi r)) F I) : CallN G d kX6_loadAt [vr rd, vi v0] NP F I Q := by
  refine CallN_in (fun hok hA => CallN_out ?_)
  have iv0 : -2147483648 ≤ v0 ∧ v0 < 2147483648 := hok (vi v0) (by simp)
  have hN := hq.2.2.1
  refine Call_wp (lv := [some (vr rd), some (vi v0)]) (by decide) ckX6_loadAt [] rfl rfl ?_
  refine ⟨fun c => absurd c (show (¬ ((v0 : Int) < 0)) from by first | omega | (simp only [wr, wl] at *; omega)), fun _ => ?_⟩
  refine ⟨_, hr.1.1, (by have := hr.2; show _ < 254; omega), ?_⟩
  have z1 : (I rd 2) = N := hq.1
  have a2 : -2147483648 ≤ (I rd 2) ∧ (I rd 2) < 2147483648 := hA.1 _ _
  refine ⟨fun (c3 : (((I rd 2) : Int) ≤ v0)) => ?_, fun (c3 : (¬ (((I rd 2) : Int) ≤ v0))) => ?_⟩
  ·
    exact ⟨rfl, fun hv hA' => hQ _ (hv _ rfl) (by omega)⟩
  ·
    refine ⟨fun c => absurd c (show (¬ ((24 : Int) ≤ v0)) from by first | omega | (simp only [wr, wl] at *; omega)), fun _ => ?_⟩
    refine ⟨_, hr.1.1, (by have := hr.2; show _ < 254; omega), ?_⟩
    refine fun w0 hw0 => ?_; obtain rfl : w0 = some (rd + 2) := hw0.symm.trans hr.1.2.2.2.2.2
    refine ⟨_, hr.1.2.2.1, (by have := hr.2; show _ < 254; omega), (show (0 : Int) ≤ v0 from by first | with_reducible assumption | omega | (simp only [wr, wl] at *; omega)), (show v0 < (24 : Int) from by first | with_reducible assumption | omega | (simp only [wr, wl] at *; omega)), ?_⟩
    have z4 : (I (rd + 2) (Int.toNat v0)) = L (Int.toNat v0) := (hq.2.1 _ (by omega)).2
    have a5 : -2147483648 ≤ (I (rd + 2) (Int.toNat v0)) ∧ (I (rd + 2) (Int.toNat v0)) < 2147483648 := hA.1 _ _
    exact ⟨rfl, fun hv hA' => hQ _ (hv _ rfl) (by omega)⟩
theorem c_gd11 (hF : FS F) (hR : Rg I) {v0 : Int} {rd : Nat} (hr : RP F rd) {S L : Nat → Int} {N : Int} (hq : RDS I rd S L N) (hi : 0 ≤ v0 ∧ v0 < N) (hQ : ∀ r : Int, iR r → ((r = 1 ∧ 0 ≤ L (Int.toNat v0)) ∨ (r = 0 ∧ L (Int.toNat v0) < 0)) → Q (some (vi r)) F I) : CallN G (d + 1) kX6_isGood [vr rd, vi v0] NP F I Q := by
  refine CallN_in (fun hok hA => CallN_out ?_)
  have iv0 : -2147483648 ≤ v0 ∧ v0 < 2147483648 := hok (vi v0) (by simp)
  have hN := hq.2.2.1
  refine Call_wp (lv := [some (vr rd), some (vi v0)]) (by decide) ckX6_isGood [] rfl rfl ?_
  refine ⟨⟨_, hr.1.1, (by have := hr.2; show _ < 254; omega)⟩, ?_⟩
  refine c_ld11 (v0 := v0) hF hR hr hq (by omega) (fun vr1 hr2 qr3 => ?_)
  have hr2 : -2147483648 ≤ vr1 ∧ vr1 < 2147483648 := hr2
  have b4 : (-200000 : Int) ≤ vr1 ∧ vr1 ≤ 200000 := by rw [qr3]; exact hq.2.2.2.2 _
  refine ⟨fun (c5 : ((vr1 : Int) < 0)) => ?_, fun (c5 : (¬ ((vr1 : Int) < 0))) => ?_⟩
  ·
    exact ⟨rfl, (by decide), fun hv hA' => hQ _ (hv _ rfl) (by omega)⟩
  ·
    exact ⟨rfl, (by decide), fun hv hA' => hQ _ (hv _ rfl) (by omega)⟩
theorem r_many11 (hF : FS F) (hR : Rg I) {v0 : Int} (hp : 0 ≤ v0 ∧ v0 ≤ 13) {S L : Nat → Int} {N : Int} (hq : RDM I (Int.toNat v0) S L N) (hQ : ∀ r : Int, iR r → (r = N) → Q (some (vi r)) F I) : CallN G (d + 1) kX12_many [vr 235, vi v0] NP F I Q := by
  refine CallN_in (fun hok hA => CallN_out ?_)
  have iv0 : -2147483648 ≤ v0 ∧ v0 < 2147483648 := hok (vi v0) (by simp)
  have hN := hq.2.2.1
  refine Call_wp (lv := [some (vr 235), some (vi v0)]) (by decide) ckX12_many [] rfl rfl ?_
  refine ⟨⟨_, rfl, (by decide)⟩, ?_⟩
  refine Call_wp (lv := [some (vr 235), some (vi v0), some (vi 4)]) (by decide) ckX12_of [] rfl rfl ?_
  refine ⟨_, rfl, (by decide), ?_⟩
  refine fun w0 hw0 => ?_; obtain rfl : w0 = some 236 := hw0.symm.trans (FS.g hF rfl)
  have n1 : (wr (66 * v0)) = 66 * v0 := wr_id (show -2147483648 ≤ (66 * v0 : Int) ∧ (66 * v0 : Int) < 2147483648 from by omega)
  have n2 : (wr (304 + (wr (66 * v0)))) = 304 + (wr (66 * v0)) := wr_id (show -2147483648 ≤ (304 + (wr (66 * v0)) : Int) ∧ (304 + (wr (66 * v0)) : Int) < 2147483648 from by omega)
  have n3 : (wr ((wr (304 + (wr (66 * v0)))) + 4)) = (wr (304 + (wr (66 * v0)))) + 4 := wr_id (show -2147483648 ≤ ((wr (304 + (wr (66 * v0)))) + 4 : Int) ∧ ((wr (304 + (wr (66 * v0)))) + 4 : Int) < 2147483648 from by omega)
  refine ⟨_, rfl, (by decide), (show (0 : Int) ≤ (wr ((wr (304 + (wr (66 * v0)))) + 4)) from by first | with_reducible assumption | omega | (simp only [wr, wl] at *; omega)), (show (wr ((wr (304 + (wr (66 * v0)))) + 4)) < (1340 : Int) from by first | with_reducible assumption | omega | (simp only [wr, wl] at *; omega)), ?_⟩
  have z4 : (I 236 (Int.toNat (wr ((wr (304 + (wr (66 * v0)))) + 4)))) = N := (congrArg (I 236) (by omega)).trans hq.1
  have r5 : 0 ≤ (I 236 (Int.toNat (wr ((wr (304 + (wr (66 * v0)))) + 4)))) ∧ (I 236 (Int.toNat (wr ((wr (304 + (wr (66 * v0)))) + 4)))) ≤ 24 := Pn_p4 (p := (Int.toNat v0)) (by omega) (by omega) (hR.n (Int.toNat (wr ((wr (304 + (wr (66 * v0)))) + 4))) (by omega))
  refine ⟨rfl, ?_⟩
  exact ⟨rfl, fun hv hA' => hQ _ (hv _ rfl) (by omega)⟩
theorem r_st11 (hF : FS F) (hR : Rg I) {v0 v1 : Int} (hp : 0 ≤ v0 ∧ v0 ≤ 13) {S L : Nat → Int} {N : Int} (hq : RDM I (Int.toNat v0) S L N) (hi : 0 ≤ v1 ∧ v1 < N) (hQ : ∀ r : Int, iR r → (r = S (Int.toNat v1)) → Q (some (vi r)) F I) : CallN G (d + 1) kX12_stretch [vr 235, vi v0, vi v1] NP F I Q := by
  refine CallN_in (fun hok hA => CallN_out ?_)
  have iv0 : -2147483648 ≤ v0 ∧ v0 < 2147483648 := hok (vi v0) (by simp)
  have iv1 : -2147483648 ≤ v1 ∧ v1 < 2147483648 := hok (vi v1) (by simp)
  have hN := hq.2.2.1
  refine Call_wp (lv := [some (vr 235), some (vi v0), some (vi v1)]) (by decide) ckX12_stretch [] rfl rfl ?_
  refine ⟨⟨_, rfl, (by decide)⟩, ?_⟩
  refine Call_wp (lv := [some (vr 235), some (vi v0), some (vi (wr (17 + (wr (2 * v1)))))]) (by decide) ckX12_of [] rfl rfl ?_
  refine ⟨_, rfl, (by decide), ?_⟩
  refine fun w0 hw0 => ?_; obtain rfl : w0 = some 236 := hw0.symm.trans (FS.g hF rfl)
  have n1 : (wr (66 * v0)) = 66 * v0 := wr_id (show -2147483648 ≤ (66 * v0 : Int) ∧ (66 * v0 : Int) < 2147483648 from by omega)
  have n2 : (wr (304 + (wr (66 * v0)))) = 304 + (wr (66 * v0)) := wr_id (show -2147483648 ≤ (304 + (wr (66 * v0)) : Int) ∧ (304 + (wr (66 * v0)) : Int) < 2147483648 from by omega)
  have n3 : (wr (2 * v1)) = 2 * v1 := wr_id (show -2147483648 ≤ (2 * v1 : Int) ∧ (2 * v1 : Int) < 2147483648 from by omega)
  have n4 : (wr (17 + (wr (2 * v1)))) = 17 + (wr (2 * v1)) := wr_id (show -2147483648 ≤ (17 + (wr (2 * v1)) : Int) ∧ (17 + (wr (2 * v1)) : Int) < 2147483648 from by omega)
  have n5 : (wr ((wr (304 + (wr (66 * v0)))) + (wr (17 + (wr (2 * v1)))))) = (wr (304 + (wr (66 * v0)))) + (wr (17 + (wr (2 * v1)))) := wr_id (show -2147483648 ≤ ((wr (304 + (wr (66 * v0)))) + (wr (17 + (wr (2 * v1)))) : Int) ∧ ((wr (304 + (wr (66 * v0)))) + (wr (17 + (wr (2 * v1)))) : Int) < 2147483648 from by omega)
  refine ⟨_, rfl, (by decide), (show (0 : Int) ≤ (wr ((wr (304 + (wr (66 * v0)))) + (wr (17 + (wr (2 * v1)))))) from by first | with_reducible assumption | omega | (simp only [wr, wl] at *; omega)), (show (wr ((wr (304 + (wr (66 * v0)))) + (wr (17 + (wr (2 * v1)))))) < (1340 : Int) from by first | with_reducible assumption | omega | (simp only [wr, wl] at *; omega)), ?_⟩
  have z6 : (I 236 (Int.toNat (wr ((wr (304 + (wr (66 * v0)))) + (wr (17 + (wr (2 * v1)))))))) = S (Int.toNat v1) := (congrArg (I 236) (by omega)).trans (hq.2.1 (Int.toNat v1) (by omega)).1
  refine ⟨rfl, ?_⟩
  have a7 : -2147483648 ≤ (I 236 (Int.toNat (wr ((wr (304 + (wr (66 * v0)))) + (wr (17 + (wr (2 * v1)))))))) ∧ (I 236 (Int.toNat (wr ((wr (304 + (wr (66 * v0)))) + (wr (17 + (wr (2 * v1)))))))) < 2147483648 := hA.1 _ _
  exact ⟨rfl, fun hv hA' => hQ _ (hv _ rfl) (by omega)⟩
theorem r_ld11 (hF : FS F) (hR : Rg I) {v0 v1 : Int} (hp : 0 ≤ v0 ∧ v0 ≤ 13) {S L : Nat → Int} {N : Int} (hq : RDM I (Int.toNat v0) S L N) (hi : 0 ≤ v1 ∧ v1 < N) (hQ : ∀ r : Int, iR r → (r = L (Int.toNat v1)) → Q (some (vi r)) F I) : CallN G (d + 1) kX12_load [vr 235, vi v0, vi v1] NP F I Q := by
  refine CallN_in (fun hok hA => CallN_out ?_)
  have iv0 : -2147483648 ≤ v0 ∧ v0 < 2147483648 := hok (vi v0) (by simp)
  have iv1 : -2147483648 ≤ v1 ∧ v1 < 2147483648 := hok (vi v1) (by simp)
  have hN := hq.2.2.1
  refine Call_wp (lv := [some (vr 235), some (vi v0), some (vi v1)]) (by decide) ckX12_load [] rfl rfl ?_
  refine ⟨⟨_, rfl, (by decide)⟩, ?_⟩
  refine Call_wp (lv := [some (vr 235), some (vi v0), some (vi (wr ((wr (17 + (wr (2 * v1)))) + 1)))]) (by decide) ckX12_of [] rfl rfl ?_
  refine ⟨_, rfl, (by decide), ?_⟩
  refine fun w0 hw0 => ?_; obtain rfl : w0 = some 236 := hw0.symm.trans (FS.g hF rfl)
  have n1 : (wr (66 * v0)) = 66 * v0 := wr_id (show -2147483648 ≤ (66 * v0 : Int) ∧ (66 * v0 : Int) < 2147483648 from by omega)
  have n2 : (wr (304 + (wr (66 * v0)))) = 304 + (wr (66 * v0)) := wr_id (show -2147483648 ≤ (304 + (wr (66 * v0)) : Int) ∧ (304 + (wr (66 * v0)) : Int) < 2147483648 from by omega)
  have n3 : (wr (2 * v1)) = 2 * v1 := wr_id (show -2147483648 ≤ (2 * v1 : Int) ∧ (2 * v1 : Int) < 2147483648 from by omega)
  have n4 : (wr (17 + (wr (2 * v1)))) = 17 + (wr (2 * v1)) := wr_id (show -2147483648 ≤ (17 + (wr (2 * v1)) : Int) ∧ (17 + (wr (2 * v1)) : Int) < 2147483648 from by omega)
  have n5 : (wr ((wr (17 + (wr (2 * v1)))) + 1)) = (wr (17 + (wr (2 * v1)))) + 1 := wr_id (show -2147483648 ≤ ((wr (17 + (wr (2 * v1)))) + 1 : Int) ∧ ((wr (17 + (wr (2 * v1)))) + 1 : Int) < 2147483648 from by omega)
  have n6 : (wr ((wr (304 + (wr (66 * v0)))) + (wr ((wr (17 + (wr (2 * v1)))) + 1)))) = (wr (304 + (wr (66 * v0)))) + (wr ((wr (17 + (wr (2 * v1)))) + 1)) := wr_id (show -2147483648 ≤ ((wr (304 + (wr (66 * v0)))) + (wr ((wr (17 + (wr (2 * v1)))) + 1)) : Int) ∧ ((wr (304 + (wr (66 * v0)))) + (wr ((wr (17 + (wr (2 * v1)))) + 1)) : Int) < 2147483648 from by omega)
  refine ⟨_, rfl, (by decide), (show (0 : Int) ≤ (wr ((wr (304 + (wr (66 * v0)))) + (wr ((wr (17 + (wr (2 * v1)))) + 1)))) from by first | with_reducible assumption | omega | (simp only [wr, wl] at *; omega)), (show (wr ((wr (304 + (wr (66 * v0)))) + (wr ((wr (17 + (wr (2 * v1)))) + 1)))) < (1340 : Int) from by first | with_reducible assumption | omega | (simp only [wr, wl] at *; omega)), ?_⟩
  have z7 : (I 236 (Int.toNat (wr ((wr (304 + (wr (66 * v0)))) + (wr ((wr (17 + (wr (2 * v1)))) + 1)))))) = L (Int.toNat v1) := (congrArg (I 236) (by omega)).trans (hq.2.1 (Int.toNat v1) (by omega)).2
  refine ⟨rfl, ?_⟩
  have a8 : -2147483648 ≤ (I 236 (Int.toNat (wr ((wr (304 + (wr (66 * v0)))) + (wr ((wr (17 + (wr (2 * v1)))) + 1)))))) ∧ (I 236 (Int.toNat (wr ((wr (304 + (wr (66 * v0)))) + (wr ((wr (17 + (wr (2 * v1)))) + 1)))))) < 2147483648 := hA.1 _ _
  exact ⟨rfl, fun hv hA' => hQ _ (hv _ rfl) (by omega)⟩
theorem r_gd11 (hF : FS F) (hR : Rg I) {v0 v1 : Int} (hp : 0 ≤ v0 ∧ v0 ≤ 13) {S L : Nat → Int} {N : Int} (hq : RDM I (Int.toNat v0) S L N) (hi : 0 ≤ v1 ∧ v1 < N) (hQ : ∀ r : Int, iR r → ((r = 1 ∧ 0 ≤ L (Int.toNat v1)) ∨ (r = 0 ∧ L (Int.toNat v1) < 0)) → Q (some (vi r)) F I) : CallN G (d + 2) kX12_isGood [vr 235, vi v0, vi v1] NP F I Q := by
  refine CallN_in (fun hok hA => CallN_out ?_)
  have iv0 : -2147483648 ≤ v0 ∧ v0 < 2147483648 := hok (vi v0) (by simp)
  have iv1 : -2147483648 ≤ v1 ∧ v1 < 2147483648 := hok (vi v1) (by simp)
  have hN := hq.2.2.1
  refine Call_wp (lv := [some (vr 235), some (vi v0), some (vi v1)]) (by decide) ckX12_isGood [] rfl rfl ?_
  refine ⟨⟨_, rfl, (by decide)⟩, ?_⟩
  refine r_ld11 (v0 := v0) (v1 := v1) hF hR (by omega) hq (by omega) (fun vr1 hr2 qr3 => ?_)
  have hr2 : -2147483648 ≤ vr1 ∧ vr1 < 2147483648 := hr2
  have b4 : (-200000 : Int) ≤ vr1 ∧ vr1 ≤ 200000 := by rw [qr3]; exact hq.2.2.2.2 _
  refine ⟨fun (c5 : ((vr1 : Int) < 0)) => ?_, fun (c5 : (¬ ((vr1 : Int) < 0))) => ?_⟩
  ·
    exact ⟨rfl, (by decide), fun hv hA' => hQ _ (hv _ rfl) (by omega)⟩
  ·
    exact ⟨rfl, (by decide), fun hv hA' => hQ _ (hv _ rfl) (by omega)⟩
end RD11
theorem LRc_q {I : pI} (h : LRc I) (eO : I 1 1 = I 236 0) : ∀ p : Nat, (p : Int) < I 1 1 → RDS I ((1 + 19 + 5 * p) + 2) (SFI I p) (LFI I p) (NFI I p) := fun p hp => by
  rw [show 1 + 19 + 5 * p = 20 + 5 * p from by omega]
  exact (REQ_S (h p (by omega))).1
theorem LRc_w {I J : pI} (h : LRc I) (h4 : ∀ j, J 236 j = I 236 j) : ∀ p : Nat, (p : Int) < J 236 0 → RDM J p (SFI I p) (LFI I p) (NFI I p) := fun p hp => by
  rw [h4] at hp
  exact RDM_f (REQ_S (h p hp)).2 h4
