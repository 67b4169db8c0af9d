/-! programs copied; what program answers and writes, the class's. Own work (scripts laid by wip/pm/gen34.py). -/
section GC
variable {G : pG} {d : Nat} {F : pF} {I : pI} {Q : Option pV → pF → pI → Prop}
/-- the program at a is what the program at b was -/
def GCP (a b : Nat) (J I : pI) : Prop := (J a 0 = I b 0 ∧ J a 3 = I b 3 ∧ J a 4 = I b 4) ∧ (∀ j, j < 32 → J (a + 1) j = I (b + 1) j) ∧ (∀ j, j < 32 → J (a + 2) j = I (b + 2) j)
theorem c_gcopy9 (hF : FS F) (hR : Rg I) {g g2 : Nat} (hp : GP F g) (hq : GP F g2) (hs : g + 2 < g2 ∨ g2 + 2 < g) (hQ : ∀ (I' : pI), Rg I' → AR I' → (∀ k j, ¬ (g ≤ k ∧ k ≤ g + 2) → I' k j = I k j) → (GCP g g2 I' I) → Q none F I') : CallN G (d + 1) kX5_copyFrom [vr g, vr g2] NP F I Q := by
  refine CallN_in (fun hok hA => CallN_out ?_)
  refine Call_wp (lv := [some (vr g), some (vr g2)]) (by decide) ckX5_copyFrom [] rfl rfl ?_
  refine ⟨_, hq.1.1, (by have := hq.2; show _ < 254; omega), ?_⟩
  have r1 : 0 ≤ (I g2 0) ∧ (I g2 0) ≤ 1 := hR.b hq.1.1 (by have := hq.2; omega) ⟨by decide, by decide⟩
  refine ⟨_, hp.1.1, (by have := hp.2; show _ < 254; omega), (show ((I g2 0) : Int) = 0 ∨ ((I g2 0) : Int) = 1 from by omega), ?_⟩
  have p3 : ((I g2 0) : Int) = 0 ∨ ((I g2 0) : Int) = 1 := by omega
  refine ⟨_, hq.1.1, (by have := hq.2; show _ < 254; omega), ?_⟩
  refine fun w0 hw0 => ?_; obtain rfl : w0 = some (g2 + 1) := hw0.symm.trans hq.1.2.2.2.2.1
  refine ⟨_, hp.1.1, (by have := hp.2; show _ < 254; omega), ?_⟩
  refine fun w0 hw0 => ?_; obtain rfl : w0 = some (g + 1) := hw0.symm.trans hp.1.2.2.2.2.1
  refine ⟨_, _, _, (by decide), hq.1.2.1, hp.1.2.1, (by have := hq.2; show _ < 254; omega), (by have := hp.2; show _ < 254; omega), (by decide), (by decide), (by decide), (by decide), (by decide), (by decide), (by omega), ?_⟩
  refine ⟨_, hq.1.1, (by have := hq.2; show _ < 254; omega), ?_⟩
  refine fun w0 hw0 => ?_; obtain rfl : w0 = some (g2 + 2) := hw0.symm.trans hq.1.2.2.2.2.2
  refine ⟨_, hp.1.1, (by have := hp.2; show _ < 254; omega), ?_⟩
  refine fun w0 hw0 => ?_; obtain rfl : w0 = some (g + 2) := hw0.symm.trans hp.1.2.2.2.2.2
  refine ⟨_, _, _, (by decide), hq.1.2.2.1, hp.1.2.2.1, (by have := hq.2; show _ < 254; omega), (by have := hp.2; show _ < 254; omega), (by decide), (by decide), (by decide), (by decide), (by decide), (by decide), (by omega), ?_⟩
  refine ⟨_, hq.1.1, (by have := hq.2; show _ < 254; omega), ?_⟩
  have u4 : ((cI (cI (uI I g 0 (I g2 0)) (g2 + 1) 0 (g + 1) 0 32) (g2 + 2) 0 (g + 2) 0 32) g2 3) = (I g2 3) := (cI_o (lay_ne hq.1.1 hp.1.2.2.1 (by decide))).trans ((cI_o (lay_ne hq.1.1 hp.1.2.1 (by decide))).trans (uI_o (fun e => absurd e.1 (by omega))))
  have a5 : -2147483648 ≤ (I g2 3) ∧ (I g2 3) < 2147483648 := hA.1 _ _
  refine ⟨_, hp.1.1, (by have := hp.2; show _ < 254; omega), ?_⟩
  refine ⟨_, hq.1.1, (by have := hq.2; show _ < 254; omega), ?_⟩
  have u6 : ((uI (cI (cI (uI I g 0 (I g2 0)) (g2 + 1) 0 (g + 1) 0 32) (g2 + 2) 0 (g + 2) 0 32) g 3 ((cI (cI (uI I g 0 (I g2 0)) (g2 + 1) 0 (g + 1) 0 32) (g2 + 2) 0 (g + 2) 0 32) g2 3)) g2 4) = (I g2 4) := (uI_o (fun e => absurd e.1 (by omega))).trans ((cI_o (lay_ne hq.1.1 hp.1.2.2.1 (by decide))).trans ((cI_o (lay_ne hq.1.1 hp.1.2.1 (by decide))).trans (uI_o (fun e => absurd e.1 (by omega)))))
  have a7 : -2147483648 ≤ (I g2 4) ∧ (I g2 4) < 2147483648 := hA.1 _ _
  refine ⟨_, hp.1.1, (by have := hp.2; show _ < 254; omega), ?_⟩
  have u8 : ((uI (uI (cI (cI (uI I g 0 (I g2 0)) (g2 + 1) 0 (g + 1) 0 32) (g2 + 2) 0 (g + 2) 0 32) g 3 ((cI (cI (uI I g 0 (I g2 0)) (g2 + 1) 0 (g + 1) 0 32) (g2 + 2) 0 (g + 2) 0 32) g2 3)) g 4 ((uI (cI (cI (uI I g 0 (I g2 0)) (g2 + 1) 0 (g + 1) 0 32) (g2 + 2) 0 (g + 2) 0 32) g 3 ((cI (cI (uI I g 0 (I g2 0)) (g2 + 1) 0 (g + 1) 0 32) (g2 + 2) 0 (g + 2) 0 32) g2 3)) g2 4)) g 0) = (I g2 0) := (uJ_ne (by decide)).trans ((uJ_ne (by decide)).trans ((cI_o (lay_ne hp.1.1 hp.1.2.2.1 (by decide))).trans ((cI_o (lay_ne hp.1.1 hp.1.2.1 (by decide))).trans (uJ_eq))))
  have u9 : ((uI (uI (cI (cI (uI I g 0 (I g2 0)) (g2 + 1) 0 (g + 1) 0 32) (g2 + 2) 0 (g + 2) 0 32) g 3 ((cI (cI (uI I g 0 (I g2 0)) (g2 + 1) 0 (g + 1) 0 32) (g2 + 2) 0 (g + 2) 0 32) g2 3)) g 4 ((uI (cI (cI (uI I g 0 (I g2 0)) (g2 + 1) 0 (g + 1) 0 32) (g2 + 2) 0 (g + 2) 0 32) g 3 ((cI (cI (uI I g 0 (I g2 0)) (g2 + 1) 0 (g + 1) 0 32) (g2 + 2) 0 (g + 2) 0 32) g2 3)) g2 4)) g 3) = ((cI (cI (uI I g 0 (I g2 0)) (g2 + 1) 0 (g + 1) 0 32) (g2 + 2) 0 (g + 2) 0 32) g2 3) := (uJ_ne (by decide)).trans (uJ_eq)
  have u10 : ((uI (uI (cI (cI (uI I g 0 (I g2 0)) (g2 + 1) 0 (g + 1) 0 32) (g2 + 2) 0 (g + 2) 0 32) g 3 ((cI (cI (uI I g 0 (I g2 0)) (g2 + 1) 0 (g + 1) 0 32) (g2 + 2) 0 (g + 2) 0 32) g2 3)) g 4 ((uI (cI (cI (uI I g 0 (I g2 0)) (g2 + 1) 0 (g + 1) 0 32) (g2 + 2) 0 (g + 2) 0 32) g 3 ((cI (cI (uI I g 0 (I g2 0)) (g2 + 1) 0 (g + 1) 0 32) (g2 + 2) 0 (g + 2) 0 32) g2 3)) g2 4)) g 4) = ((uI (cI (cI (uI I g 0 (I g2 0)) (g2 + 1) 0 (g + 1) 0 32) (g2 + 2) 0 (g + 2) 0 32) g 3 ((cI (cI (uI I g 0 (I g2 0)) (g2 + 1) 0 (g + 1) 0 32) (g2 + 2) 0 (g + 2) 0 32) g2 3)) g2 4) := uJ_eq
  exact ⟨rfl, fun hv hA' => hQ _ (Rg.u (Rg.u (Rg.c (Rg.c (Rg.u hR (Pr_b (by have := hp.2; omega) p3)) (fun _ _ => Pr_l hp.1.2.1 (by have := hp.2; omega) _ _ ⟨Or.inl (by decide), Or.inl (by decide), Or.inl (by decide)⟩)) (fun _ _ => Pr_l hp.1.2.2.1 (by have := hp.2; omega) _ _ ⟨Or.inl (by decide), Or.inl (by decide), Or.inl (by decide)⟩)) (Pr_l hp.1.1 (by have := hp.2; omega) _ _ (by decide))) (Pr_l hp.1.1 (by have := hp.2; omega) _ _ (by decide))) hA' (fun ka ja hk => ((uI_o (show ¬ (ka = g ∧ ja = 4) from by have := hp.2; omega))).trans (((uI_o (show ¬ (ka = g ∧ ja = 3) from by have := hp.2; omega))).trans (((cI_o (show ¬ ka = (g + 2) from by have := hp.2; omega))).trans (((cI_o (show ¬ ka = (g + 1) from by have := hp.2; omega))).trans ((uI_o (show ¬ (ka = g ∧ ja = 0) from by have := hp.2; omega))))))) (⟨⟨(show ((uI (uI (cI (cI (uI I g 0 (I g2 0)) (g2 + 1) 0 (g + 1) 0 32) (g2 + 2) 0 (g + 2) 0 32) g 3 ((cI (cI (uI I g 0 (I g2 0)) (g2 + 1) 0 (g + 1) 0 32) (g2 + 2) 0 (g + 2) 0 32) g2 3)) g 4 ((uI (cI (cI (uI I g 0 (I g2 0)) (g2 + 1) 0 (g + 1) 0 32) (g2 + 2) 0 (g + 2) 0 32) g 3 ((cI (cI (uI I g 0 (I g2 0)) (g2 + 1) 0 (g + 1) 0 32) (g2 + 2) 0 (g + 2) 0 32) g2 3)) g2 4)) g 0) = (I g2 0) from by first | rfl | omega | assumption), (show ((uI (uI (cI (cI (uI I g 0 (I g2 0)) (g2 + 1) 0 (g + 1) 0 32) (g2 + 2) 0 (g + 2) 0 32) g 3 ((cI (cI (uI I g 0 (I g2 0)) (g2 + 1) 0 (g + 1) 0 32) (g2 + 2) 0 (g + 2) 0 32) g2 3)) g 4 ((uI (cI (cI (uI I g 0 (I g2 0)) (g2 + 1) 0 (g + 1) 0 32) (g2 + 2) 0 (g + 2) 0 32) g 3 ((cI (cI (uI I g 0 (I g2 0)) (g2 + 1) 0 (g + 1) 0 32) (g2 + 2) 0 (g + 2) 0 32) g2 3)) g2 4)) g 3) = (I g2 3) from by first | rfl | omega | assumption), (show ((uI (uI (cI (cI (uI I g 0 (I g2 0)) (g2 + 1) 0 (g + 1) 0 32) (g2 + 2) 0 (g + 2) 0 32) g 3 ((cI (cI (uI I g 0 (I g2 0)) (g2 + 1) 0 (g + 1) 0 32) (g2 + 2) 0 (g + 2) 0 32) g2 3)) g 4 ((uI (cI (cI (uI I g 0 (I g2 0)) (g2 + 1) 0 (g + 1) 0 32) (g2 + 2) 0 (g + 2) 0 32) g 3 ((cI (cI (uI I g 0 (I g2 0)) (g2 + 1) 0 (g + 1) 0 32) (g2 + 2) 0 (g + 2) 0 32) g2 3)) g2 4)) g 4) = (I g2 4) from by first | rfl | omega | assumption)⟩, fun j hj => (uI_o (show ¬ ((g + 1) = g ∧ j = 4) from fun e => absurd e.1 (by omega))).trans ((uI_o (show ¬ ((g + 1) = g ∧ j = 3) from fun e => absurd e.1 (by omega))).trans ((cI_o (show ¬ (g + 1) = (g + 2) from by omega)).trans ((cI_hit hj).trans (uI_o (show ¬ ((g2 + 1) = g ∧ j = 0) from fun e => absurd e.1 (by omega)))))), fun j hj => (uI_o (show ¬ ((g + 2) = g ∧ j = 4) from fun e => absurd e.1 (by omega))).trans ((uI_o (show ¬ ((g + 2) = g ∧ j = 3) from fun e => absurd e.1 (by omega))).trans ((cI_hit hj).trans ((cI_o (show ¬ (g2 + 2) = (g + 1) from by omega)).trans (uI_o (show ¬ ((g2 + 2) = g ∧ j = 0) from fun e => absurd e.1 (by omega))))))⟩)⟩
theorem c_program9 (hF : FS F) (hR : Rg I) {v0 : Int} {tt : Int → Int} {nn : Int} (hl : I 1 5 = nn) (ht : TXT tt nn (I 5)) (hQ : ∀ (r : Int) (F' : pF) (I' : pI), FS F' → Rg I' → AR I' → iR r → (∀ k j, ¬ (k = 203 ∨ k = 218 ∨ (220 ≤ k ∧ k < 223) ∨ (90 ≤ k ∧ k < 102) ∨ (k = 1 ∧ (j = 5))) → I' k j = I k j) → ((¬ (0 ≤ v0 ∧ v0 < 4) → r = -1000001 ∧ I' 1 5 = I 1 5 ∧ ∀ k j, 90 ≤ k → k < 102 → I' k j = I k j) ∧ ((0 ≤ v0 ∧ v0 < 4) → I' 1 5 = 0 ∧ ∃ (x : Int) (m : Nat), RESP tt nn x m ∧ -1 ≤ x ∧ (0 ≤ x → r = -10 - x ∧ ∀ k j, 90 ≤ k → k < 102 → I' k j = I k j) ∧ (x = -1 → r = m + 1 ∧ m < 17 ∧ (I' (1 + 89 + 3 * Int.toNat v0) 0 = 1 ∧ I' (1 + 89 + 3 * Int.toNat v0) 3 = fsP tt nn (m + 1) ∧ I' (1 + 89 + 3 * Int.toNat v0) 4 = m + 1) ∧ (∀ k : Nat, k < m + 1 → I' ((1 + 89 + 3 * Int.toNat v0) + 1) k = actP tt nn k ∧ I' ((1 + 89 + 3 * Int.toNat v0) + 2) k = amP tt nn k) ∧ ∀ k j, 90 ≤ k → k < 102 → ¬ ((1 + 89 + 3 * Int.toNat v0) ≤ k ∧ k ≤ (1 + 89 + 3 * Int.toNat v0) + 2) → I' k j = I k j))) → Q (some (vi r)) F' I') : CallN G (d + 8) kX11_program [vr 0, vi v0] NP F I Q := by
  refine CallN_in (fun hok hA => CallN_out ?_)
  have iv0 : -2147483648 ≤ v0 ∧ v0 < 2147483648 := hok (vi v0) (by simp)
  have hz0 := ht.1
  refine Call_wp (lv := [some (vr 0), some (vi v0), none, none]) (by decide) ckX11_program [] rfl rfl ?_
  refine ⟨_, rfl, (by decide), ?_⟩
  refine fun w0 hw0 => ?_; obtain rfl : w0 = some 1 := hw0.symm.trans (FS.g hF rfl)
  refine ⟨⟨_, rfl, (by decide)⟩, ?_⟩
  refine s_X8_programAt hF (S := 1) (Or.inl rfl) (fun (w1 : (0 ≤ v0 ∧ v0 < 4)) => ?_) (fun (w1 : ¬ (0 ≤ v0 ∧ v0 < 4)) => ?_)
  ·
    have hp2 : GP F (1 + 89 + 3 * Int.toNat v0) := GP_of hF (by omega)
    refine ⟨_, rfl, (by decide), ?_⟩
    refine fun w0 hw0 => ?_; obtain rfl : w0 = some 218 := hw0.symm.trans (FS.g hF rfl)
    refine ⟨_, rfl, (by decide), ?_⟩
    refine fun w0 hw0 => ?_; obtain rfl : w0 = some 1 := hw0.symm.trans (FS.g hF rfl)
    refine ⟨_, rfl, (by decide), ?_⟩
    refine fun w0 hw0 => ?_; obtain rfl : w0 = some 5 := hw0.symm.trans (FS.g hF rfl)
    refine ⟨_, rfl, (by decide), ?_⟩
    refine fun w0 hw0 => ?_; obtain rfl : w0 = some 1 := hw0.symm.trans (FS.g hF rfl)
    refine ⟨_, rfl, (by decide), ?_⟩
    have r3 : 0 ≤ (I 1 5) ∧ (I 1 5) ≤ 64 := (by omega)
    refine ⟨_, rfl, (by decide), ?_⟩
    refine fun w0 hw0 => ?_; obtain rfl : w0 = some 220 := hw0.symm.trans (FS.g hF rfl)
    refine ⟨⟨_, rfl, (by decide)⟩, ?_⟩
    refine c_fault9 (v0 := (I 1 5)) hF hR (show (I 1 5) = nn from by omega) ht (fun vr5 I6 hR7 hA8 hr10 hW9 q11 qr12 => ?_)
    have hr10 : -2147483648 ≤ vr5 ∧ vr5 < 2147483648 := hr10
    have q11 : -1 ≤ vr5 ∧ vr5 ≤ 64 := q11
    refine ⟨_, rfl, (by decide), ?_⟩
    refine fun w0 hw0 => ?_; obtain rfl : w0 = some 1 := hw0.symm.trans (FS.g (FS.u hF rfl) rfl)
    refine ⟨_, rfl, (by decide), ?_⟩
    refine ⟨fun (c13 : ((vr5 : Int) < 0)) => ?_, fun (c13 : (¬ ((vr5 : Int) < 0))) => ?_⟩
    ·
      refine ⟨_, rfl, (by decide), ?_⟩
      refine fun w0 hw0 => ?_; obtain rfl : w0 = some 220 := hw0.symm.trans (FS.g (FS.u hF rfl) rfl)
      refine ⟨⟨_, hp2.1.1, (by have := hp2.2; show _ < 254; omega)⟩, ?_⟩
      refine c_gcopy9  (FS.u hF rfl) (Rg.u hR7 (Pr_f rfl)) hp2.x (GP_d (FS.u hF rfl)) (by omega) (fun I14 hR15 hA16 hW17 qr18 => ?_)
      refine ⟨_, hp2.1.1, (by have := hp2.2; show _ < 254; omega), (by decide), ?_⟩
      have p19 : (1 : Int) = 0 ∨ (1 : Int) = 1 := by decide
      refine ⟨_, hp2.1.1, (by have := hp2.2; show _ < 254; omega), ?_⟩
      have u20 : ((uI I14 (1 + 89 + 3 * Int.toNat v0) 0 1) (1 + 89 + 3 * Int.toNat v0) 4) = (I14 (1 + 89 + 3 * Int.toNat v0) 4) := uJ_ne (by decide)
      have a21 : -2147483648 ≤ (I14 (1 + 89 + 3 * Int.toNat v0) 4) ∧ (I14 (1 + 89 + 3 * Int.toNat v0) 4) < 2147483648 := hA16.1 _ _
      exact ⟨rfl, fun hv hA' => hQ _ _ _ (FS.u hF rfl) (Rg.u hR15 (Pr_b (by have := hp2.2; omega) p19)) hA' (hv _ rfl) (fun ka ja hk => ((uI_o (show ¬ (ka = (1 + 89 + 3 * Int.toNat v0) ∧ ja = 0) from by have := hp2.2; omega))).trans (((hW17 ka ja (by omega))).trans (((uI_o (show ¬ (ka = 1 ∧ ja = 5) from by first | (intro e; obtain ⟨rfl, rfl⟩ := e; exact hk (by decide)) | omega))).trans ((hW9 ka ja (by omega)))))) ((by
                              obtain ⟨m, y1, y2⟩ := qr12
                              have e : vr5 = -1 := by omega
                              rw [e] at y1
                              obtain ⟨z1, z2, z3, z4⟩ := y2 e
                              have q := qr18
                              have q4 : I14 (1 + 89 + 3 * Int.toNat v0) 4 = m + 1 := q.1.2.2.trans ((uI_o (show ¬ (220 = 1 ∧ 4 = 5) from fun e => absurd e.1 (Nat.ne_of_beq_eq_false rfl))).trans z2)
                              refine ⟨fun z => absurd (by omega) z, fun _ => ⟨(uI_o (show ¬ (1 = (1 + 89 + 3 * Int.toNat v0) ∧ 5 = 0) from by omega)).trans ((hW17 1 (5) (by omega)).trans (uJ_eqj (show 5 = 5 from by omega))), -1, m, y1, by decide, fun z => absurd z (by decide), fun _ => ⟨?_, z1, ⟨uJ_eq, (uJ_ne (show ¬ 3 = 0 from Nat.ne_of_beq_eq_false rfl)).trans (q.1.2.1.trans ((uI_o (show ¬ (220 = 1 ∧ 3 = 5) from fun e => absurd e.1 (Nat.ne_of_beq_eq_false rfl))).trans z3)), (uJ_ne (show ¬ 4 = 0 from Nat.ne_of_beq_eq_false rfl)).trans q4⟩, fun k hk => ⟨(uI_o (show ¬ (((1 + 89 + 3 * Int.toNat v0) + 1) = (1 + 89 + 3 * Int.toNat v0) ∧ k = 0) from by omega)).trans ((q.2.1 k (by omega)).trans ((uI_o (show ¬ (221 = 1 ∧ k = 5) from fun e => absurd e.1 (Nat.ne_of_beq_eq_false rfl))).trans (z4 k hk).1)), (uI_o (show ¬ (((1 + 89 + 3 * Int.toNat v0) + 2) = (1 + 89 + 3 * Int.toNat v0) ∧ k = 0) from by omega)).trans ((q.2.2 k (by omega)).trans ((uI_o (show ¬ (222 = 1 ∧ k = 5) from fun e => absurd e.1 (Nat.ne_of_beq_eq_false rfl))).trans (z4 k hk).2))⟩, fun k j h1 h2 h3 => (uI_o (show ¬ (k = (1 + 89 + 3 * Int.toNat v0) ∧ j = 0) from by omega)).trans ((hW17 k (j) (by omega)).trans ((uI_o (show ¬ (k = 1 ∧ j = 5) from by omega)).trans (hW9 k (j) (by omega))))⟩⟩⟩
                              · show ((uI I14 (1 + 89 + 3 * Int.toNat v0) 0 1) (1 + 89 + 3 * Int.toNat v0) 4) = _
                                omega))⟩
    ·
      exact ⟨rfl, fun hv hA' => hQ _ _ _ (FS.u hF rfl) (Rg.u hR7 (Pr_f rfl)) hA' (hv _ rfl) (fun ka ja hk => ((uI_o (show ¬ (ka = 1 ∧ ja = 5) from by first | (intro e; obtain ⟨rfl, rfl⟩ := e; exact hk (by decide)) | omega))).trans ((hW9 ka ja (by omega)))) ((by
                              obtain ⟨m, y1, _⟩ := qr12
                              refine ⟨fun z => absurd (by omega) z, fun _ => ⟨(uJ_eqj (show 5 = 5 from by omega)), vr5, m, y1, by omega, fun _ => ⟨wr_id (by unfold iR; omega), fun k j h1 h2 => (uI_o (show ¬ (k = 1 ∧ j = 5) from by omega)).trans (hW9 k (j) (by omega))⟩, fun z => absurd z (by omega)⟩⟩))⟩
  ·
    refine ⟨⟨_, rfl, (by decide)⟩, ?_⟩
    refine s_X11_refuse hF (e := 1) (by decide) ?_
    exact ⟨rfl, fun hv hA' => hQ _ _ _ hF (Rg.u hR (Pr_f rfl)) hA' (hv _ rfl) (fun ka ja hk => (uI_o (show ¬ (ka = 203 ∧ ja = 1) from by first | (intro e; obtain ⟨rfl, rfl⟩ := e; exact hk (by decide)) | omega))) (⟨fun _ => ⟨rfl, uI_o (show ¬ (1 = 203 ∧ 5 = 1) from fun e => absurd e.1 (Nat.ne_of_beq_eq_false rfl)), fun k j h1 h2 => uI_o (show ¬ (k = 203 ∧ j = 1) from by omega)⟩, fun z => absurd z (by omega)⟩)⟩
end GC
