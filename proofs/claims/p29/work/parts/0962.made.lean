/-! a piece made, field by field. Own work (scripts laid by wip/pm/gen34.py). -/
section MD
variable {G : pG} {d : Nat} {F : pF} {I : pI} {Q : Option pV → pF → pI → Prop}
theorem c_piece6_l (hF : FS F) (hR : Rg I) {v0 v1 v2 v3 v4 : Int} {h : Nat} (hh : HP F h) {q : Nat} (hp : PP F q) (hq2 : 20 ≤ q ∧ q + 4 < 90) (hh2 : 227 ≤ h) (hc : 1 ≤ I 1 1 ∧ I 1 1 ≤ 14) (hn : 0 ≤ v4 ∧ v4 ≤ 12) (hl : v4 ≤ I h 1) (hQ : ∀ (r : Int) (I' : pI), Rg I' → (∀ k j, ¬ (k = q + 1 ∨ (k = q ∧ j = 4)) → I' k j = I k j) → (r = (I 1 1) - 1) → (I' q 4 = v4) → (∀ j : Nat, (j : Int) < v4 → I' (q + 1) j = I (h + 1) j) → Q (some (vi r)) F I') : ∀ (mz : Nat) (i : Int) (J : pI), Rg J → (∀ k j, ¬ (k = q + 1 ∨ (k = q ∧ j = 4)) → J k j = I k j) → ((0 : Int) ≤ i) → ((i : Int) ≤ 12) → ((J q 4) = i) → (i ≤ v4) → ((J h 1) = I h 1) → (∀ j : Nat, (j : Int) < i → J (q + 1) j = I (h + 1) j) → (v4 - i).toNat < mz → GoN G (d + 1) kX11_piece NP NP 121 [some (vr 0), some (vi v0), some (vi v1), some (vi v2), some (vi v3), some (vi v4), some (vr h), some (vr q), some (vi i)] [] F J Q := by
  intro mz
  induction mz with
  | zero => intro i J hJ hV _ _ _ _ _ _ h; exact absurd h (Nat.not_lt_zero _)
  | succ mz ih =>
    intro i J hJ hV c100 c101 c102 c103 c104 c105 hm
    refine GoN_in (fun hok hA => ?_)
    have iiv0 : -2147483648 ≤ v0 ∧ v0 < 2147483648 := hok 1 _ rfl
    have iiv1 : -2147483648 ≤ v1 ∧ v1 < 2147483648 := hok 2 _ rfl
    have iiv2 : -2147483648 ≤ v2 ∧ v2 < 2147483648 := hok 3 _ rfl
    have iiv3 : -2147483648 ≤ v3 ∧ v3 < 2147483648 := hok 4 _ rfl
    have iiv4 : -2147483648 ≤ v4 ∧ v4 < 2147483648 := hok 5 _ rfl
    have iii : -2147483648 ≤ i ∧ i < 2147483648 := hok 8 _ rfl
    have a1 : -2147483648 ≤ (J q 4) ∧ (J q 4) < 2147483648 := hA.1 _ _
    have r2 : 0 ≤ (I h 1) ∧ (I h 1) ≤ 24 := hR.h hh.1 (by have := hh.2.2.1; omega)
    have u3 : (J h 1) = (I h 1) := hV _ _ (by first | decide | omega)
    have a4 : -2147483648 ≤ (J h 1) ∧ (J h 1) < 2147483648 := hA.1 _ _
    have r5 : 0 ≤ (J h 1) ∧ (J h 1) ≤ 24 := hJ.h hh.1 (by have := hh.2.2.1; omega)
    have u6 : (J 1 1) = (I 1 1) := hV _ _ (by first | decide | omega)
    have a7 : -2147483648 ≤ (J 1 1) ∧ (J 1 1) < 2147483648 := hA.1 _ _
    refine Go_wp (by decide) ckX11_piece [121] ?_
    refine ⟨fun (c8 : ((v4 : Int) ≤ i)) => ?_, fun (c8 : (¬ ((v4 : Int) ≤ i))) => ?_⟩
    ·
      refine ⟨_, rfl, (by decide), ?_⟩
      refine fun w0 hw0 => ?_; obtain rfl : w0 = some 1 := hw0.symm.trans (FS.g hF rfl)
      refine ⟨⟨_, rfl, (by decide)⟩, ?_⟩
      refine Call_wp (lv := [some (vr 1)]) (by decide) ckX8_pieces [] rfl rfl ?_
      refine ⟨_, rfl, (by decide), ?_⟩
      refine ⟨rfl, ?_⟩
      have n9 : -2147483648 ≤ (wr ((J 1 1) - 1)) ∧ (wr ((J 1 1) - 1)) < 2147483648 := wr_R _
      exact ⟨rfl, hQ _ _ hJ (fun ka ja hk => (hV ka ja (by omega))) (show (wr ((J 1 1) - 1)) = (I 1 1) - 1 from by first | omega | (simp only [wr, wl] at *; omega)) (show (J q 4) = v4 from by omega) (fun j hj => c105 j (by omega))⟩
    ·
      refine ⟨⟨_, hh.1, (by have := hh.2.2.1; show _ < 254; omega)⟩, ?_⟩
      refine Call_wp (lv := [some (vr h), some (vi i)]) (by decide) ckX7_numberAt [] rfl rfl ?_
      refine ⟨fun c => absurd c (show (¬ ((i : Int) < 0)) from by first | omega | (simp only [wr, wl] at *; omega)), fun _ => ?_⟩
      refine ⟨_, hh.1, (by have := hh.2.2.1; show _ < 254; omega), ?_⟩
      refine ⟨fun (c10 : (((J h 1) : Int) ≤ i)) => ?_, fun (c10 : (¬ (((J h 1) : Int) ≤ i))) => ?_⟩
      ·
        refine ⟨rfl, ?_⟩
        refine ⟨⟨_, hp.1.1, (by have := hp.2; show _ < 254; omega)⟩, ?_⟩
        refine Call_wp (lv := [some (vr q), some (vi 0)]) (by decide) ckX4_addAnswer [] rfl rfl ?_
        refine ⟨_, hp.1.1, (by have := hp.2; show _ < 254; omega), ?_⟩
        refine ⟨fun (c11 : (((J q 4) : Int) < 0)) => ?_, fun (c11 : (¬ (((J q 4) : Int) < 0))) => ?_⟩
        ·
          refine ⟨rfl, ?_⟩
          have n12 : (wr (i + 1)) = i + 1 := wr_id (show -2147483648 ≤ (i + 1 : Int) ∧ (i + 1 : Int) < 2147483648 from by omega)
          exact ih (wr (i + 1)) J hJ (fun ka ja hk => (hV ka ja (by omega))) (show (0 : Int) ≤ (wr (i + 1)) from by first | rfl | omega) (show ((wr (i + 1)) : Int) ≤ 12 from by first | rfl | omega) (show (J q 4) = (wr (i + 1)) from by first | rfl | omega) (show (wr (i + 1)) ≤ v4 from by first | rfl | omega) (show (J h 1) = I h 1 from by first | rfl | omega) (by exfalso; omega) (show (v4 - (wr (i + 1))).toNat < mz from by omega)
        ·
          refine ⟨_, hp.1.1, (by have := hp.2; show _ < 254; omega), ?_⟩
          refine ⟨fun (c13 : ((12 : Int) ≤ (J q 4))) => ?_, fun (c13 : (¬ ((12 : Int) ≤ (J q 4)))) => ?_⟩
          ·
            refine ⟨rfl, ?_⟩
            have n14 : (wr (i + 1)) = i + 1 := wr_id (show -2147483648 ≤ (i + 1 : Int) ∧ (i + 1 : Int) < 2147483648 from by omega)
            exact ih (wr (i + 1)) J hJ (fun ka ja hk => (hV ka ja (by omega))) (show (0 : Int) ≤ (wr (i + 1)) from by first | rfl | omega) (show ((wr (i + 1)) : Int) ≤ 12 from by first | rfl | omega) (show (J q 4) = (wr (i + 1)) from by first | rfl | omega) (show (wr (i + 1)) ≤ v4 from by first | rfl | omega) (show (J h 1) = I h 1 from by first | rfl | omega) (by exfalso; omega) (show (v4 - (wr (i + 1))).toNat < mz from by omega)
          ·
            refine ⟨_, hp.1.1, (by have := hp.2; show _ < 254; omega), ?_⟩
            refine fun w0 hw0 => ?_; obtain rfl : w0 = some (q + 1) := hw0.symm.trans hp.1.2.2.2.1
            refine ⟨_, hp.1.1, (by have := hp.2; show _ < 254; omega), ?_⟩
            refine ⟨_, hp.1.2.1, (by have := hp.2; show _ < 254; omega), (show (0 : Int) ≤ (J q 4) from by first | with_reducible assumption | omega | (simp only [wr, wl] at *; omega)), (show (J q 4) < (12 : Int) from by first | with_reducible assumption | omega | (simp only [wr, wl] at *; omega)), ?_⟩
            refine ⟨_, hp.1.1, (by have := hp.2; show _ < 254; omega), ?_⟩
            have u15 : ((uI J (q + 1) (Int.toNat (J q 4)) 0) q 4) = (J q 4) := uI_o (fun e => absurd e.1 (lay_ne hp.1.1 hp.1.2.1 (by decide)))
            refine ⟨_, hp.1.1, (by have := hp.2; show _ < 254; omega), ?_⟩
            refine ⟨rfl, ?_⟩
            have n16 : (wr (i + 1)) = i + 1 := wr_id (show -2147483648 ≤ (i + 1 : Int) ∧ (i + 1 : Int) < 2147483648 from by omega)
            have u17 : ((uI (uI J (q + 1) (Int.toNat (J q 4)) 0) q 4 (wr (((uI J (q + 1) (Int.toNat (J q 4)) 0) q 4) + 1))) q 4) = (wr (((uI J (q + 1) (Int.toNat (J q 4)) 0) q 4) + 1)) := uJ_eq
            have n18 : (wr (((uI J (q + 1) (Int.toNat (J q 4)) 0) q 4) + 1)) = ((uI J (q + 1) (Int.toNat (J q 4)) 0) q 4) + 1 := wr_id (show -2147483648 ≤ (((uI J (q + 1) (Int.toNat (J q 4)) 0) q 4) + 1 : Int) ∧ (((uI J (q + 1) (Int.toNat (J q 4)) 0) q 4) + 1 : Int) < 2147483648 from by omega)
            have u19 : ((uI (uI J (q + 1) (Int.toNat (J q 4)) 0) q 4 (wr (((uI J (q + 1) (Int.toNat (J q 4)) 0) q 4) + 1))) h 1) = (J h 1) := (uI_o (fun e => absurd e.1 (lay_ne hh.1 hp.1.1 (by decide)))).trans (uI_o (fun e => absurd e.1 (lay_ne hh.1 hp.1.2.1 (by decide))))
            have u20 : ((uI (uI J (q + 1) (Int.toNat (J q 4)) 0) q 4 (wr (((uI J (q + 1) (Int.toNat (J q 4)) 0) q 4) + 1))) 1 1) = (J 1 1) := (uI_o (fun e => absurd e.1 (lay_ne (show lay 1 = (8, 12) from rfl) hp.1.1 (by decide)))).trans (uI_o (fun e => absurd e.1 (lay_ne (show lay 1 = (8, 12) from rfl) hp.1.2.1 (by decide))))
            exact ih (wr (i + 1)) (uI (uI J (q + 1) (Int.toNat (J q 4)) 0) q 4 (wr (((uI J (q + 1) (Int.toNat (J q 4)) 0) q 4) + 1))) (Rg.u (Rg.u hJ (Pr_l hp.1.2.1 (by have := hp.2; omega) _ _ ⟨Or.inl (by decide), Or.inl (by decide), Or.inl (by decide)⟩)) (Pr_l hp.1.1 (by have := hp.2; omega) _ _ (by decide))) (fun ka ja hk => ((uI_o (show ¬ (ka = q ∧ ja = 4) from by have := hp.2; omega))).trans (((uI_o (show ¬ (ka = (q + 1) ∧ ja = (Int.toNat (J q 4))) from by have := hp.2; omega))).trans ((hV ka ja (by omega))))) (show (0 : Int) ≤ (wr (i + 1)) from by first | rfl | omega) (show ((wr (i + 1)) : Int) ≤ 12 from by first | rfl | omega) (show ((uI (uI J (q + 1) (Int.toNat (J q 4)) 0) q 4 (wr (((uI J (q + 1) (Int.toNat (J q 4)) 0) q 4) + 1))) q 4) = (wr (i + 1)) from by first | rfl | omega) (show (wr (i + 1)) ≤ v4 from by first | rfl | omega) (show ((uI (uI J (q + 1) (Int.toNat (J q 4)) 0) q 4 (wr (((uI J (q + 1) (Int.toNat (J q 4)) 0) q 4) + 1))) h 1) = I h 1 from by first | rfl | omega) (fun j hj => (uI_o (show ¬ ((q + 1) = q ∧ j = 4) from fun e => absurd e.1 (by omega))).trans (if e : j = (Int.toNat (J q 4)) then (by rw [e]; exact uJ_eq.trans (by rw [show (Int.toNat (J q 4)) = Int.toNat i from by omega]; first | rfl | omega)) else (uJ_ne e).trans (c105 j (by omega)))) (show (v4 - (wr (i + 1))).toNat < mz from by omega)
      ·
        refine ⟨fun c => absurd c (show (¬ ((24 : Int) ≤ i)) from by first | omega | (simp only [wr, wl] at *; omega)), fun _ => ?_⟩
        refine ⟨_, hh.1, (by have := hh.2.2.1; show _ < 254; omega), ?_⟩
        refine fun w0 hw0 => ?_; obtain rfl : w0 = some (h + 1) := hw0.symm.trans hh.2.2.2
        refine ⟨_, hh.2.1, (by have := hh.2.2.1; show _ < 254; omega), (show (0 : Int) ≤ i from by first | with_reducible assumption | omega | (simp only [wr, wl] at *; omega)), (show i < (24 : Int) from by first | with_reducible assumption | omega | (simp only [wr, wl] at *; omega)), ?_⟩
        have u21 : (J (h + 1) (Int.toNat i)) = (I (h + 1) (Int.toNat i)) := hV _ _ (by first | decide | omega)
        have a22 : -2147483648 ≤ (J (h + 1) (Int.toNat i)) ∧ (J (h + 1) (Int.toNat i)) < 2147483648 := hA.1 _ _
        refine ⟨rfl, ?_⟩
        refine ⟨⟨_, hp.1.1, (by have := hp.2; show _ < 254; omega)⟩, ?_⟩
        refine Call_wp (lv := [some (vr q), some (vi (J (h + 1) (Int.toNat i)))]) (by decide) ckX4_addAnswer [] rfl rfl ?_
        refine ⟨_, hp.1.1, (by have := hp.2; show _ < 254; omega), ?_⟩
        refine ⟨fun (c23 : (((J q 4) : Int) < 0)) => ?_, fun (c23 : (¬ (((J q 4) : Int) < 0))) => ?_⟩
        ·
          refine ⟨rfl, ?_⟩
          have n24 : (wr (i + 1)) = i + 1 := wr_id (show -2147483648 ≤ (i + 1 : Int) ∧ (i + 1 : Int) < 2147483648 from by omega)
          exact ih (wr (i + 1)) J hJ (fun ka ja hk => (hV ka ja (by omega))) (show (0 : Int) ≤ (wr (i + 1)) from by first | rfl | omega) (show ((wr (i + 1)) : Int) ≤ 12 from by first | rfl | omega) (show (J q 4) = (wr (i + 1)) from by first | rfl | omega) (show (wr (i + 1)) ≤ v4 from by first | rfl | omega) (show (J h 1) = I h 1 from by first | rfl | omega) (by exfalso; omega) (show (v4 - (wr (i + 1))).toNat < mz from by omega)
        ·
          refine ⟨_, hp.1.1, (by have := hp.2; show _ < 254; omega), ?_⟩
          refine ⟨fun (c25 : ((12 : Int) ≤ (J q 4))) => ?_, fun (c25 : (¬ ((12 : Int) ≤ (J q 4)))) => ?_⟩
          ·
            refine ⟨rfl, ?_⟩
            have n26 : (wr (i + 1)) = i + 1 := wr_id (show -2147483648 ≤ (i + 1 : Int) ∧ (i + 1 : Int) < 2147483648 from by omega)
            exact ih (wr (i + 1)) J hJ (fun ka ja hk => (hV ka ja (by omega))) (show (0 : Int) ≤ (wr (i + 1)) from by first | rfl | omega) (show ((wr (i + 1)) : Int) ≤ 12 from by first | rfl | omega) (show (J q 4) = (wr (i + 1)) from by first | rfl | omega) (show (wr (i + 1)) ≤ v4 from by first | rfl | omega) (show (J h 1) = I h 1 from by first | rfl | omega) (by exfalso; omega) (show (v4 - (wr (i + 1))).toNat < mz from by omega)
          ·
            refine ⟨_, hp.1.1, (by have := hp.2; show _ < 254; omega), ?_⟩
            refine fun w0 hw0 => ?_; obtain rfl : w0 = some (q + 1) := hw0.symm.trans hp.1.2.2.2.1
            refine ⟨_, hp.1.1, (by have := hp.2; show _ < 254; omega), ?_⟩
            refine ⟨_, hp.1.2.1, (by have := hp.2; show _ < 254; omega), (show (0 : Int) ≤ (J q 4) from by first | with_reducible assumption | omega | (simp only [wr, wl] at *; omega)), (show (J q 4) < (12 : Int) from by first | with_reducible assumption | omega | (simp only [wr, wl] at *; omega)), ?_⟩
            refine ⟨_, hp.1.1, (by have := hp.2; show _ < 254; omega), ?_⟩
            have u27 : ((uI J (q + 1) (Int.toNat (J q 4)) (J (h + 1) (Int.toNat i))) q 4) = (J q 4) := uI_o (fun e => absurd e.1 (lay_ne hp.1.1 hp.1.2.1 (by decide)))
            refine ⟨_, hp.1.1, (by have := hp.2; show _ < 254; omega), ?_⟩
            refine ⟨rfl, ?_⟩
            have n28 : (wr (i + 1)) = i + 1 := wr_id (show -2147483648 ≤ (i + 1 : Int) ∧ (i + 1 : Int) < 2147483648 from by omega)
            have u29 : ((uI (uI J (q + 1) (Int.toNat (J q 4)) (J (h + 1) (Int.toNat i))) q 4 (wr (((uI J (q + 1) (Int.toNat (J q 4)) (J (h + 1) (Int.toNat i))) q 4) + 1))) q 4) = (wr (((uI J (q + 1) (Int.toNat (J q 4)) (J (h + 1) (Int.toNat i))) q 4) + 1)) := uJ_eq
            have n30 : (wr (((uI J (q + 1) (Int.toNat (J q 4)) (J (h + 1) (Int.toNat i))) q 4) + 1)) = ((uI J (q + 1) (Int.toNat (J q 4)) (J (h + 1) (Int.toNat i))) q 4) + 1 := wr_id (show -2147483648 ≤ (((uI J (q + 1) (Int.toNat (J q 4)) (J (h + 1) (Int.toNat i))) q 4) + 1 : Int) ∧ (((uI J (q + 1) (Int.toNat (J q 4)) (J (h + 1) (Int.toNat i))) q 4) + 1 : Int) < 2147483648 from by omega)
            have u31 : ((uI (uI J (q + 1) (Int.toNat (J q 4)) (J (h + 1) (Int.toNat i))) q 4 (wr (((uI J (q + 1) (Int.toNat (J q 4)) (J (h + 1) (Int.toNat i))) q 4) + 1))) h 1) = (J h 1) := (uI_o (fun e => absurd e.1 (lay_ne hh.1 hp.1.1 (by decide)))).trans (uI_o (fun e => absurd e.1 (lay_ne hh.1 hp.1.2.1 (by decide))))
            have u32 : ((uI (uI J (q + 1) (Int.toNat (J q 4)) (J (h + 1) (Int.toNat i))) q 4 (wr (((uI J (q + 1) (Int.toNat (J q 4)) (J (h + 1) (Int.toNat i))) q 4) + 1))) 1 1) = (J 1 1) := (uI_o (fun e => absurd e.1 (lay_ne (show lay 1 = (8, 12) from rfl) hp.1.1 (by decide)))).trans (uI_o (fun e => absurd e.1 (lay_ne (show lay 1 = (8, 12) from rfl) hp.1.2.1 (by decide))))
            exact ih (wr (i + 1)) (uI (uI J (q + 1) (Int.toNat (J q 4)) (J (h + 1) (Int.toNat i))) q 4 (wr (((uI J (q + 1) (Int.toNat (J q 4)) (J (h + 1) (Int.toNat i))) q 4) + 1))) (Rg.u (Rg.u hJ (Pr_l hp.1.2.1 (by have := hp.2; omega) _ _ ⟨Or.inl (by decide), Or.inl (by decide), Or.inl (by decide)⟩)) (Pr_l hp.1.1 (by have := hp.2; omega) _ _ (by decide))) (fun ka ja hk => ((uI_o (show ¬ (ka = q ∧ ja = 4) from by have := hp.2; omega))).trans (((uI_o (show ¬ (ka = (q + 1) ∧ ja = (Int.toNat (J q 4))) from by have := hp.2; omega))).trans ((hV ka ja (by omega))))) (show (0 : Int) ≤ (wr (i + 1)) from by first | rfl | omega) (show ((wr (i + 1)) : Int) ≤ 12 from by first | rfl | omega) (show ((uI (uI J (q + 1) (Int.toNat (J q 4)) (J (h + 1) (Int.toNat i))) q 4 (wr (((uI J (q + 1) (Int.toNat (J q 4)) (J (h + 1) (Int.toNat i))) q 4) + 1))) q 4) = (wr (i + 1)) from by first | rfl | omega) (show (wr (i + 1)) ≤ v4 from by first | rfl | omega) (show ((uI (uI J (q + 1) (Int.toNat (J q 4)) (J (h + 1) (Int.toNat i))) q 4 (wr (((uI J (q + 1) (Int.toNat (J q 4)) (J (h + 1) (Int.toNat i))) q 4) + 1))) h 1) = I h 1 from by first | rfl | omega) (fun j hj => (uI_o (show ¬ ((q + 1) = q ∧ j = 4) from fun e => absurd e.1 (by omega))).trans (if e : j = (Int.toNat (J q 4)) then (by rw [e]; exact uJ_eq.trans (by rw [show (Int.toNat (J q 4)) = Int.toNat i from by omega]; first | rfl | omega)) else (uJ_ne e).trans (c105 j (by omega)))) (show (v4 - (wr (i + 1))).toNat < mz from by omega)
theorem c_piece6 (hF : FS F) (hR : Rg I) {v0 v1 v2 v3 v4 : Int} (hc : 0 ≤ I 1 1 ∧ I 1 1 ≤ 14) (hQ : ∀ (r : Int) (I' : pI), Rg I' → AR I' → iR r → (∀ k j, ¬ (k = 203 ∨ (20 ≤ k ∧ k < 90) ∨ (k = 1 ∧ (j = 1))) → I' k j = I k j) → ((PT r (I' 1 1) (I 1 1) (VA v0 v1 v2 v3 v4) (I (227 + 2 * Int.toNat v3) 0) (GD (I ((227 + 2 * Int.toNat v3) + 1)) (I (227 + 2 * Int.toNat v3) 1) v4 0 9999)) ∧ (∀ k j, 20 ≤ k → k < 20 + 5 * Int.toNat (I 1 1) → I' k j = I k j) ∧ (I' 1 1 = I 1 1 + 1 → I' (20 + 5 * Int.toNat (I 1 1)) 0 = v0 ∧ I' (20 + 5 * Int.toNat (I 1 1)) 1 = v1 ∧ I' (20 + 5 * Int.toNat (I 1 1)) 2 = v2 ∧ I' (20 + 5 * Int.toNat (I 1 1)) 4 = v4 ∧ I' ((20 + 5 * Int.toNat (I 1 1)) + 2) 2 = 0 ∧ ∀ j : Nat, (j : Int) < v4 → I' ((20 + 5 * Int.toNat (I 1 1)) + 1) j = I ((227 + 2 * Int.toNat v3) + 1) j)) → Q (some (vi r)) F I') : CallN G (d + 3) kX11_piece [vr 0, vi v0, vi v1, vi v2, vi v3, vi v4] NP F I Q := by
  refine CallN_in (fun hok hA => CallN_out ?_)
  have iv0 : -2147483648 ≤ v0 ∧ v0 < 2147483648 := hok (vi v0) (by simp)
  have iv1 : -2147483648 ≤ v1 ∧ v1 < 2147483648 := hok (vi v1) (by simp)
  have iv2 : -2147483648 ≤ v2 ∧ v2 < 2147483648 := hok (vi v2) (by simp)
  have iv3 : -2147483648 ≤ v3 ∧ v3 < 2147483648 := hok (vi v3) (by simp)
  have iv4 : -2147483648 ≤ v4 ∧ v4 < 2147483648 := hok (vi v4) (by simp)
  refine Call_wp (lv := [some (vr 0), some (vi v0), some (vi v1), some (vi v2), some (vi v3), some (vi v4), none, none, none]) (by decide) ckX11_piece [121] rfl rfl ?_
  refine ⟨⟨_, rfl, (by decide)⟩, ?_⟩
  refine s_X11_sheetAt hF (fun (w1 : (0 ≤ v3 ∧ v3 ≤ 3)) => ?_) (fun (w1 : ¬ (0 ≤ v3 ∧ v3 ≤ 3)) => ?_)
  ·
    have hp2 : HP F (227 + 2 * Int.toNat v3) := HP_of hF w1
    refine s_X11_within (fun (w3 : ((0 : Int) ≤ v0 ∧ (v0 : Int) ≤ 5)) => ?_) (fun (w3 : ¬ ((0 : Int) ≤ v0 ∧ (v0 : Int) ≤ 5)) => ?_)
    ·
      refine ⟨fun c => absurd c (show (¬ ((1 : Int) = 0)) from by decide), fun _ => ?_⟩
      refine s_X11_isLot (fun (w4 : ((0 : Int) ≤ v1 ∧ (v1 : Int) ≤ 3)) => ?_) (fun (w4 : ¬ ((0 : Int) ≤ v1 ∧ (v1 : Int) ≤ 3)) => ?_)
      ·
        refine ⟨fun c => absurd c (show (¬ ((1 : Int) = 0)) from by decide), fun _ => ?_⟩
        refine s_X11_within (fun (w5 : ((1 : Int) ≤ v2 ∧ (v2 : Int) ≤ 99)) => ?_) (fun (w5 : ¬ ((1 : Int) ≤ v2 ∧ (v2 : Int) ≤ 99)) => ?_)
        ·
          refine ⟨fun c => absurd c (show (¬ ((1 : Int) = 0)) from by decide), fun _ => ?_⟩
          refine s_X11_within (fun (w6 : ((2 : Int) ≤ v4 ∧ (v4 : Int) ≤ 12)) => ?_) (fun (w6 : ¬ ((2 : Int) ≤ v4 ∧ (v4 : Int) ≤ 12)) => ?_)
          ·
            refine ⟨fun _ => ?_, fun c => absurd c (show (¬ (1 : Int) = 0) from by decide)⟩
            refine ⟨⟨_, hp2.1, (by have := hp2.2.2.1; show _ < 254; omega)⟩, ?_⟩
            refine Call_wp (lv := [some (vr (227 + 2 * Int.toNat v3))]) (by decide) ckX7_isMissing [] rfl rfl ?_
            refine ⟨_, hp2.1, (by have := hp2.2.2.1; show _ < 254; omega), ?_⟩
            have a7 : -2147483648 ≤ (I (227 + 2 * Int.toNat v3) 0) ∧ (I (227 + 2 * Int.toNat v3) 0) < 2147483648 := hA.1 _ _
            refine ⟨fun (c8 : (¬ ((I (227 + 2 * Int.toNat v3) 0) : Int) = 0)) => ?_, fun (c8 : (((I (227 + 2 * Int.toNat v3) 0) : Int) = 0)) => ?_⟩
            ·
              refine ⟨rfl, (by decide), ?_⟩
              refine ⟨fun _ => ?_, fun c => absurd (show ((0 : Int) = 0) from by decide) c⟩
              refine ⟨⟨_, hp2.1, (by have := hp2.2.2.1; show _ < 254; omega)⟩, ?_⟩
              refine c_begins4 (v0 := v4) (v1 := 0) (v2 := 9999) hF hR hp2 (by omega) (fun vr9 hr10 q11 qr12 => ?_)
              have hr10 : -2147483648 ≤ vr9 ∧ vr9 < 2147483648 := hr10
              have q11 : 0 ≤ vr9 ∧ vr9 ≤ 1 := q11
              refine ⟨fun (c13 : (¬ (vr9 : Int) = 0)) => ?_, fun (c13 : ((vr9 : Int) = 0)) => ?_⟩
              ·
                refine ⟨_, rfl, (by decide), ?_⟩
                refine fun w0 hw0 => ?_; obtain rfl : w0 = some 1 := hw0.symm.trans (FS.g hF rfl)
                refine ⟨⟨_, rfl, (by decide)⟩, ?_⟩
                refine Call_wp (lv := [some (vr 1)]) (by decide) ckX8_addPiece [] rfl rfl ?_
                refine ⟨_, rfl, (by decide), ?_⟩
                have a14 : -2147483648 ≤ (I 1 1) ∧ (I 1 1) < 2147483648 := hA.1 _ _
                refine ⟨fun (c15 : (((I 1 1) : Int) < 0)) => ?_, fun (c15 : (¬ (((I 1 1) : Int) < 0))) => ?_⟩
                ·
                  refine ⟨rfl, ?_⟩
                  refine ⟨⟨_, rfl, (by decide)⟩, ?_⟩
                  refine s_X11_refuse hF (e := 4) (by decide) ?_
                  have hN16 : ((uI I 203 4 (wr ((I 203 4) + 1))) 1 1) = (I 1 1) := by first | rfl | omega
                  exact ⟨rfl, fun hv hA' => hQ _ _ (Rg.u hR (Pr_f rfl)) hA' (hv _ rfl) (fun ka ja hk => (uI_o (show ¬ (ka = 203 ∧ ja = 4) from by first | (intro e; obtain ⟨rfl, rfl⟩ := e; exact hk (by decide)) | omega))) (⟨show PT (-1000004) ((uI I 203 4 (wr ((I 203 4) + 1))) 1 1) (I 1 1) (VA v0 v1 v2 v3 v4) (I (227 + 2 * Int.toNat v3) 0) (GD (I ((227 + 2 * Int.toNat v3) + 1)) (I (227 + 2 * Int.toNat v3) 1) v4 0 9999) from by
                                        refine ⟨fun z => ?_, fun z b => ?_, fun z b => ⟨fun g => ?_, fun g e => ?_, fun g e => ?_⟩⟩
                                        all_goals first | (unfold VA at z; omega) | (exact absurd (qr12.1 (by omega)) g) | (have hg := qr12.2 g; unfold VA at z; omega), fun k j _ _ => uI_o (show ¬ (k = 203 ∧ j = 4) from by omega), fun z => absurd (show ((uI I 203 4 (wr ((I 203 4) + 1))) 1 1) = I 1 1 + 1 from z) (by omega)⟩)⟩
                ·
                  refine ⟨_, rfl, (by decide), ?_⟩
                  refine ⟨fun (c17 : (((I 1 1) : Int) < 14)) => ?_, fun (c17 : (¬ (((I 1 1) : Int) < 14))) => ?_⟩
                  ·
                    refine ⟨_, rfl, (by decide), ?_⟩
                    refine ⟨_, rfl, (by decide), ?_⟩
                    refine ⟨_, rfl, (by decide), ?_⟩
                    refine fun w0 hw0 => ?_; obtain rfl : w0 = some 2 := hw0.symm.trans (FS.g hF rfl)
                    refine ⟨_, rfl, (by decide), ?_⟩
                    have n18 : (wr ((I 1 1) + 1)) = (I 1 1) + 1 := wr_id (show -2147483648 ≤ ((I 1 1) + 1 : Int) ∧ ((I 1 1) + 1 : Int) < 2147483648 from by omega)
                    have n19 : (wr ((wr ((I 1 1) + 1)) - 1)) = (wr ((I 1 1) + 1)) - 1 := wr_id (show -2147483648 ≤ ((wr ((I 1 1) + 1)) - 1 : Int) ∧ ((wr ((I 1 1) + 1)) - 1 : Int) < 2147483648 from by omega)
                    refine ⟨_, _, (by decide), rfl, (by decide), (show (0 : Int) ≤ (wr ((wr ((I 1 1) + 1)) - 1)) from by first | with_reducible assumption | omega | (simp only [wr, wl] at *; omega)), (show (wr ((wr ((I 1 1) + 1)) - 1)) < (14 : Int) from by first | with_reducible assumption | omega | (simp only [wr, wl] at *; omega)), ?_⟩
                    refine fun w0 hw0 => ?_; obtain rfl : w0 = some (1 + 19 + 5 * Int.toNat (wr ((wr ((I 1 1) + 1)) - 1))) := hw0.symm.trans (FS_pc hF (S := 1) (i := Int.toNat (wr ((wr ((I 1 1) + 1)) - 1))) (Or.inl rfl) (by omega))
                    refine ⟨rfl, ?_⟩
                    refine ⟨⟨_, (PP_of (v := (wr ((wr ((I 1 1) + 1)) - 1))) hF (by omega)).1.1, (by have := (PP_of (v := (wr ((wr ((I 1 1) + 1)) - 1))) hF (by omega)).2; show _ < 254; omega)⟩, ?_⟩
                    refine Call_wp (lv := [some (vr (1 + 19 + 5 * Int.toNat (wr ((wr ((I 1 1) + 1)) - 1)))), some (vi v0), some (vi v1), some (vi v2)]) (by decide) ckX4_become [] rfl rfl ?_
                    refine ⟨_, (PP_of (v := (wr ((wr ((I 1 1) + 1)) - 1))) hF (by omega)).1.1, (by have := (PP_of (v := (wr ((wr ((I 1 1) + 1)) - 1))) hF (by omega)).2; show _ < 254; omega), ?_⟩
                    refine ⟨_, (PP_of (v := (wr ((wr ((I 1 1) + 1)) - 1))) hF (by omega)).1.1, (by have := (PP_of (v := (wr ((wr ((I 1 1) + 1)) - 1))) hF (by omega)).2; show _ < 254; omega), ?_⟩
                    refine ⟨_, (PP_of (v := (wr ((wr ((I 1 1) + 1)) - 1))) hF (by omega)).1.1, (by have := (PP_of (v := (wr ((wr ((I 1 1) + 1)) - 1))) hF (by omega)).2; show _ < 254; omega), ?_⟩
                    refine ⟨_, (PP_of (v := (wr ((wr ((I 1 1) + 1)) - 1))) hF (by omega)).1.1, (by have := (PP_of (v := (wr ((wr ((I 1 1) + 1)) - 1))) hF (by omega)).2; show _ < 254; omega), ?_⟩
                    refine ⟨_, (PP_of (v := (wr ((wr ((I 1 1) + 1)) - 1))) hF (by omega)).1.1, (by have := (PP_of (v := (wr ((wr ((I 1 1) + 1)) - 1))) hF (by omega)).2; show _ < 254; omega), ?_⟩
                    refine fun w0 hw0 => ?_; obtain rfl : w0 = some ((1 + 19 + 5 * Int.toNat (wr ((wr ((I 1 1) + 1)) - 1))) + 2) := hw0.symm.trans (PP_of (v := (wr ((wr ((I 1 1) + 1)) - 1))) hF (by omega)).1.2.2.2.2.1
                    refine ⟨⟨_, (PP_of (v := (wr ((wr ((I 1 1) + 1)) - 1))) hF (by omega)).r.1.1, (by have := (PP_of (v := (wr ((wr ((I 1 1) + 1)) - 1))) hF (by omega)).r.2; show _ < 254; omega)⟩, ?_⟩
                    refine Call_wp (lv := [some (vr ((1 + 19 + 5 * Int.toNat (wr ((wr ((I 1 1) + 1)) - 1))) + 2))]) (by decide) ckX6_clear [] rfl rfl ?_
                    refine ⟨_, (PP_of (v := (wr ((wr ((I 1 1) + 1)) - 1))) hF (by omega)).r.1.1, (by have := (PP_of (v := (wr ((wr ((I 1 1) + 1)) - 1))) hF (by omega)).r.2; show _ < 254; omega), ?_⟩
                    refine ⟨rfl, ?_⟩
                    refine ⟨rfl, ?_⟩
                    have u20 : ((uI (uI (uI (uI (uI (uI I 1 1 (wr ((I 1 1) + 1))) (1 + 19 + 5 * Int.toNat (wr ((wr ((I 1 1) + 1)) - 1))) 0 v0) (1 + 19 + 5 * Int.toNat (wr ((wr ((I 1 1) + 1)) - 1))) 1 v1) (1 + 19 + 5 * Int.toNat (wr ((wr ((I 1 1) + 1)) - 1))) 2 v2) (1 + 19 + 5 * Int.toNat (wr ((wr ((I 1 1) + 1)) - 1))) 4 0) ((1 + 19 + 5 * Int.toNat (wr ((wr ((I 1 1) + 1)) - 1))) + 2) 2 0) (1 + 19 + 5 * Int.toNat (wr ((wr ((I 1 1) + 1)) - 1))) 4) = 0 := (uI_o (fun e => absurd e.1 (lay_ne (PP_of (v := (wr ((wr ((I 1 1) + 1)) - 1))) hF (by omega)).1.1 (PP_of (v := (wr ((wr ((I 1 1) + 1)) - 1))) hF (by omega)).r.1.1 (by decide)))).trans (uJ_eq)
                    have r21 : 0 ≤ (I (227 + 2 * Int.toNat v3) 1) ∧ (I (227 + 2 * Int.toNat v3) 1) ≤ 24 := hR.h hp2.1 (by have := hp2.2.2.1; omega)
                    have u22 : ((uI (uI (uI (uI (uI (uI I 1 1 (wr ((I 1 1) + 1))) (1 + 19 + 5 * Int.toNat (wr ((wr ((I 1 1) + 1)) - 1))) 0 v0) (1 + 19 + 5 * Int.toNat (wr ((wr ((I 1 1) + 1)) - 1))) 1 v1) (1 + 19 + 5 * Int.toNat (wr ((wr ((I 1 1) + 1)) - 1))) 2 v2) (1 + 19 + 5 * Int.toNat (wr ((wr ((I 1 1) + 1)) - 1))) 4 0) ((1 + 19 + 5 * Int.toNat (wr ((wr ((I 1 1) + 1)) - 1))) + 2) 2 0) (227 + 2 * Int.toNat v3) 1) = (I (227 + 2 * Int.toNat v3) 1) := (uI_o (fun e => absurd e.1 (lay_ne hp2.1 (PP_of (v := (wr ((wr ((I 1 1) + 1)) - 1))) hF (by omega)).r.1.1 (by decide)))).trans ((uI_o (fun e => absurd e.1 (lay_ne hp2.1 (PP_of (v := (wr ((wr ((I 1 1) + 1)) - 1))) hF (by omega)).1.1 (by decide)))).trans ((uI_o (fun e => absurd e.1 (lay_ne hp2.1 (PP_of (v := (wr ((wr ((I 1 1) + 1)) - 1))) hF (by omega)).1.1 (by decide)))).trans ((uI_o (fun e => absurd e.1 (lay_ne hp2.1 (PP_of (v := (wr ((wr ((I 1 1) + 1)) - 1))) hF (by omega)).1.1 (by decide)))).trans ((uI_o (fun e => absurd e.1 (lay_ne hp2.1 (PP_of (v := (wr ((wr ((I 1 1) + 1)) - 1))) hF (by omega)).1.1 (by decide)))).trans (uI_o (fun e => absurd e.1 (lay_ne hp2.1 (show lay 1 = (8, 12) from rfl) (by decide))))))))
                    have u24 : ((uI (uI (uI (uI (uI (uI I 1 1 (wr ((I 1 1) + 1))) (1 + 19 + 5 * Int.toNat (wr ((wr ((I 1 1) + 1)) - 1))) 0 v0) (1 + 19 + 5 * Int.toNat (wr ((wr ((I 1 1) + 1)) - 1))) 1 v1) (1 + 19 + 5 * Int.toNat (wr ((wr ((I 1 1) + 1)) - 1))) 2 v2) (1 + 19 + 5 * Int.toNat (wr ((wr ((I 1 1) + 1)) - 1))) 4 0) ((1 + 19 + 5 * Int.toNat (wr ((wr ((I 1 1) + 1)) - 1))) + 2) 2 0) 1 1) = (wr ((I 1 1) + 1)) := (uI_o (fun e => absurd e.1 (lay_ne (show lay 1 = (8, 12) from rfl) (PP_of (v := (wr ((wr ((I 1 1) + 1)) - 1))) hF (by omega)).r.1.1 (by decide)))).trans ((uI_o (fun e => absurd e.1 (lay_ne (show lay 1 = (8, 12) from rfl) (PP_of (v := (wr ((wr ((I 1 1) + 1)) - 1))) hF (by omega)).1.1 (by decide)))).trans ((uI_o (fun e => absurd e.1 (lay_ne (show lay 1 = (8, 12) from rfl) (PP_of (v := (wr ((wr ((I 1 1) + 1)) - 1))) hF (by omega)).1.1 (by decide)))).trans ((uI_o (fun e => absurd e.1 (lay_ne (show lay 1 = (8, 12) from rfl) (PP_of (v := (wr ((wr ((I 1 1) + 1)) - 1))) hF (by omega)).1.1 (by decide)))).trans ((uI_o (fun e => absurd e.1 (lay_ne (show lay 1 = (8, 12) from rfl) (PP_of (v := (wr ((wr ((I 1 1) + 1)) - 1))) hF (by omega)).1.1 (by decide)))).trans (uJ_eq)))))
                    have u25 : ((uI (uI (uI (uI (uI (uI I 1 1 (wr ((I 1 1) + 1))) (1 + 19 + 5 * Int.toNat (wr ((wr ((I 1 1) + 1)) - 1))) 0 v0) (1 + 19 + 5 * Int.toNat (wr ((wr ((I 1 1) + 1)) - 1))) 1 v1) (1 + 19 + 5 * Int.toNat (wr ((wr ((I 1 1) + 1)) - 1))) 2 v2) (1 + 19 + 5 * Int.toNat (wr ((wr ((I 1 1) + 1)) - 1))) 4 0) ((1 + 19 + 5 * Int.toNat (wr ((wr ((I 1 1) + 1)) - 1))) + 2) 2 0) 1 1) = (wr ((I 1 1) + 1)) := (uI_o (fun e => absurd e.1 (lay_ne (show lay 1 = (8, 12) from rfl) (PP_of (v := (wr ((wr ((I 1 1) + 1)) - 1))) hF (by omega)).r.1.1 (by decide)))).trans ((uI_o (fun e => absurd e.1 (lay_ne (show lay 1 = (8, 12) from rfl) (PP_of (v := (wr ((wr ((I 1 1) + 1)) - 1))) hF (by omega)).1.1 (by decide)))).trans ((uI_o (fun e => absurd e.1 (lay_ne (show lay 1 = (8, 12) from rfl) (PP_of (v := (wr ((wr ((I 1 1) + 1)) - 1))) hF (by omega)).1.1 (by decide)))).trans ((uI_o (fun e => absurd e.1 (lay_ne (show lay 1 = (8, 12) from rfl) (PP_of (v := (wr ((wr ((I 1 1) + 1)) - 1))) hF (by omega)).1.1 (by decide)))).trans ((uI_o (fun e => absurd e.1 (lay_ne (show lay 1 = (8, 12) from rfl) (PP_of (v := (wr ((wr ((I 1 1) + 1)) - 1))) hF (by omega)).1.1 (by decide)))).trans (uJ_eq)))))
                    have hg27 := (qr12.1 (by omega)).1
                    refine c_piece6_l hF (Rg.u (Rg.u (Rg.u (Rg.u (Rg.u (Rg.u hR (Pr_f rfl)) (Pr_l (PP_of (v := (wr ((wr ((I 1 1) + 1)) - 1))) hF (by omega)).1.1 (by have := (PP_of (v := (wr ((wr ((I 1 1) + 1)) - 1))) hF (by omega)).2; omega) _ _ (by decide))) (Pr_l (PP_of (v := (wr ((wr ((I 1 1) + 1)) - 1))) hF (by omega)).1.1 (by have := (PP_of (v := (wr ((wr ((I 1 1) + 1)) - 1))) hF (by omega)).2; omega) _ _ (by decide))) (Pr_l (PP_of (v := (wr ((wr ((I 1 1) + 1)) - 1))) hF (by omega)).1.1 (by have := (PP_of (v := (wr ((wr ((I 1 1) + 1)) - 1))) hF (by omega)).2; omega) _ _ (by decide))) (Pr_l (PP_of (v := (wr ((wr ((I 1 1) + 1)) - 1))) hF (by omega)).1.1 (by have := (PP_of (v := (wr ((wr ((I 1 1) + 1)) - 1))) hF (by omega)).2; omega) _ _ (by decide))) (Pr_l (PP_of (v := (wr ((wr ((I 1 1) + 1)) - 1))) hF (by omega)).r.1.1 (by have := (PP_of (v := (wr ((wr ((I 1 1) + 1)) - 1))) hF (by omega)).r.2; omega) _ _ (by decide))) hp2 (PP_of (v := (wr ((wr ((I 1 1) + 1)) - 1))) hF (by omega)) (by omega) (by omega) (by omega) (by omega) (by omega) (fun r I' g1 g2 g3 g4 g5 hv hA' => hQ _ _ g1 hA' (hv _ rfl) (fun ka ja hk => (g2 ka ja (by omega)).trans (((uI_o (show ¬ (ka = ((1 + 19 + 5 * Int.toNat (wr ((wr ((I 1 1) + 1)) - 1))) + 2) ∧ ja = 2) from by have := (PP_of (v := (wr ((wr ((I 1 1) + 1)) - 1))) hF (by omega)).r.2; omega))).trans (((uI_o (show ¬ (ka = (1 + 19 + 5 * Int.toNat (wr ((wr ((I 1 1) + 1)) - 1))) ∧ ja = 4) from by have := (PP_of (v := (wr ((wr ((I 1 1) + 1)) - 1))) hF (by omega)).2; omega))).trans (((uI_o (show ¬ (ka = (1 + 19 + 5 * Int.toNat (wr ((wr ((I 1 1) + 1)) - 1))) ∧ ja = 2) from by have := (PP_of (v := (wr ((wr ((I 1 1) + 1)) - 1))) hF (by omega)).2; omega))).trans (((uI_o (show ¬ (ka = (1 + 19 + 5 * Int.toNat (wr ((wr ((I 1 1) + 1)) - 1))) ∧ ja = 1) from by have := (PP_of (v := (wr ((wr ((I 1 1) + 1)) - 1))) hF (by omega)).2; omega))).trans (((uI_o (show ¬ (ka = (1 + 19 + 5 * Int.toNat (wr ((wr ((I 1 1) + 1)) - 1))) ∧ ja = 0) from by have := (PP_of (v := (wr ((wr ((I 1 1) + 1)) - 1))) hF (by omega)).2; omega))).trans ((uI_o (show ¬ (ka = 1 ∧ ja = 1) from by first | (intro e; obtain ⟨rfl, rfl⟩ := e; exact hk (by decide)) | omega))))))))) ⟨by
                              have g6 : (I' 1 1) = I 1 1 + 1 := (g2 1 1 (by omega)).trans (((uI_o (show ¬ (1 = ((1 + 19 + 5 * Int.toNat (wr ((wr ((I 1 1) + 1)) - 1))) + 2) ∧ 1 = 2) from by omega)).trans ((uI_o (show ¬ (1 = (1 + 19 + 5 * Int.toNat (wr ((wr ((I 1 1) + 1)) - 1))) ∧ 1 = 4) from by omega)).trans ((uI_o (show ¬ (1 = (1 + 19 + 5 * Int.toNat (wr ((wr ((I 1 1) + 1)) - 1))) ∧ 1 = 2) from by omega)).trans ((uI_o (show ¬ (1 = (1 + 19 + 5 * Int.toNat (wr ((wr ((I 1 1) + 1)) - 1))) ∧ 1 = 1) from by omega)).trans ((uI_o (show ¬ (1 = (1 + 19 + 5 * Int.toNat (wr ((wr ((I 1 1) + 1)) - 1))) ∧ 1 = 0) from by omega)).trans (uJ_eq.trans (by omega))))))))
                              refine ⟨fun z => ?_, fun z b => ?_, fun z b => ⟨fun g => ?_, fun g e => ?_, fun g e => ?_⟩⟩
                              all_goals first | (unfold VA at z; omega) | (exact absurd (qr12.1 (by omega)) g) | omega, fun k j h1 h2 => (g2 k j (by omega)).trans ((uI_o (show ¬ (k = ((1 + 19 + 5 * Int.toNat (wr ((wr ((I 1 1) + 1)) - 1))) + 2) ∧ j = 2) from by omega)).trans ((uI_o (show ¬ (k = (1 + 19 + 5 * Int.toNat (wr ((wr ((I 1 1) + 1)) - 1))) ∧ j = 4) from by omega)).trans ((uI_o (show ¬ (k = (1 + 19 + 5 * Int.toNat (wr ((wr ((I 1 1) + 1)) - 1))) ∧ j = 2) from by omega)).trans ((uI_o (show ¬ (k = (1 + 19 + 5 * Int.toNat (wr ((wr ((I 1 1) + 1)) - 1))) ∧ j = 1) from by omega)).trans ((uI_o (show ¬ (k = (1 + 19 + 5 * Int.toNat (wr ((wr ((I 1 1) + 1)) - 1))) ∧ j = 0) from by omega)).trans (uI_o (show ¬ (k = 1 ∧ j = 1) from by omega))))))), fun _ => by
                              rw [show 20 + 5 * Int.toNat (I 1 1) = (1 + 19 + 5 * Int.toNat (wr ((wr ((I 1 1) + 1)) - 1))) from by omega]
                              exact ⟨(g2 _ 0 (by omega)).trans ((uI_o (show ¬ ((1 + 19 + 5 * Int.toNat (wr ((wr ((I 1 1) + 1)) - 1))) = ((1 + 19 + 5 * Int.toNat (wr ((wr ((I 1 1) + 1)) - 1))) + 2) ∧ 0 = 2) from fun e => absurd e.1 (by omega))).trans ((uJ_ne (by decide)).trans ((uJ_ne (by decide)).trans ((uJ_ne (by decide)).trans (uJ_eq))))), (g2 _ 1 (by omega)).trans ((uI_o (show ¬ ((1 + 19 + 5 * Int.toNat (wr ((wr ((I 1 1) + 1)) - 1))) = ((1 + 19 + 5 * Int.toNat (wr ((wr ((I 1 1) + 1)) - 1))) + 2) ∧ 1 = 2) from fun e => absurd e.1 (by omega))).trans ((uJ_ne (by decide)).trans ((uJ_ne (by decide)).trans (uJ_eq)))), (g2 _ 2 (by omega)).trans ((uI_o (show ¬ ((1 + 19 + 5 * Int.toNat (wr ((wr ((I 1 1) + 1)) - 1))) = ((1 + 19 + 5 * Int.toNat (wr ((wr ((I 1 1) + 1)) - 1))) + 2) ∧ 2 = 2) from fun e => absurd e.1 (by omega))).trans ((uJ_ne (by decide)).trans (uJ_eq))), g4, (g2 _ 2 (by omega)).trans (uJ_eq), fun j hj => (g5 j hj).trans ((uI_o (show ¬ (((227 + 2 * Int.toNat v3) + 1) = ((1 + 19 + 5 * Int.toNat (wr ((wr ((I 1 1) + 1)) - 1))) + 2) ∧ j = 2) from by omega)).trans ((uI_o (show ¬ (((227 + 2 * Int.toNat v3) + 1) = (1 + 19 + 5 * Int.toNat (wr ((wr ((I 1 1) + 1)) - 1))) ∧ j = 4) from by omega)).trans ((uI_o (show ¬ (((227 + 2 * Int.toNat v3) + 1) = (1 + 19 + 5 * Int.toNat (wr ((wr ((I 1 1) + 1)) - 1))) ∧ j = 2) from by omega)).trans ((uI_o (show ¬ (((227 + 2 * Int.toNat v3) + 1) = (1 + 19 + 5 * Int.toNat (wr ((wr ((I 1 1) + 1)) - 1))) ∧ j = 1) from by omega)).trans ((uI_o (show ¬ (((227 + 2 * Int.toNat v3) + 1) = (1 + 19 + 5 * Int.toNat (wr ((wr ((I 1 1) + 1)) - 1))) ∧ j = 0) from by omega)).trans (uI_o (show ¬ (((227 + 2 * Int.toNat v3) + 1) = 1 ∧ j = 1) from by omega)))))))⟩⟩) _ 0 (uI (uI (uI (uI (uI (uI I 1 1 (wr ((I 1 1) + 1))) (1 + 19 + 5 * Int.toNat (wr ((wr ((I 1 1) + 1)) - 1))) 0 v0) (1 + 19 + 5 * Int.toNat (wr ((wr ((I 1 1) + 1)) - 1))) 1 v1) (1 + 19 + 5 * Int.toNat (wr ((wr ((I 1 1) + 1)) - 1))) 2 v2) (1 + 19 + 5 * Int.toNat (wr ((wr ((I 1 1) + 1)) - 1))) 4 0) ((1 + 19 + 5 * Int.toNat (wr ((wr ((I 1 1) + 1)) - 1))) + 2) 2 0) (Rg.u (Rg.u (Rg.u (Rg.u (Rg.u (Rg.u hR (Pr_f rfl)) (Pr_l (PP_of (v := (wr ((wr ((I 1 1) + 1)) - 1))) hF (by omega)).1.1 (by have := (PP_of (v := (wr ((wr ((I 1 1) + 1)) - 1))) hF (by omega)).2; omega) _ _ (by decide))) (Pr_l (PP_of (v := (wr ((wr ((I 1 1) + 1)) - 1))) hF (by omega)).1.1 (by have := (PP_of (v := (wr ((wr ((I 1 1) + 1)) - 1))) hF (by omega)).2; omega) _ _ (by decide))) (Pr_l (PP_of (v := (wr ((wr ((I 1 1) + 1)) - 1))) hF (by omega)).1.1 (by have := (PP_of (v := (wr ((wr ((I 1 1) + 1)) - 1))) hF (by omega)).2; omega) _ _ (by decide))) (Pr_l (PP_of (v := (wr ((wr ((I 1 1) + 1)) - 1))) hF (by omega)).1.1 (by have := (PP_of (v := (wr ((wr ((I 1 1) + 1)) - 1))) hF (by omega)).2; omega) _ _ (by decide))) (Pr_l (PP_of (v := (wr ((wr ((I 1 1) + 1)) - 1))) hF (by omega)).r.1.1 (by have := (PP_of (v := (wr ((wr ((I 1 1) + 1)) - 1))) hF (by omega)).r.2; omega) _ _ (by decide))) (fun _ _ _ => rfl) (show (0 : Int) ≤ (0 : Int) from by first | rfl | omega) (show ((0 : Int) : Int) ≤ 12 from by first | rfl | omega) (show ((uI (uI (uI (uI (uI (uI I 1 1 (wr ((I 1 1) + 1))) (1 + 19 + 5 * Int.toNat (wr ((wr ((I 1 1) + 1)) - 1))) 0 v0) (1 + 19 + 5 * Int.toNat (wr ((wr ((I 1 1) + 1)) - 1))) 1 v1) (1 + 19 + 5 * Int.toNat (wr ((wr ((I 1 1) + 1)) - 1))) 2 v2) (1 + 19 + 5 * Int.toNat (wr ((wr ((I 1 1) + 1)) - 1))) 4 0) ((1 + 19 + 5 * Int.toNat (wr ((wr ((I 1 1) + 1)) - 1))) + 2) 2 0) (1 + 19 + 5 * Int.toNat (wr ((wr ((I 1 1) + 1)) - 1))) 4) = (0 : Int) from by first | rfl | omega) (show (0 : Int) ≤ v4 from by first | rfl | omega) (show ((uI (uI (uI (uI (uI (uI I 1 1 (wr ((I 1 1) + 1))) (1 + 19 + 5 * Int.toNat (wr ((wr ((I 1 1) + 1)) - 1))) 0 v0) (1 + 19 + 5 * Int.toNat (wr ((wr ((I 1 1) + 1)) - 1))) 1 v1) (1 + 19 + 5 * Int.toNat (wr ((wr ((I 1 1) + 1)) - 1))) 2 v2) (1 + 19 + 5 * Int.toNat (wr ((wr ((I 1 1) + 1)) - 1))) 4 0) ((1 + 19 + 5 * Int.toNat (wr ((wr ((I 1 1) + 1)) - 1))) + 2) 2 0) (227 + 2 * Int.toNat v3) 1) = (uI (uI (uI (uI (uI (uI I 1 1 (wr ((I 1 1) + 1))) (1 + 19 + 5 * Int.toNat (wr ((wr ((I 1 1) + 1)) - 1))) 0 v0) (1 + 19 + 5 * Int.toNat (wr ((wr ((I 1 1) + 1)) - 1))) 1 v1) (1 + 19 + 5 * Int.toNat (wr ((wr ((I 1 1) + 1)) - 1))) 2 v2) (1 + 19 + 5 * Int.toNat (wr ((wr ((I 1 1) + 1)) - 1))) 4 0) ((1 + 19 + 5 * Int.toNat (wr ((wr ((I 1 1) + 1)) - 1))) + 2) 2 0) (227 + 2 * Int.toNat v3) 1 from by first | rfl | omega) (fun j hj => absurd hj (by omega)) (Nat.lt_succ_self _)
                  ·
                    refine ⟨rfl, ?_⟩
                    refine ⟨⟨_, rfl, (by decide)⟩, ?_⟩
                    refine s_X11_refuse hF (e := 4) (by decide) ?_
                    have hN28 : ((uI I 203 4 (wr ((I 203 4) + 1))) 1 1) = (I 1 1) := by first | rfl | omega
                    exact ⟨rfl, fun hv hA' => hQ _ _ (Rg.u hR (Pr_f rfl)) hA' (hv _ rfl) (fun ka ja hk => (uI_o (show ¬ (ka = 203 ∧ ja = 4) from by first | (intro e; obtain ⟨rfl, rfl⟩ := e; exact hk (by decide)) | omega))) (⟨show PT (-1000004) ((uI I 203 4 (wr ((I 203 4) + 1))) 1 1) (I 1 1) (VA v0 v1 v2 v3 v4) (I (227 + 2 * Int.toNat v3) 0) (GD (I ((227 + 2 * Int.toNat v3) + 1)) (I (227 + 2 * Int.toNat v3) 1) v4 0 9999) from by
                                        refine ⟨fun z => ?_, fun z b => ?_, fun z b => ⟨fun g => ?_, fun g e => ?_, fun g e => ?_⟩⟩
                                        all_goals first | (unfold VA at z; omega) | (exact absurd (qr12.1 (by omega)) g) | (have hg := qr12.2 g; unfold VA at z; omega), fun k j _ _ => uI_o (show ¬ (k = 203 ∧ j = 4) from by omega), fun z => absurd (show ((uI I 203 4 (wr ((I 203 4) + 1))) 1 1) = I 1 1 + 1 from z) (by omega)⟩)⟩
              ·
                refine ⟨⟨_, rfl, (by decide)⟩, ?_⟩
                refine s_X11_refuse hF (e := 1) (by decide) ?_
                have a29 : -2147483648 ≤ (I 1 1) ∧ (I 1 1) < 2147483648 := hA.1 _ _
                have hN30 : ((uI I 203 1 (wr ((I 203 1) + 1))) 1 1) = (I 1 1) := by first | rfl | omega
                exact ⟨rfl, fun hv hA' => hQ _ _ (Rg.u hR (Pr_f rfl)) hA' (hv _ rfl) (fun ka ja hk => (uI_o (show ¬ (ka = 203 ∧ ja = 1) from by first | (intro e; obtain ⟨rfl, rfl⟩ := e; exact hk (by decide)) | omega))) (⟨show PT (-1000001) ((uI I 203 1 (wr ((I 203 1) + 1))) 1 1) (I 1 1) (VA v0 v1 v2 v3 v4) (I (227 + 2 * Int.toNat v3) 0) (GD (I ((227 + 2 * Int.toNat v3) + 1)) (I (227 + 2 * Int.toNat v3) 1) v4 0 9999) from by
                                        refine ⟨fun z => ?_, fun z b => ?_, fun z b => ⟨fun g => ?_, fun g e => ?_, fun g e => ?_⟩⟩
                                        all_goals first | (unfold VA at z; omega) | (exact absurd (qr12.1 (by omega)) g) | (have hg := qr12.2 g; unfold VA at z; omega), fun k j _ _ => uI_o (show ¬ (k = 203 ∧ j = 1) from by omega), fun z => absurd (show ((uI I 203 1 (wr ((I 203 1) + 1))) 1 1) = I 1 1 + 1 from z) (by omega)⟩)⟩
            ·
              refine ⟨rfl, (by decide), ?_⟩
              refine ⟨fun c => absurd c (show (¬ ((1 : Int) = 0)) from by decide), fun _ => ?_⟩
              refine ⟨⟨_, rfl, (by decide)⟩, ?_⟩
              refine s_X11_refuse hF (e := 2) (by decide) ?_
              have a31 : -2147483648 ≤ (I 1 1) ∧ (I 1 1) < 2147483648 := hA.1 _ _
              have hN32 : ((uI I 203 2 (wr ((I 203 2) + 1))) 1 1) = (I 1 1) := by first | rfl | omega
              exact ⟨rfl, fun hv hA' => hQ _ _ (Rg.u hR (Pr_f rfl)) hA' (hv _ rfl) (fun ka ja hk => (uI_o (show ¬ (ka = 203 ∧ ja = 2) from by first | (intro e; obtain ⟨rfl, rfl⟩ := e; exact hk (by decide)) | omega))) (⟨show PT (-1000002) ((uI I 203 2 (wr ((I 203 2) + 1))) 1 1) (I 1 1) (VA v0 v1 v2 v3 v4) (I (227 + 2 * Int.toNat v3) 0) (GD (I ((227 + 2 * Int.toNat v3) + 1)) (I (227 + 2 * Int.toNat v3) 1) v4 0 9999) from by
                                        refine ⟨fun z => ?_, fun z b => ?_, fun z b => ⟨fun g => ?_, fun g e => ?_, fun g e => ?_⟩⟩
                                        all_goals first | (unfold VA at z; omega), fun k j _ _ => uI_o (show ¬ (k = 203 ∧ j = 2) from by omega), fun z => absurd (show ((uI I 203 2 (wr ((I 203 2) + 1))) 1 1) = I 1 1 + 1 from z) (by omega)⟩)⟩
          ·
            refine ⟨fun c => absurd (show ((0 : Int) = 0) from by decide) c, fun _ => ?_⟩
            refine ⟨⟨_, rfl, (by decide)⟩, ?_⟩
            refine s_X11_refuse hF (e := 1) (by decide) ?_
            have a33 : -2147483648 ≤ (I 1 1) ∧ (I 1 1) < 2147483648 := hA.1 _ _
            have hN34 : ((uI I 203 1 (wr ((I 203 1) + 1))) 1 1) = (I 1 1) := by first | rfl | omega
            exact ⟨rfl, fun hv hA' => hQ _ _ (Rg.u hR (Pr_f rfl)) hA' (hv _ rfl) (fun ka ja hk => (uI_o (show ¬ (ka = 203 ∧ ja = 1) from by first | (intro e; obtain ⟨rfl, rfl⟩ := e; exact hk (by decide)) | omega))) (⟨show PT (-1000001) ((uI I 203 1 (wr ((I 203 1) + 1))) 1 1) (I 1 1) (VA v0 v1 v2 v3 v4) (I (227 + 2 * Int.toNat v3) 0) (GD (I ((227 + 2 * Int.toNat v3) + 1)) (I (227 + 2 * Int.toNat v3) 1) v4 0 9999) from by
                                        refine ⟨fun z => ?_, fun z b => ?_, fun z b => ⟨fun g => ?_, fun g e => ?_, fun g e => ?_⟩⟩
                                        all_goals first | (unfold VA at z; omega), fun k j _ _ => uI_o (show ¬ (k = 203 ∧ j = 1) from by omega), fun z => absurd (show ((uI I 203 1 (wr ((I 203 1) + 1))) 1 1) = I 1 1 + 1 from z) (by omega)⟩)⟩
        ·
          refine ⟨fun _ => ?_, fun c => absurd (show ((0 : Int) = 0) from by decide) c⟩
          refine ⟨⟨_, rfl, (by decide)⟩, ?_⟩
          refine s_X11_refuse hF (e := 1) (by decide) ?_
          have a35 : -2147483648 ≤ (I 1 1) ∧ (I 1 1) < 2147483648 := hA.1 _ _
          have hN36 : ((uI I 203 1 (wr ((I 203 1) + 1))) 1 1) = (I 1 1) := by first | rfl | omega
          exact ⟨rfl, fun hv hA' => hQ _ _ (Rg.u hR (Pr_f rfl)) hA' (hv _ rfl) (fun ka ja hk => (uI_o (show ¬ (ka = 203 ∧ ja = 1) from by first | (intro e; obtain ⟨rfl, rfl⟩ := e; exact hk (by decide)) | omega))) (⟨show PT (-1000001) ((uI I 203 1 (wr ((I 203 1) + 1))) 1 1) (I 1 1) (VA v0 v1 v2 v3 v4) (I (227 + 2 * Int.toNat v3) 0) (GD (I ((227 + 2 * Int.toNat v3) + 1)) (I (227 + 2 * Int.toNat v3) 1) v4 0 9999) from by
                                        refine ⟨fun z => ?_, fun z b => ?_, fun z b => ⟨fun g => ?_, fun g e => ?_, fun g e => ?_⟩⟩
                                        all_goals first | (unfold VA at z; omega), fun k j _ _ => uI_o (show ¬ (k = 203 ∧ j = 1) from by omega), fun z => absurd (show ((uI I 203 1 (wr ((I 203 1) + 1))) 1 1) = I 1 1 + 1 from z) (by omega)⟩)⟩
      ·
        refine ⟨fun _ => ?_, fun c => absurd (show ((0 : Int) = 0) from by decide) c⟩
        refine ⟨⟨_, rfl, (by decide)⟩, ?_⟩
        refine s_X11_refuse hF (e := 1) (by decide) ?_
        have a37 : -2147483648 ≤ (I 1 1) ∧ (I 1 1) < 2147483648 := hA.1 _ _
        have hN38 : ((uI I 203 1 (wr ((I 203 1) + 1))) 1 1) = (I 1 1) := by first | rfl | omega
        exact ⟨rfl, fun hv hA' => hQ _ _ (Rg.u hR (Pr_f rfl)) hA' (hv _ rfl) (fun ka ja hk => (uI_o (show ¬ (ka = 203 ∧ ja = 1) from by first | (intro e; obtain ⟨rfl, rfl⟩ := e; exact hk (by decide)) | omega))) (⟨show PT (-1000001) ((uI I 203 1 (wr ((I 203 1) + 1))) 1 1) (I 1 1) (VA v0 v1 v2 v3 v4) (I (227 + 2 * Int.toNat v3) 0) (GD (I ((227 + 2 * Int.toNat v3) + 1)) (I (227 + 2 * Int.toNat v3) 1) v4 0 9999) from by
                                        refine ⟨fun z => ?_, fun z b => ?_, fun z b => ⟨fun g => ?_, fun g e => ?_, fun g e => ?_⟩⟩
                                        all_goals first | (unfold VA at z; omega), fun k j _ _ => uI_o (show ¬ (k = 203 ∧ j = 1) from by omega), fun z => absurd (show ((uI I 203 1 (wr ((I 203 1) + 1))) 1 1) = I 1 1 + 1 from z) (by omega)⟩)⟩
    ·
      refine ⟨fun _ => ?_, fun c => absurd (show ((0 : Int) = 0) from by decide) c⟩
      refine ⟨⟨_, rfl, (by decide)⟩, ?_⟩
      refine s_X11_refuse hF (e := 1) (by decide) ?_
      have a39 : -2147483648 ≤ (I 1 1) ∧ (I 1 1) < 2147483648 := hA.1 _ _
      have hN40 : ((uI I 203 1 (wr ((I 203 1) + 1))) 1 1) = (I 1 1) := by first | rfl | omega
      exact ⟨rfl, fun hv hA' => hQ _ _ (Rg.u hR (Pr_f rfl)) hA' (hv _ rfl) (fun ka ja hk => (uI_o (show ¬ (ka = 203 ∧ ja = 1) from by first | (intro e; obtain ⟨rfl, rfl⟩ := e; exact hk (by decide)) | omega))) (⟨show PT (-1000001) ((uI I 203 1 (wr ((I 203 1) + 1))) 1 1) (I 1 1) (VA v0 v1 v2 v3 v4) (I (227 + 2 * Int.toNat v3) 0) (GD (I ((227 + 2 * Int.toNat v3) + 1)) (I (227 + 2 * Int.toNat v3) 1) v4 0 9999) from by
                                        refine ⟨fun z => ?_, fun z b => ?_, fun z b => ⟨fun g => ?_, fun g e => ?_, fun g e => ?_⟩⟩
                                        all_goals first | (unfold VA at z; omega), fun k j _ _ => uI_o (show ¬ (k = 203 ∧ j = 1) from by omega), fun z => absurd (show ((uI I 203 1 (wr ((I 203 1) + 1))) 1 1) = I 1 1 + 1 from z) (by omega)⟩)⟩
  ·
    refine s_X11_within (fun (w41 : ((0 : Int) ≤ v0 ∧ (v0 : Int) ≤ 5)) => ?_) (fun (w41 : ¬ ((0 : Int) ≤ v0 ∧ (v0 : Int) ≤ 5)) => ?_)
    ·
      refine ⟨fun c => absurd c (show (¬ ((1 : Int) = 0)) from by decide), fun _ => ?_⟩
      refine s_X11_isLot (fun (w42 : ((0 : Int) ≤ v1 ∧ (v1 : Int) ≤ 3)) => ?_) (fun (w42 : ¬ ((0 : Int) ≤ v1 ∧ (v1 : Int) ≤ 3)) => ?_)
      ·
        refine ⟨fun c => absurd c (show (¬ ((1 : Int) = 0)) from by decide), fun _ => ?_⟩
        refine s_X11_within (fun (w43 : ((1 : Int) ≤ v2 ∧ (v2 : Int) ≤ 99)) => ?_) (fun (w43 : ¬ ((1 : Int) ≤ v2 ∧ (v2 : Int) ≤ 99)) => ?_)
        ·
          refine ⟨fun c => absurd c (show (¬ ((1 : Int) = 0)) from by decide), fun _ => ?_⟩
          refine ⟨⟨_, rfl, (by decide)⟩, ?_⟩
          refine s_X11_refuse hF (e := 1) (by decide) ?_
          have a44 : -2147483648 ≤ (I 1 1) ∧ (I 1 1) < 2147483648 := hA.1 _ _
          have hN45 : ((uI I 203 1 (wr ((I 203 1) + 1))) 1 1) = (I 1 1) := by first | rfl | omega
          exact ⟨rfl, fun hv hA' => hQ _ _ (Rg.u hR (Pr_f rfl)) hA' (hv _ rfl) (fun ka ja hk => (uI_o (show ¬ (ka = 203 ∧ ja = 1) from by first | (intro e; obtain ⟨rfl, rfl⟩ := e; exact hk (by decide)) | omega))) (⟨show PT (-1000001) ((uI I 203 1 (wr ((I 203 1) + 1))) 1 1) (I 1 1) (VA v0 v1 v2 v3 v4) (I (227 + 2 * Int.toNat v3) 0) (GD (I ((227 + 2 * Int.toNat v3) + 1)) (I (227 + 2 * Int.toNat v3) 1) v4 0 9999) from by
                                        refine ⟨fun z => ?_, fun z b => ?_, fun z b => ⟨fun g => ?_, fun g e => ?_, fun g e => ?_⟩⟩
                                        all_goals first | (unfold VA at z; omega), fun k j _ _ => uI_o (show ¬ (k = 203 ∧ j = 1) from by omega), fun z => absurd (show ((uI I 203 1 (wr ((I 203 1) + 1))) 1 1) = I 1 1 + 1 from z) (by omega)⟩)⟩
        ·
          refine ⟨fun _ => ?_, fun c => absurd (show ((0 : Int) = 0) from by decide) c⟩
          refine ⟨⟨_, rfl, (by decide)⟩, ?_⟩
          refine s_X11_refuse hF (e := 1) (by decide) ?_
          have a46 : -2147483648 ≤ (I 1 1) ∧ (I 1 1) < 2147483648 := hA.1 _ _
          have hN47 : ((uI I 203 1 (wr ((I 203 1) + 1))) 1 1) = (I 1 1) := by first | rfl | omega
          exact ⟨rfl, fun hv hA' => hQ _ _ (Rg.u hR (Pr_f rfl)) hA' (hv _ rfl) (fun ka ja hk => (uI_o (show ¬ (ka = 203 ∧ ja = 1) from by first | (intro e; obtain ⟨rfl, rfl⟩ := e; exact hk (by decide)) | omega))) (⟨show PT (-1000001) ((uI I 203 1 (wr ((I 203 1) + 1))) 1 1) (I 1 1) (VA v0 v1 v2 v3 v4) (I (227 + 2 * Int.toNat v3) 0) (GD (I ((227 + 2 * Int.toNat v3) + 1)) (I (227 + 2 * Int.toNat v3) 1) v4 0 9999) from by
                                        refine ⟨fun z => ?_, fun z b => ?_, fun z b => ⟨fun g => ?_, fun g e => ?_, fun g e => ?_⟩⟩
                                        all_goals first | (unfold VA at z; omega), fun k j _ _ => uI_o (show ¬ (k = 203 ∧ j = 1) from by omega), fun z => absurd (show ((uI I 203 1 (wr ((I 203 1) + 1))) 1 1) = I 1 1 + 1 from z) (by omega)⟩)⟩
      ·
        refine ⟨fun _ => ?_, fun c => absurd (show ((0 : Int) = 0) from by decide) c⟩
        refine ⟨⟨_, rfl, (by decide)⟩, ?_⟩
        refine s_X11_refuse hF (e := 1) (by decide) ?_
        have a48 : -2147483648 ≤ (I 1 1) ∧ (I 1 1) < 2147483648 := hA.1 _ _
        have hN49 : ((uI I 203 1 (wr ((I 203 1) + 1))) 1 1) = (I 1 1) := by first | rfl | omega
        exact ⟨rfl, fun hv hA' => hQ _ _ (Rg.u hR (Pr_f rfl)) hA' (hv _ rfl) (fun ka ja hk => (uI_o (show ¬ (ka = 203 ∧ ja = 1) from by first | (intro e; obtain ⟨rfl, rfl⟩ := e; exact hk (by decide)) | omega))) (⟨show PT (-1000001) ((uI I 203 1 (wr ((I 203 1) + 1))) 1 1) (I 1 1) (VA v0 v1 v2 v3 v4) (I (227 + 2 * Int.toNat v3) 0) (GD (I ((227 + 2 * Int.toNat v3) + 1)) (I (227 + 2 * Int.toNat v3) 1) v4 0 9999) from by
                                        refine ⟨fun z => ?_, fun z b => ?_, fun z b => ⟨fun g => ?_, fun g e => ?_, fun g e => ?_⟩⟩
                                        all_goals first | (unfold VA at z; omega), fun k j _ _ => uI_o (show ¬ (k = 203 ∧ j = 1) from by omega), fun z => absurd (show ((uI I 203 1 (wr ((I 203 1) + 1))) 1 1) = I 1 1 + 1 from z) (by omega)⟩)⟩
    ·
      refine ⟨fun _ => ?_, fun c => absurd (show ((0 : Int) = 0) from by decide) c⟩
      refine ⟨⟨_, rfl, (by decide)⟩, ?_⟩
      refine s_X11_refuse hF (e := 1) (by decide) ?_
      have a50 : -2147483648 ≤ (I 1 1) ∧ (I 1 1) < 2147483648 := hA.1 _ _
      have hN51 : ((uI I 203 1 (wr ((I 203 1) + 1))) 1 1) = (I 1 1) := by first | rfl | omega
      exact ⟨rfl, fun hv hA' => hQ _ _ (Rg.u hR (Pr_f rfl)) hA' (hv _ rfl) (fun ka ja hk => (uI_o (show ¬ (ka = 203 ∧ ja = 1) from by first | (intro e; obtain ⟨rfl, rfl⟩ := e; exact hk (by decide)) | omega))) (⟨show PT (-1000001) ((uI I 203 1 (wr ((I 203 1) + 1))) 1 1) (I 1 1) (VA v0 v1 v2 v3 v4) (I (227 + 2 * Int.toNat v3) 0) (GD (I ((227 + 2 * Int.toNat v3) + 1)) (I (227 + 2 * Int.toNat v3) 1) v4 0 9999) from by
                                        refine ⟨fun z => ?_, fun z b => ?_, fun z b => ⟨fun g => ?_, fun g e => ?_, fun g e => ?_⟩⟩
                                        all_goals first | (unfold VA at z; omega), fun k j _ _ => uI_o (show ¬ (k = 203 ∧ j = 1) from by omega), fun z => absurd (show ((uI I 203 1 (wr ((I 203 1) + 1))) 1 1) = I 1 1 + 1 from z) (by omega)⟩)⟩
theorem r_piece6_l2 (hF : FS F) (hR : Rg I) {v0 v1 v2 v3 v4 : Int} (h0 : 0 ≤ v0 ∧ v0 ≤ 5) (h1 : 0 ≤ v1 ∧ v1 ≤ 3) (h2 : 1 ≤ v2 ∧ v2 ≤ 99) (h3 : 0 ≤ v3 ∧ v3 ≤ 3) (h4 : 2 ≤ v4 ∧ v4 ≤ 12) (hQ : ∀ (r : Int) (I' : pI), Rg I' → (∀ k j, ¬ ((k = 236 ∧ (j = 0 ∨ (309 + 66 * Int.toNat (I 236 0) ≤ j ∧ j < 321 + 66 * Int.toNat (I 236 0))))) → I' k j = I k j) → (r = (I 236 0) ∧ (I' 236 0) = (I 236 0) + 1) → (∀ j : Nat, (j : Int) < v4 → I' 236 (309 + 66 * Int.toNat (I 236 0) + j) = I 252 (24 * Int.toNat v3 + j)) → Q (some (vi r)) F I') : ∀ (mz : Nat) (g p az k : Int) (J : pI), Rg J → (∀ k j, ¬ ((k = 236 ∧ (j = 0 ∨ (309 + 66 * Int.toNat (I 236 0) ≤ j ∧ j < 321 + 66 * Int.toNat (I 236 0))))) → J k j = I k j) → ((0 : Int) ≤ p) → ((p : Int) ≤ 13) → ((304 : Int) ≤ az) → ((az : Int) ≤ 1162) → ((0 : Int) ≤ k) → ((k : Int) ≤ 12) → ((J 236 0) = p) → (az = 304 + 66 * p) → (p = I 236 0) → (k ≤ v4) → (∀ j : Nat, (j : Int) < k → J 236 (309 + 66 * Int.toNat (I 236 0) + j) = I 252 (24 * Int.toNat v3 + j)) → (12 - k).toNat < mz → GoN G d kX12_piece NP NP 232 [some (vr 235), some (vi v0), some (vi v1), some (vi v2), some (vi v3), some (vi v4), some (vi g), some (vi p), some (vi az), some (vi k)] [] F J Q := by
  intro mz
  induction mz with
  | zero => intro g p az k J hJ hV _ _ _ _ _ _ _ _ _ _ _ h; exact absurd h (Nat.not_lt_zero _)
  | succ mz ih =>
    intro g p az k J hJ hV c100 c101 c102 c103 c104 c105 c106 c107 c108 c109 c110 hm
    refine GoN_in (fun hok hA => ?_)
    have iiv0 : -2147483648 ≤ v0 ∧ v0 < 2147483648 := hok 1 _ rfl
    have iiv1 : -2147483648 ≤ v1 ∧ v1 < 2147483648 := hok 2 _ rfl
    have iiv2 : -2147483648 ≤ v2 ∧ v2 < 2147483648 := hok 3 _ rfl
    have iiv3 : -2147483648 ≤ v3 ∧ v3 < 2147483648 := hok 4 _ rfl
    have iiv4 : -2147483648 ≤ v4 ∧ v4 < 2147483648 := hok 5 _ rfl
    have iig : -2147483648 ≤ g ∧ g < 2147483648 := hok 6 _ rfl
    have iip : -2147483648 ≤ p ∧ p < 2147483648 := hok 7 _ rfl
    have iiaz : -2147483648 ≤ az ∧ az < 2147483648 := hok 8 _ rfl
    have iik : -2147483648 ≤ k ∧ k < 2147483648 := hok 9 _ rfl
    have r1 : 0 ≤ (J 236 0) ∧ (J 236 0) ≤ 14 := Rg.n0 hJ
    refine Go_wp (by decide) ckX12_piece [232] ?_
    refine ⟨fun (c3 : ((v4 : Int) ≤ k)) => ?_, fun (c3 : (¬ ((v4 : Int) ≤ k))) => ?_⟩
    ·
      refine ⟨_, rfl, (by decide), ?_⟩
      refine fun w0 hw0 => ?_; obtain rfl : w0 = some 236 := hw0.symm.trans (FS.g hF rfl)
      refine ⟨_, rfl, (by decide), (by decide), (by decide), ?_⟩
      refine ⟨_, rfl, (by decide), (by decide), (by decide), ?_⟩
      have n4 : (wr ((J 236 0) + 1)) = (J 236 0) + 1 := wr_id (show -2147483648 ≤ ((J 236 0) + 1 : Int) ∧ ((J 236 0) + 1 : Int) < 2147483648 from by omega)
      have p5 : Pn 0 (wr ((J 236 0) + 1)) := by apply Pn_w <;> omega
      have r6 : 0 ≤ (I 236 0) ∧ (I 236 0) ≤ 14 := Rg.n0 hR
      exact ⟨rfl, hQ _ _ (Rg.u hJ (Pr_n p5)) (fun ka ja hk => ((uI_o (show ¬ (ka = 236 ∧ ja = 0) from by first | (intro e; obtain ⟨rfl, rfl⟩ := e; exact hk (by decide)) | omega))).trans ((hV ka ja (by omega)))) (show p = (I 236 0) ∧ (wr ((J 236 0) + 1)) = (I 236 0) + 1 from by first | omega | (simp only [wr, wl] at *; omega)) (fun j hj => (uJ_ne (show ¬ 309 + 66 * Int.toNat (I 236 0) + j = 0 from by omega)).trans (c110 j (by omega)))⟩
    ·
      refine ⟨_, rfl, (by decide), ?_⟩
      refine fun w0 hw0 => ?_; obtain rfl : w0 = some 236 := hw0.symm.trans (FS.g hF rfl)
      refine ⟨_, rfl, (by decide), ?_⟩
      refine fun w0 hw0 => ?_; obtain rfl : w0 = some 252 := hw0.symm.trans (FS.g hF rfl)
      have n7 : (wr (24 * v3)) = 24 * v3 := wr_id (show -2147483648 ≤ (24 * v3 : Int) ∧ (24 * v3 : Int) < 2147483648 from by omega)
      have n8 : (wr ((wr (24 * v3)) + k)) = (wr (24 * v3)) + k := wr_id (show -2147483648 ≤ ((wr (24 * v3)) + k : Int) ∧ ((wr (24 * v3)) + k : Int) < 2147483648 from by omega)
      refine ⟨_, rfl, (by decide), (show (0 : Int) ≤ (wr ((wr (24 * v3)) + k)) from by first | with_reducible assumption | omega | (simp only [wr, wl] at *; omega)), (show (wr ((wr (24 * v3)) + k)) < (96 : Int) from by first | with_reducible assumption | omega | (simp only [wr, wl] at *; omega)), ?_⟩
      have u9 : (J 252 (Int.toNat (wr ((wr (24 * v3)) + k)))) = (I 252 (Int.toNat (wr ((wr (24 * v3)) + k)))) := hV _ _ (by first | decide | omega)
      have a10 : -2147483648 ≤ (J 252 (Int.toNat (wr ((wr (24 * v3)) + k)))) ∧ (J 252 (Int.toNat (wr ((wr (24 * v3)) + k)))) < 2147483648 := hA.1 _ _
      have n11 : (wr (az + 5)) = az + 5 := wr_id (show -2147483648 ≤ (az + 5 : Int) ∧ (az + 5 : Int) < 2147483648 from by omega)
      have n12 : (wr ((wr (az + 5)) + k)) = (wr (az + 5)) + k := wr_id (show -2147483648 ≤ ((wr (az + 5)) + k : Int) ∧ ((wr (az + 5)) + k : Int) < 2147483648 from by omega)
      refine ⟨_, rfl, (by decide), (show (0 : Int) ≤ (wr ((wr (az + 5)) + k)) from by first | with_reducible assumption | omega | (simp only [wr, wl] at *; omega)), (show (wr ((wr (az + 5)) + k)) < (1340 : Int) from by first | with_reducible assumption | omega | (simp only [wr, wl] at *; omega)), ?_⟩
      have p13 : Pn (Int.toNat (wr ((wr (az + 5)) + k))) (J 252 (Int.toNat (wr ((wr (24 * v3)) + k)))) := by apply Pn_w <;> omega
      have n14 : (wr (k + 1)) = k + 1 := wr_id (show -2147483648 ≤ (k + 1 : Int) ∧ (k + 1 : Int) < 2147483648 from by omega)
      have u15 : ((uI J 236 (Int.toNat (wr ((wr (az + 5)) + k))) (J 252 (Int.toNat (wr ((wr (24 * v3)) + k))))) 236 0) = (J 236 0) := uJ_ne (by omega)
      exact ih g p az (wr (k + 1)) (uI J 236 (Int.toNat (wr ((wr (az + 5)) + k))) (J 252 (Int.toNat (wr ((wr (24 * v3)) + k))))) (Rg.u hJ (Pr_n p13)) (fun ka ja hk => ((uI_o (show ¬ (ka = 236 ∧ ja = (Int.toNat (wr ((wr (az + 5)) + k)))) from by omega))).trans ((hV ka ja (by omega)))) (show (0 : Int) ≤ p from by first | rfl | omega) (show (p : Int) ≤ 13 from by first | rfl | omega) (show (304 : Int) ≤ az from by first | rfl | omega) (show (az : Int) ≤ 1162 from by first | rfl | omega) (show (0 : Int) ≤ (wr (k + 1)) from by first | rfl | omega) (show ((wr (k + 1)) : Int) ≤ 12 from by first | rfl | omega) (show ((uI J 236 (Int.toNat (wr ((wr (az + 5)) + k))) (J 252 (Int.toNat (wr ((wr (24 * v3)) + k))))) 236 0) = p from by first | rfl | omega) (show az = 304 + 66 * p from by first | rfl | omega) (show p = I 236 0 from by first | rfl | omega) (show (wr (k + 1)) ≤ v4 from by first | rfl | omega) (fun j hj => if e : j = Int.toNat k then (by rw [e, show 309 + 66 * Int.toNat (I 236 0) + Int.toNat k = (Int.toNat (wr ((wr (az + 5)) + k))) from by omega, show 24 * Int.toNat v3 + Int.toNat k = Int.toNat (wr ((wr (24 * v3)) + k)) from by omega]; exact uJ_eq.trans (hV 252 _ (by first | decide | omega))) else (uJ_ne (show ¬ 309 + 66 * Int.toNat (I 236 0) + j = (Int.toNat (wr ((wr (az + 5)) + k))) from by omega)).trans (c110 j (by omega))) (show (12 - (wr (k + 1))).toNat < mz from by omega)
theorem r_piece6_l1 (hF : FS F) (hR : Rg I) {v0 v1 v2 v3 v4 : Int} (h0 : 0 ≤ v0 ∧ v0 ≤ 5) (h1 : 0 ≤ v1 ∧ v1 ≤ 3) (h2 : 1 ≤ v2 ∧ v2 ≤ 99) (h3 : 0 ≤ v3 ∧ v3 ≤ 3) (h4 : 2 ≤ v4 ∧ v4 ≤ 12) (hQ : ∀ (r : Int) (I' : pI), Rg I' → (∀ k j, ¬ (k = 238 ∨ (k = 236 ∧ (j = 0 ∨ (304 ≤ j ∧ j < 1228)))) → I' k j = I k j) → ((PR r (I' 236 0) (I 236 0) (GD (fun j => I 252 (24 * Int.toNat v3 + j)) (I 251 (Int.toNat v3)) v4 0 9999)) ∧ (∀ j, j < 304 + 66 * Int.toNat (I 236 0) → ¬ j = 0 → I' 236 j = I 236 j) ∧ (I' 236 0 = I 236 0 + 1 → I' 236 (304 + 66 * Int.toNat (I 236 0)) = v0 ∧ I' 236 ((304 + 66 * Int.toNat (I 236 0)) + 1) = v1 ∧ I' 236 ((304 + 66 * Int.toNat (I 236 0)) + 2) = v2 ∧ I' 236 ((304 + 66 * Int.toNat (I 236 0)) + 3) = v4 ∧ I' 236 ((304 + 66 * Int.toNat (I 236 0)) + 4) = 0 ∧ ∀ j : Nat, (j : Int) < v4 → I' 236 ((304 + 66 * Int.toNat (I 236 0)) + 5 + j) = I 252 (24 * Int.toNat v3 + j))) → Q (some (vi r)) F I') : ∀ (mz : Nat) (g k : Int) (J : pI), Rg J → (∀ k j, ¬ (k = 238 ∨ (k = 236 ∧ (j = 0 ∨ (304 ≤ j ∧ j < 1228)))) → J k j = I k j) → ((0 : Int) ≤ k) → ((k : Int) ≤ 12) → ((J 236 0) = I 236 0) → (0 ≤ g ∧ g ≤ 1) → (k ≤ v4) → ((g = 1 → v4 ≤ I 251 (Int.toNat v3) ∧ ∀ j : Nat, (j : Int) < k → 0 ≤ I 252 (24 * Int.toNat v3 + j) ∧ I 252 (24 * Int.toNat v3 + j) ≤ 9999) ∧ (g = 0 → ¬ GD (fun j => I 252 (24 * Int.toNat v3 + j)) (I 251 (Int.toNat v3)) v4 0 9999)) → (∀ j, J 236 j = I 236 j) → (12 - k).toNat < mz → GoN G (d + 1) kX12_piece NP NP 93 [some (vr 235), some (vi v0), some (vi v1), some (vi v2), some (vi v3), some (vi v4), some (vi g), some (vi k), none, none] [] F J Q := by
  intro mz
  induction mz with
  | zero => intro g k J hJ hV _ _ _ _ _ _ _ h; exact absurd h (Nat.not_lt_zero _)
  | succ mz ih =>
    intro g k J hJ hV c100 c101 c102 c103 c104 c105 c106 hm
    refine GoN_in (fun hok hA => ?_)
    have iiv0 : -2147483648 ≤ v0 ∧ v0 < 2147483648 := hok 1 _ rfl
    have iiv1 : -2147483648 ≤ v1 ∧ v1 < 2147483648 := hok 2 _ rfl
    have iiv2 : -2147483648 ≤ v2 ∧ v2 < 2147483648 := hok 3 _ rfl
    have iiv3 : -2147483648 ≤ v3 ∧ v3 < 2147483648 := hok 4 _ rfl
    have iiv4 : -2147483648 ≤ v4 ∧ v4 < 2147483648 := hok 5 _ rfl
    have iig : -2147483648 ≤ g ∧ g < 2147483648 := hok 6 _ rfl
    have iik : -2147483648 ≤ k ∧ k < 2147483648 := hok 7 _ rfl
    have r1 : 0 ≤ (J 236 0) ∧ (J 236 0) ≤ 14 := Rg.n0 hJ
    refine Go_wp (by decide) ckX12_piece [93, 232] ?_
    refine ⟨fun (c3 : ((v4 : Int) ≤ k)) => ?_, fun (c3 : (¬ ((v4 : Int) ≤ k))) => ?_⟩
    ·
      refine ⟨fun (c4 : (¬ (g : Int) = 0)) => ?_, fun (c4 : ((g : Int) = 0)) => ?_⟩
      ·
        refine ⟨_, rfl, (by decide), ?_⟩
        refine fun w0 hw0 => ?_; obtain rfl : w0 = some 236 := hw0.symm.trans (FS.g hF rfl)
        refine ⟨_, rfl, (by decide), (by decide), (by decide), ?_⟩
        refine ⟨fun (c5 : (¬ ((J 236 0) : Int) = 14)) => ?_, fun (c5 : (((J 236 0) : Int) = 14)) => ?_⟩
        ·
          refine ⟨_, rfl, (by decide), ?_⟩
          refine fun w0 hw0 => ?_; obtain rfl : w0 = some 236 := hw0.symm.trans (FS.g hF rfl)
          have n6 : (wr (66 * (J 236 0))) = 66 * (J 236 0) := wr_id (show -2147483648 ≤ (66 * (J 236 0) : Int) ∧ (66 * (J 236 0) : Int) < 2147483648 from by omega)
          have n7 : (wr (304 + (wr (66 * (J 236 0))))) = 304 + (wr (66 * (J 236 0))) := wr_id (show -2147483648 ≤ (304 + (wr (66 * (J 236 0))) : Int) ∧ (304 + (wr (66 * (J 236 0))) : Int) < 2147483648 from by omega)
          have n8 : (wr ((wr (304 + (wr (66 * (J 236 0))))) + 0)) = (wr (304 + (wr (66 * (J 236 0))))) + 0 := wr_id (show -2147483648 ≤ ((wr (304 + (wr (66 * (J 236 0))))) + 0 : Int) ∧ ((wr (304 + (wr (66 * (J 236 0))))) + 0 : Int) < 2147483648 from by omega)
          refine ⟨_, rfl, (by decide), (show (0 : Int) ≤ (wr ((wr (304 + (wr (66 * (J 236 0))))) + 0)) from by first | with_reducible assumption | omega | (simp only [wr, wl] at *; omega)), (show (wr ((wr (304 + (wr (66 * (J 236 0))))) + 0)) < (1340 : Int) from by first | with_reducible assumption | omega | (simp only [wr, wl] at *; omega)), ?_⟩
          have p9 : Pn (Int.toNat (wr ((wr (304 + (wr (66 * (J 236 0))))) + 0))) v0 := by apply Pn_w <;> omega
          refine ⟨_, rfl, (by decide), ?_⟩
          refine fun w0 hw0 => ?_; obtain rfl : w0 = some 236 := hw0.symm.trans (FS.g hF rfl)
          have n10 : (wr ((wr (304 + (wr (66 * (J 236 0))))) + 1)) = (wr (304 + (wr (66 * (J 236 0))))) + 1 := wr_id (show -2147483648 ≤ ((wr (304 + (wr (66 * (J 236 0))))) + 1 : Int) ∧ ((wr (304 + (wr (66 * (J 236 0))))) + 1 : Int) < 2147483648 from by omega)
          refine ⟨_, rfl, (by decide), (show (0 : Int) ≤ (wr ((wr (304 + (wr (66 * (J 236 0))))) + 1)) from by first | with_reducible assumption | omega | (simp only [wr, wl] at *; omega)), (show (wr ((wr (304 + (wr (66 * (J 236 0))))) + 1)) < (1340 : Int) from by first | with_reducible assumption | omega | (simp only [wr, wl] at *; omega)), ?_⟩
          have p11 : Pn (Int.toNat (wr ((wr (304 + (wr (66 * (J 236 0))))) + 1))) v1 := by apply Pn_w <;> omega
          refine ⟨_, rfl, (by decide), ?_⟩
          refine fun w0 hw0 => ?_; obtain rfl : w0 = some 236 := hw0.symm.trans (FS.g hF rfl)
          have n12 : (wr ((wr (304 + (wr (66 * (J 236 0))))) + 2)) = (wr (304 + (wr (66 * (J 236 0))))) + 2 := wr_id (show -2147483648 ≤ ((wr (304 + (wr (66 * (J 236 0))))) + 2 : Int) ∧ ((wr (304 + (wr (66 * (J 236 0))))) + 2 : Int) < 2147483648 from by omega)
          refine ⟨_, rfl, (by decide), (show (0 : Int) ≤ (wr ((wr (304 + (wr (66 * (J 236 0))))) + 2)) from by first | with_reducible assumption | omega | (simp only [wr, wl] at *; omega)), (show (wr ((wr (304 + (wr (66 * (J 236 0))))) + 2)) < (1340 : Int) from by first | with_reducible assumption | omega | (simp only [wr, wl] at *; omega)), ?_⟩
          have p13 : Pn (Int.toNat (wr ((wr (304 + (wr (66 * (J 236 0))))) + 2))) v2 := by apply Pn_w <;> omega
          refine ⟨_, rfl, (by decide), ?_⟩
          refine fun w0 hw0 => ?_; obtain rfl : w0 = some 236 := hw0.symm.trans (FS.g hF rfl)
          have n14 : (wr ((wr (304 + (wr (66 * (J 236 0))))) + 3)) = (wr (304 + (wr (66 * (J 236 0))))) + 3 := wr_id (show -2147483648 ≤ ((wr (304 + (wr (66 * (J 236 0))))) + 3 : Int) ∧ ((wr (304 + (wr (66 * (J 236 0))))) + 3 : Int) < 2147483648 from by omega)
          refine ⟨_, rfl, (by decide), (show (0 : Int) ≤ (wr ((wr (304 + (wr (66 * (J 236 0))))) + 3)) from by first | with_reducible assumption | omega | (simp only [wr, wl] at *; omega)), (show (wr ((wr (304 + (wr (66 * (J 236 0))))) + 3)) < (1340 : Int) from by first | with_reducible assumption | omega | (simp only [wr, wl] at *; omega)), ?_⟩
          have p15 : Pn (Int.toNat (wr ((wr (304 + (wr (66 * (J 236 0))))) + 3))) v4 := by apply Pn_w <;> omega
          refine ⟨_, rfl, (by decide), ?_⟩
          refine fun w0 hw0 => ?_; obtain rfl : w0 = some 236 := hw0.symm.trans (FS.g hF rfl)
          have n16 : (wr ((wr (304 + (wr (66 * (J 236 0))))) + 4)) = (wr (304 + (wr (66 * (J 236 0))))) + 4 := wr_id (show -2147483648 ≤ ((wr (304 + (wr (66 * (J 236 0))))) + 4 : Int) ∧ ((wr (304 + (wr (66 * (J 236 0))))) + 4 : Int) < 2147483648 from by omega)
          refine ⟨_, rfl, (by decide), (show (0 : Int) ≤ (wr ((wr (304 + (wr (66 * (J 236 0))))) + 4)) from by first | with_reducible assumption | omega | (simp only [wr, wl] at *; omega)), (show (wr ((wr (304 + (wr (66 * (J 236 0))))) + 4)) < (1340 : Int) from by first | with_reducible assumption | omega | (simp only [wr, wl] at *; omega)), ?_⟩
          have p17 : Pn (Int.toNat (wr ((wr (304 + (wr (66 * (J 236 0))))) + 4))) 0 := by apply Pn_w <;> omega
          have u18 : ((uI (uI (uI (uI (uI J 236 (Int.toNat (wr ((wr (304 + (wr (66 * (J 236 0))))) + 0))) v0) 236 (Int.toNat (wr ((wr (304 + (wr (66 * (J 236 0))))) + 1))) v1) 236 (Int.toNat (wr ((wr (304 + (wr (66 * (J 236 0))))) + 2))) v2) 236 (Int.toNat (wr ((wr (304 + (wr (66 * (J 236 0))))) + 3))) v4) 236 (Int.toNat (wr ((wr (304 + (wr (66 * (J 236 0))))) + 4))) 0) 236 0) = (J 236 0) := (uJ_ne (by omega)).trans ((uJ_ne (by omega)).trans ((uJ_ne (by omega)).trans ((uJ_ne (by omega)).trans (uJ_ne (by omega)))))
          have hz19 := c106 0
          refine r_piece6_l2 hF (Rg.u (Rg.u (Rg.u (Rg.u (Rg.u hJ (Pr_n p9)) (Pr_n p11)) (Pr_n p13)) (Pr_n p15)) (Pr_n p17)) (by omega) (by omega) (by omega) (by omega) (by omega) (fun r I' g1 g2 g3 g4 => by
                              have e0 : ((uI (uI (uI (uI (uI J 236 (Int.toNat (wr ((wr (304 + (wr (66 * (J 236 0))))) + 0))) v0) 236 (Int.toNat (wr ((wr (304 + (wr (66 * (J 236 0))))) + 1))) v1) 236 (Int.toNat (wr ((wr (304 + (wr (66 * (J 236 0))))) + 2))) v2) 236 (Int.toNat (wr ((wr (304 + (wr (66 * (J 236 0))))) + 3))) v4) 236 (Int.toNat (wr ((wr (304 + (wr (66 * (J 236 0))))) + 4))) 0) 236 0) = I 236 0 := (uJ_ne (show ¬ 0 = (Int.toNat (wr ((wr (304 + (wr (66 * (J 236 0))))) + 4))) from by omega)).trans ((uJ_ne (show ¬ 0 = (Int.toNat (wr ((wr (304 + (wr (66 * (J 236 0))))) + 3))) from by omega)).trans ((uJ_ne (show ¬ 0 = (Int.toNat (wr ((wr (304 + (wr (66 * (J 236 0))))) + 2))) from by omega)).trans ((uJ_ne (show ¬ 0 = (Int.toNat (wr ((wr (304 + (wr (66 * (J 236 0))))) + 1))) from by omega)).trans ((uJ_ne (show ¬ 0 = (Int.toNat (wr ((wr (304 + (wr (66 * (J 236 0))))) + 0))) from by omega)).trans (c106 0)))))
                              rw [e0] at g2 g3 g4
                              exact hQ _ _ g1 (fun ka ja hk => (g2 ka ja (by omega)).trans (((uI_o (show ¬ (ka = 236 ∧ ja = (Int.toNat (wr ((wr (304 + (wr (66 * (J 236 0))))) + 4)))) from by omega))).trans (((uI_o (show ¬ (ka = 236 ∧ ja = (Int.toNat (wr ((wr (304 + (wr (66 * (J 236 0))))) + 3)))) from by omega))).trans (((uI_o (show ¬ (ka = 236 ∧ ja = (Int.toNat (wr ((wr (304 + (wr (66 * (J 236 0))))) + 2)))) from by omega))).trans (((uI_o (show ¬ (ka = 236 ∧ ja = (Int.toNat (wr ((wr (304 + (wr (66 * (J 236 0))))) + 1)))) from by omega))).trans (((uI_o (show ¬ (ka = 236 ∧ ja = (Int.toNat (wr ((wr (304 + (wr (66 * (J 236 0))))) + 0)))) from by omega))).trans ((hV ka ja (by omega))))))))) ⟨by
                                  refine ⟨fun z => absurd (show GD (fun j => I 252 (24 * Int.toNat v3 + j)) (I 251 (Int.toNat v3)) v4 0 9999 from ⟨(c105.1 (by omega)).1, fun j hj => (c105.1 (by omega)).2 j (by omega)⟩) z, fun z e => ?_, fun z e => ?_⟩ <;> omega, fun j h1 h2 => (g2 236 j (by omega)).trans ((uJ_ne (show ¬ j = (Int.toNat (wr ((wr (304 + (wr (66 * (J 236 0))))) + 4))) from by omega)).trans ((uJ_ne (show ¬ j = (Int.toNat (wr ((wr (304 + (wr (66 * (J 236 0))))) + 3))) from by omega)).trans ((uJ_ne (show ¬ j = (Int.toNat (wr ((wr (304 + (wr (66 * (J 236 0))))) + 2))) from by omega)).trans ((uJ_ne (show ¬ j = (Int.toNat (wr ((wr (304 + (wr (66 * (J 236 0))))) + 1))) from by omega)).trans ((uJ_ne (show ¬ j = (Int.toNat (wr ((wr (304 + (wr (66 * (J 236 0))))) + 0))) from by omega)).trans (c106 j)))))), fun _ => ⟨(g2 236 ((304 + 66 * Int.toNat (I 236 0)) + 0) (by omega)).trans ((uJ_ne (show ¬ (304 + 66 * Int.toNat (I 236 0)) + 0 = (Int.toNat (wr ((wr (304 + (wr (66 * (J 236 0))))) + 4))) from by omega)).trans ((uJ_ne (show ¬ (304 + 66 * Int.toNat (I 236 0)) + 0 = (Int.toNat (wr ((wr (304 + (wr (66 * (J 236 0))))) + 3))) from by omega)).trans ((uJ_ne (show ¬ (304 + 66 * Int.toNat (I 236 0)) + 0 = (Int.toNat (wr ((wr (304 + (wr (66 * (J 236 0))))) + 2))) from by omega)).trans ((uJ_ne (show ¬ (304 + 66 * Int.toNat (I 236 0)) + 0 = (Int.toNat (wr ((wr (304 + (wr (66 * (J 236 0))))) + 1))) from by omega)).trans ((by rw [show (304 + 66 * Int.toNat (I 236 0)) + 0 = (Int.toNat (wr ((wr (304 + (wr (66 * (J 236 0))))) + 0))) from by omega]; exact uJ_eq)))))), (g2 236 ((304 + 66 * Int.toNat (I 236 0)) + 1) (by omega)).trans ((uJ_ne (show ¬ (304 + 66 * Int.toNat (I 236 0)) + 1 = (Int.toNat (wr ((wr (304 + (wr (66 * (J 236 0))))) + 4))) from by omega)).trans ((uJ_ne (show ¬ (304 + 66 * Int.toNat (I 236 0)) + 1 = (Int.toNat (wr ((wr (304 + (wr (66 * (J 236 0))))) + 3))) from by omega)).trans ((uJ_ne (show ¬ (304 + 66 * Int.toNat (I 236 0)) + 1 = (Int.toNat (wr ((wr (304 + (wr (66 * (J 236 0))))) + 2))) from by omega)).trans ((by rw [show (304 + 66 * Int.toNat (I 236 0)) + 1 = (Int.toNat (wr ((wr (304 + (wr (66 * (J 236 0))))) + 1))) from by omega]; exact uJ_eq))))), (g2 236 ((304 + 66 * Int.toNat (I 236 0)) + 2) (by omega)).trans ((uJ_ne (show ¬ (304 + 66 * Int.toNat (I 236 0)) + 2 = (Int.toNat (wr ((wr (304 + (wr (66 * (J 236 0))))) + 4))) from by omega)).trans ((uJ_ne (show ¬ (304 + 66 * Int.toNat (I 236 0)) + 2 = (Int.toNat (wr ((wr (304 + (wr (66 * (J 236 0))))) + 3))) from by omega)).trans ((by rw [show (304 + 66 * Int.toNat (I 236 0)) + 2 = (Int.toNat (wr ((wr (304 + (wr (66 * (J 236 0))))) + 2))) from by omega]; exact uJ_eq)))), (g2 236 ((304 + 66 * Int.toNat (I 236 0)) + 3) (by omega)).trans ((uJ_ne (show ¬ (304 + 66 * Int.toNat (I 236 0)) + 3 = (Int.toNat (wr ((wr (304 + (wr (66 * (J 236 0))))) + 4))) from by omega)).trans ((by rw [show (304 + 66 * Int.toNat (I 236 0)) + 3 = (Int.toNat (wr ((wr (304 + (wr (66 * (J 236 0))))) + 3))) from by omega]; exact uJ_eq))), (g2 236 ((304 + 66 * Int.toNat (I 236 0)) + 4) (by omega)).trans ((by rw [show (304 + 66 * Int.toNat (I 236 0)) + 4 = (Int.toNat (wr ((wr (304 + (wr (66 * (J 236 0))))) + 4))) from by omega]; exact uJ_eq)), fun j hj => (by rw [show (304 + 66 * Int.toNat (I 236 0)) + 5 + j = 309 + 66 * Int.toNat (I 236 0) + j from by omega]; exact (g4 j hj).trans ((uI_o (show ¬ (252 = 236 ∧ 24 * Int.toNat v3 + j = (Int.toNat (wr ((wr (304 + (wr (66 * (J 236 0))))) + 4)))) from fun e => absurd e.1 (Nat.ne_of_beq_eq_false rfl))).trans ((uI_o (show ¬ (252 = 236 ∧ 24 * Int.toNat v3 + j = (Int.toNat (wr ((wr (304 + (wr (66 * (J 236 0))))) + 3)))) from fun e => absurd e.1 (Nat.ne_of_beq_eq_false rfl))).trans ((uI_o (show ¬ (252 = 236 ∧ 24 * Int.toNat v3 + j = (Int.toNat (wr ((wr (304 + (wr (66 * (J 236 0))))) + 2)))) from fun e => absurd e.1 (Nat.ne_of_beq_eq_false rfl))).trans ((uI_o (show ¬ (252 = 236 ∧ 24 * Int.toNat v3 + j = (Int.toNat (wr ((wr (304 + (wr (66 * (J 236 0))))) + 1)))) from fun e => absurd e.1 (Nat.ne_of_beq_eq_false rfl))).trans ((uI_o (show ¬ (252 = 236 ∧ 24 * Int.toNat v3 + j = (Int.toNat (wr ((wr (304 + (wr (66 * (J 236 0))))) + 0)))) from fun e => absurd e.1 (Nat.ne_of_beq_eq_false rfl))).trans (hV 252 _ (by first | decide | omega))))))))⟩⟩) _ g (J 236 0) (wr (304 + (wr (66 * (J 236 0))))) 0 (uI (uI (uI (uI (uI J 236 (Int.toNat (wr ((wr (304 + (wr (66 * (J 236 0))))) + 0))) v0) 236 (Int.toNat (wr ((wr (304 + (wr (66 * (J 236 0))))) + 1))) v1) 236 (Int.toNat (wr ((wr (304 + (wr (66 * (J 236 0))))) + 2))) v2) 236 (Int.toNat (wr ((wr (304 + (wr (66 * (J 236 0))))) + 3))) v4) 236 (Int.toNat (wr ((wr (304 + (wr (66 * (J 236 0))))) + 4))) 0) (Rg.u (Rg.u (Rg.u (Rg.u (Rg.u hJ (Pr_n p9)) (Pr_n p11)) (Pr_n p13)) (Pr_n p15)) (Pr_n p17)) (fun _ _ _ => rfl) (show (0 : Int) ≤ (J 236 0) from by first | rfl | omega) (show ((J 236 0) : Int) ≤ 13 from by first | rfl | omega) (show (304 : Int) ≤ (wr (304 + (wr (66 * (J 236 0))))) from by first | rfl | omega) (show ((wr (304 + (wr (66 * (J 236 0))))) : Int) ≤ 1162 from by first | rfl | omega) (show (0 : Int) ≤ (0 : Int) from by first | rfl | omega) (show ((0 : Int) : Int) ≤ 12 from by first | rfl | omega) (show ((uI (uI (uI (uI (uI J 236 (Int.toNat (wr ((wr (304 + (wr (66 * (J 236 0))))) + 0))) v0) 236 (Int.toNat (wr ((wr (304 + (wr (66 * (J 236 0))))) + 1))) v1) 236 (Int.toNat (wr ((wr (304 + (wr (66 * (J 236 0))))) + 2))) v2) 236 (Int.toNat (wr ((wr (304 + (wr (66 * (J 236 0))))) + 3))) v4) 236 (Int.toNat (wr ((wr (304 + (wr (66 * (J 236 0))))) + 4))) 0) 236 0) = (J 236 0) from by first | rfl | omega) (show (wr (304 + (wr (66 * (J 236 0))))) = 304 + 66 * (J 236 0) from by first | rfl | omega) (show (J 236 0) = (uI (uI (uI (uI (uI J 236 (Int.toNat (wr ((wr (304 + (wr (66 * (J 236 0))))) + 0))) v0) 236 (Int.toNat (wr ((wr (304 + (wr (66 * (J 236 0))))) + 1))) v1) 236 (Int.toNat (wr ((wr (304 + (wr (66 * (J 236 0))))) + 2))) v2) 236 (Int.toNat (wr ((wr (304 + (wr (66 * (J 236 0))))) + 3))) v4) 236 (Int.toNat (wr ((wr (304 + (wr (66 * (J 236 0))))) + 4))) 0) 236 0 from by first | rfl | omega) (show (0 : Int) ≤ v4 from by first | rfl | omega) (fun j hj => absurd hj (by omega)) (Nat.lt_succ_self _)
        ·
          refine ⟨⟨_, rfl, (by decide)⟩, ?_⟩
          refine s_X12_finding hF (v := (-1000004)) (by decide) ?_
          have hN20 : ((uI J 238 4 (wr ((J 238 4) + 1))) 236 0) = (J 236 0) := by first | rfl | omega
          exact ⟨rfl, hQ _ _ (Rg.u hJ (Pr_f rfl)) (fun ka ja hk => ((uI_o (show ¬ (ka = 238 ∧ ja = 4) from by first | (intro e; obtain ⟨rfl, rfl⟩ := e; exact hk (by decide)) | omega))).trans ((hV ka ja (by omega)))) (⟨show PR (-1000004) ((uI J 238 4 (wr ((J 238 4) + 1))) 236 0) (I 236 0) (GD (fun j => I 252 (24 * Int.toNat v3 + j)) (I 251 (Int.toNat v3)) v4 0 9999) from by
                              refine ⟨fun z => ?_, fun z e => ?_, fun z e => ?_⟩
                              all_goals first | omega | (exact absurd z (c105.2 (by omega))) | (exact absurd (show GD (fun j => I 252 (24 * Int.toNat v3 + j)) (I 251 (Int.toNat v3)) v4 0 9999 from ⟨(c105.1 (by omega)).1, fun j hj => (c105.1 (by omega)).2 j (by omega)⟩) z), fun j _ _ => (uI_o (fun e => absurd e.1 (by decide))).trans (c106 j), fun z => absurd (show ((uI J 238 4 (wr ((J 238 4) + 1))) 236 0) = I 236 0 + 1 from z) (by omega)⟩)⟩
      ·
        refine ⟨⟨_, rfl, (by decide)⟩, ?_⟩
        refine s_X12_finding hF (v := (-1000001)) (by decide) ?_
        have hN21 : ((uI J 238 1 (wr ((J 238 1) + 1))) 236 0) = (J 236 0) := by first | rfl | omega
        exact ⟨rfl, hQ _ _ (Rg.u hJ (Pr_f rfl)) (fun ka ja hk => ((uI_o (show ¬ (ka = 238 ∧ ja = 1) from by first | (intro e; obtain ⟨rfl, rfl⟩ := e; exact hk (by decide)) | omega))).trans ((hV ka ja (by omega)))) (⟨show PR (-1000001) ((uI J 238 1 (wr ((J 238 1) + 1))) 236 0) (I 236 0) (GD (fun j => I 252 (24 * Int.toNat v3 + j)) (I 251 (Int.toNat v3)) v4 0 9999) from by
                              refine ⟨fun z => ?_, fun z e => ?_, fun z e => ?_⟩
                              all_goals first | omega | (exact absurd z (c105.2 (by omega))) | (exact absurd (show GD (fun j => I 252 (24 * Int.toNat v3 + j)) (I 251 (Int.toNat v3)) v4 0 9999 from ⟨(c105.1 (by omega)).1, fun j hj => (c105.1 (by omega)).2 j (by omega)⟩) z), fun j _ _ => (uI_o (fun e => absurd e.1 (by decide))).trans (c106 j), fun z => absurd (show ((uI J 238 1 (wr ((J 238 1) + 1))) 236 0) = I 236 0 + 1 from z) (by omega)⟩)⟩
    ·
      refine ⟨fun (c22 : ((g : Int) = 0)) => ?_, fun (c22 : (¬ ((g : Int) = 0))) => ?_⟩
      ·
        refine ⟨fun c => absurd (show ((g : Int) = 0) from by first | omega | (simp only [wr, wl] at *; omega)) c, fun _ => ?_⟩
        refine ⟨⟨_, rfl, (by decide)⟩, ?_⟩
        refine s_X12_finding hF (v := (-1000001)) (by decide) ?_
        have hN23 : ((uI J 238 1 (wr ((J 238 1) + 1))) 236 0) = (J 236 0) := by first | rfl | omega
        exact ⟨rfl, hQ _ _ (Rg.u hJ (Pr_f rfl)) (fun ka ja hk => ((uI_o (show ¬ (ka = 238 ∧ ja = 1) from by first | (intro e; obtain ⟨rfl, rfl⟩ := e; exact hk (by decide)) | omega))).trans ((hV ka ja (by omega)))) (⟨show PR (-1000001) ((uI J 238 1 (wr ((J 238 1) + 1))) 236 0) (I 236 0) (GD (fun j => I 252 (24 * Int.toNat v3 + j)) (I 251 (Int.toNat v3)) v4 0 9999) from by
                              refine ⟨fun z => ?_, fun z e => ?_, fun z e => ?_⟩
                              all_goals first | omega | (exact absurd z (c105.2 (by omega))) | (exact absurd (show GD (fun j => I 252 (24 * Int.toNat v3 + j)) (I 251 (Int.toNat v3)) v4 0 9999 from ⟨(c105.1 (by omega)).1, fun j hj => (c105.1 (by omega)).2 j (by omega)⟩) z), fun j _ _ => (uI_o (fun e => absurd e.1 (by decide))).trans (c106 j), fun z => absurd (show ((uI J 238 1 (wr ((J 238 1) + 1))) 236 0) = I 236 0 + 1 from z) (by omega)⟩)⟩
      ·
        refine ⟨_, rfl, (by decide), ?_⟩
        refine fun w0 hw0 => ?_; obtain rfl : w0 = some 252 := hw0.symm.trans (FS.g hF rfl)
        have n24 : (wr (24 * v3)) = 24 * v3 := wr_id (show -2147483648 ≤ (24 * v3 : Int) ∧ (24 * v3 : Int) < 2147483648 from by omega)
        have n25 : (wr ((wr (24 * v3)) + k)) = (wr (24 * v3)) + k := wr_id (show -2147483648 ≤ ((wr (24 * v3)) + k : Int) ∧ ((wr (24 * v3)) + k : Int) < 2147483648 from by omega)
        refine ⟨_, rfl, (by decide), (show (0 : Int) ≤ (wr ((wr (24 * v3)) + k)) from by first | with_reducible assumption | omega | (simp only [wr, wl] at *; omega)), (show (wr ((wr (24 * v3)) + k)) < (96 : Int) from by first | with_reducible assumption | omega | (simp only [wr, wl] at *; omega)), ?_⟩
        have u26 : (J 252 (Int.toNat (wr ((wr (24 * v3)) + k)))) = (I 252 (Int.toNat (wr ((wr (24 * v3)) + k)))) := hV _ _ (by first | decide | omega)
        have a27 : -2147483648 ≤ (J 252 (Int.toNat (wr ((wr (24 * v3)) + k)))) ∧ (J 252 (Int.toNat (wr ((wr (24 * v3)) + k)))) < 2147483648 := hA.1 _ _
        refine s_X12_within (fun (w28 : ((0 : Int) ≤ (J 252 (Int.toNat (wr ((wr (24 * v3)) + k)))) ∧ ((J 252 (Int.toNat (wr ((wr (24 * v3)) + k)))) : Int) ≤ 9999)) => ?_) (fun (w28 : ¬ ((0 : Int) ≤ (J 252 (Int.toNat (wr ((wr (24 * v3)) + k)))) ∧ ((J 252 (Int.toNat (wr ((wr (24 * v3)) + k)))) : Int) ≤ 9999)) => ?_)
        ·
          have n29 : (wr (k + 1)) = k + 1 := wr_id (show -2147483648 ≤ (k + 1 : Int) ∧ (k + 1 : Int) < 2147483648 from by omega)
          exact ih 1 (wr (k + 1)) J hJ (fun ka ja hk => (hV ka ja (by omega))) (show (0 : Int) ≤ (wr (k + 1)) from by first | with_reducible assumption | omega | (simp only [wr, wl] at *; omega)) (show ((wr (k + 1)) : Int) ≤ 12 from by first | with_reducible assumption | omega | (simp only [wr, wl] at *; omega)) (show (J 236 0) = I 236 0 from by first | omega | (simp only [wr, wl] at *; omega)) (show 0 ≤ (1 : Int) ∧ (1 : Int) ≤ 1 from by first | omega | (simp only [wr, wl] at *; omega)) (show (wr (k + 1)) ≤ v4 from by first | with_reducible assumption | omega | (simp only [wr, wl] at *; omega)) (⟨fun _ => ⟨(c105.1 (by omega)).1, fun j hj => if e : j = Int.toNat k then (by rw [e, show 24 * Int.toNat v3 + Int.toNat k = Int.toNat (wr ((wr (24 * v3)) + k)) from by omega]; omega) else (c105.1 (by omega)).2 j (by omega)⟩, fun z => absurd z (by decide)⟩) (c106) (show (12 - (wr (k + 1))).toNat < mz from by omega)
        ·
          have n30 : (wr (k + 1)) = k + 1 := wr_id (show -2147483648 ≤ (k + 1 : Int) ∧ (k + 1 : Int) < 2147483648 from by omega)
          exact ih 0 (wr (k + 1)) J hJ (fun ka ja hk => (hV ka ja (by omega))) (show (0 : Int) ≤ (wr (k + 1)) from by first | with_reducible assumption | omega | (simp only [wr, wl] at *; omega)) (show ((wr (k + 1)) : Int) ≤ 12 from by first | with_reducible assumption | omega | (simp only [wr, wl] at *; omega)) (show (J 236 0) = I 236 0 from by first | omega | (simp only [wr, wl] at *; omega)) (show 0 ≤ (0 : Int) ∧ (0 : Int) ≤ 1 from by first | omega | (simp only [wr, wl] at *; omega)) (show (wr (k + 1)) ≤ v4 from by first | with_reducible assumption | omega | (simp only [wr, wl] at *; omega)) (⟨fun z => absurd z (by decide), fun _ z => (by have y : 0 ≤ I 252 (24 * Int.toNat v3 + Int.toNat k) ∧ I 252 (24 * Int.toNat v3 + Int.toNat k) ≤ 9999 := z.2 (Int.toNat k) (by omega); rw [show 24 * Int.toNat v3 + Int.toNat k = Int.toNat (wr ((wr (24 * v3)) + k)) from by omega] at y; omega)⟩) (c106) (show (12 - (wr (k + 1))).toNat < mz from by omega)
theorem r_piece6 (hF : FS F) (hR : Rg I) {v0 v1 v2 v3 v4 : Int}  (hQ : ∀ (r : Int) (I' : pI), Rg I' → AR I' → iR r → (∀ k j, ¬ (k = 238 ∨ (k = 236 ∧ (j = 0 ∨ (304 ≤ j ∧ j < 1228)))) → I' k j = I k j) → ((PT r (I' 236 0) (I 236 0) (VA v0 v1 v2 v3 v4) (I 250 (Int.toNat v3)) (GD (fun j => I 252 (24 * Int.toNat v3 + j)) (I 251 (Int.toNat v3)) v4 0 9999)) ∧ (∀ j, j < 304 + 66 * Int.toNat (I 236 0) → ¬ j = 0 → I' 236 j = I 236 j) ∧ (I' 236 0 = I 236 0 + 1 → I' 236 (304 + 66 * Int.toNat (I 236 0)) = v0 ∧ I' 236 ((304 + 66 * Int.toNat (I 236 0)) + 1) = v1 ∧ I' 236 ((304 + 66 * Int.toNat (I 236 0)) + 2) = v2 ∧ I' 236 ((304 + 66 * Int.toNat (I 236 0)) + 3) = v4 ∧ I' 236 ((304 + 66 * Int.toNat (I 236 0)) + 4) = 0 ∧ ∀ j : Nat, (j : Int) < v4 → I' 236 ((304 + 66 * Int.toNat (I 236 0)) + 5 + j) = I 252 (24 * Int.toNat v3 + j))) → Q (some (vi r)) F I') : CallN G (d + 2) kX12_piece [vr 235, vi v0, vi v1, vi v2, vi v3, vi v4] NP F I Q := by
  refine CallN_in (fun hok hA => CallN_out ?_)
  have iv0 : -2147483648 ≤ v0 ∧ v0 < 2147483648 := hok (vi v0) (by simp)
  have iv1 : -2147483648 ≤ v1 ∧ v1 < 2147483648 := hok (vi v1) (by simp)
  have iv2 : -2147483648 ≤ v2 ∧ v2 < 2147483648 := hok (vi v2) (by simp)
  have iv3 : -2147483648 ≤ v3 ∧ v3 < 2147483648 := hok (vi v3) (by simp)
  have iv4 : -2147483648 ≤ v4 ∧ v4 < 2147483648 := hok (vi v4) (by simp)
  refine Call_wp (lv := [some (vr 235), some (vi v0), some (vi v1), some (vi v2), some (vi v3), some (vi v4), none, none, none, none]) (by decide) ckX12_piece [93] rfl rfl ?_
  refine s_X12_within (fun (w1 : ((0 : Int) ≤ v0 ∧ (v0 : Int) ≤ 5)) => ?_) (fun (w1 : ¬ ((0 : Int) ≤ v0 ∧ (v0 : Int) ≤ 5)) => ?_)
  ·
    refine ⟨fun c => absurd c (show (¬ ((1 : Int) = 0)) from by decide), fun _ => ?_⟩
    refine s_X12_within (fun (w2 : ((0 : Int) ≤ v1 ∧ (v1 : Int) ≤ 3)) => ?_) (fun (w2 : ¬ ((0 : Int) ≤ v1 ∧ (v1 : Int) ≤ 3)) => ?_)
    ·
      refine ⟨fun c => absurd c (show (¬ ((1 : Int) = 0)) from by decide), fun _ => ?_⟩
      refine s_X12_within (fun (w3 : ((1 : Int) ≤ v2 ∧ (v2 : Int) ≤ 99)) => ?_) (fun (w3 : ¬ ((1 : Int) ≤ v2 ∧ (v2 : Int) ≤ 99)) => ?_)
      ·
        refine ⟨fun c => absurd c (show (¬ ((1 : Int) = 0)) from by decide), fun _ => ?_⟩
        refine s_X12_isSheet (fun (w4 : ((0 : Int) ≤ v3 ∧ (v3 : Int) ≤ 3)) => ?_) (fun (w4 : ¬ ((0 : Int) ≤ v3 ∧ (v3 : Int) ≤ 3)) => ?_)
        ·
          refine ⟨fun c => absurd c (show (¬ ((1 : Int) = 0)) from by decide), fun _ => ?_⟩
          refine s_X12_within (fun (w5 : ((2 : Int) ≤ v4 ∧ (v4 : Int) ≤ 12)) => ?_) (fun (w5 : ¬ ((2 : Int) ≤ v4 ∧ (v4 : Int) ≤ 12)) => ?_)
          ·
            refine ⟨fun _ => ?_, fun c => absurd c (show (¬ (1 : Int) = 0) from by decide)⟩
            refine ⟨_, rfl, (by decide), ?_⟩
            refine fun w0 hw0 => ?_; obtain rfl : w0 = some 250 := hw0.symm.trans (FS.g hF rfl)
            refine ⟨_, rfl, (by decide), (show (0 : Int) ≤ v3 from by first | with_reducible assumption | omega | (simp only [wr, wl] at *; omega)), (show v3 < (4 : Int) from by first | with_reducible assumption | omega | (simp only [wr, wl] at *; omega)), ?_⟩
            have a6 : -2147483648 ≤ (I 250 (Int.toNat v3)) ∧ (I 250 (Int.toNat v3)) < 2147483648 := hA.1 _ _
            refine ⟨fun (c7 : (¬ ((I 250 (Int.toNat v3)) : Int) = 0)) => ?_, fun (c7 : (((I 250 (Int.toNat v3)) : Int) = 0)) => ?_⟩
            ·
              refine ⟨_, rfl, (by decide), ?_⟩
              refine fun w0 hw0 => ?_; obtain rfl : w0 = some 251 := hw0.symm.trans (FS.g hF rfl)
              refine ⟨_, rfl, (by decide), (show (0 : Int) ≤ v3 from by first | with_reducible assumption | omega | (simp only [wr, wl] at *; omega)), (show v3 < (4 : Int) from by first | with_reducible assumption | omega | (simp only [wr, wl] at *; omega)), ?_⟩
              have r8 : 0 ≤ (I 251 (Int.toNat v3)) ∧ (I 251 (Int.toNat v3)) ≤ 24 := hR.s _ (by omega)
              refine ⟨fun (c10 : (((I 251 (Int.toNat v3)) : Int) < v4)) => ?_, fun (c10 : (¬ (((I 251 (Int.toNat v3)) : Int) < v4))) => ?_⟩
              ·
                have r11 : 0 ≤ (I 236 0) ∧ (I 236 0) ≤ 14 := Rg.n0 hR
                refine r_piece6_l1 hF hR (by omega) (by omega) (by omega) (by omega) (by omega) (fun r I' g1 g2 g3 hv hA' => hQ _ _ g1 hA' (hv _ rfl) g2 ⟨⟨fun z => absurd (show VA v0 v1 v2 v3 v4 from by unfold VA; omega) z, fun z b => absurd b (by omega), fun z b => g3.1⟩, g3.2.1, g3.2.2⟩) _ 0 0 I hR (fun _ _ _ => rfl) (show (0 : Int) ≤ (0 : Int) from Int.le_refl _) (show ((0 : Int) : Int) ≤ 12 from by first | with_reducible assumption | omega | (simp only [wr, wl] at *; omega)) (show (I 236 0) = I 236 0 from by first | omega | (simp only [wr, wl] at *; omega)) (show 0 ≤ (0 : Int) ∧ (0 : Int) ≤ 1 from by first | omega | (simp only [wr, wl] at *; omega)) (show (0 : Int) ≤ v4 from by first | with_reducible assumption | omega | (simp only [wr, wl] at *; omega)) (⟨fun z => absurd z (by decide), fun _ z => absurd z.1 (by omega)⟩) (fun _ => rfl) (Nat.lt_succ_self _)
              ·
                have r13 : 0 ≤ (I 236 0) ∧ (I 236 0) ≤ 14 := Rg.n0 hR
                refine r_piece6_l1 hF hR (by omega) (by omega) (by omega) (by omega) (by omega) (fun r I' g1 g2 g3 hv hA' => hQ _ _ g1 hA' (hv _ rfl) g2 ⟨⟨fun z => absurd (show VA v0 v1 v2 v3 v4 from by unfold VA; omega) z, fun z b => absurd b (by omega), fun z b => g3.1⟩, g3.2.1, g3.2.2⟩) _ 1 0 I hR (fun _ _ _ => rfl) (show (0 : Int) ≤ (0 : Int) from Int.le_refl _) (show ((0 : Int) : Int) ≤ 12 from by first | with_reducible assumption | omega | (simp only [wr, wl] at *; omega)) (show (I 236 0) = I 236 0 from by first | omega | (simp only [wr, wl] at *; omega)) (show 0 ≤ (1 : Int) ∧ (1 : Int) ≤ 1 from by first | omega | (simp only [wr, wl] at *; omega)) (show (0 : Int) ≤ v4 from by first | with_reducible assumption | omega | (simp only [wr, wl] at *; omega)) (⟨fun _ => ⟨by omega, fun j hj => absurd hj (by omega)⟩, fun z => absurd z (by decide)⟩) (fun _ => rfl) (Nat.lt_succ_self _)
            ·
              refine ⟨⟨_, rfl, (by decide)⟩, ?_⟩
              refine s_X12_finding hF (v := (-1000002)) (by decide) ?_
              have r15 : 0 ≤ (I 236 0) ∧ (I 236 0) ≤ 14 := Rg.n0 hR
              have hN17 : ((uI I 238 2 (wr ((I 238 2) + 1))) 236 0) = (I 236 0) := by first | rfl | omega
              exact ⟨rfl, fun hv hA' => hQ _ _ (Rg.u hR (Pr_f rfl)) hA' (hv _ rfl) (fun ka ja hk => (uI_o (show ¬ (ka = 238 ∧ ja = 2) from by first | (intro e; obtain ⟨rfl, rfl⟩ := e; exact hk (by decide)) | omega))) (⟨show PT (-1000002) ((uI I 238 2 (wr ((I 238 2) + 1))) 236 0) (I 236 0) (VA v0 v1 v2 v3 v4) (I 250 (Int.toNat v3)) (GD (fun j => I 252 (24 * Int.toNat v3 + j)) (I 251 (Int.toNat v3)) v4 0 9999) from by
                                        refine ⟨fun z => ?_, fun z b => ?_, fun z b => ⟨fun g => ?_, fun g e => ?_, fun g e => ?_⟩⟩
                                        all_goals (unfold VA at z; omega), fun j _ _ => uI_o (fun e => absurd e.1 (by decide)), fun z => absurd (show ((uI I 238 2 (wr ((I 238 2) + 1))) 236 0) = I 236 0 + 1 from z) (by omega)⟩)⟩
          ·
            refine ⟨fun c => absurd (show ((0 : Int) = 0) from by decide) c, fun _ => ?_⟩
            refine ⟨⟨_, rfl, (by decide)⟩, ?_⟩
            refine s_X12_finding hF (v := (-1000001)) (by decide) ?_
            have r18 : 0 ≤ (I 236 0) ∧ (I 236 0) ≤ 14 := Rg.n0 hR
            have hN20 : ((uI I 238 1 (wr ((I 238 1) + 1))) 236 0) = (I 236 0) := by first | rfl | omega
            exact ⟨rfl, fun hv hA' => hQ _ _ (Rg.u hR (Pr_f rfl)) hA' (hv _ rfl) (fun ka ja hk => (uI_o (show ¬ (ka = 238 ∧ ja = 1) from by first | (intro e; obtain ⟨rfl, rfl⟩ := e; exact hk (by decide)) | omega))) (⟨show PT (-1000001) ((uI I 238 1 (wr ((I 238 1) + 1))) 236 0) (I 236 0) (VA v0 v1 v2 v3 v4) (I 250 (Int.toNat v3)) (GD (fun j => I 252 (24 * Int.toNat v3 + j)) (I 251 (Int.toNat v3)) v4 0 9999) from by
                                        refine ⟨fun z => ?_, fun z b => ?_, fun z b => ⟨fun g => ?_, fun g e => ?_, fun g e => ?_⟩⟩
                                        all_goals (unfold VA at z; omega), fun j _ _ => uI_o (fun e => absurd e.1 (by decide)), fun z => absurd (show ((uI I 238 1 (wr ((I 238 1) + 1))) 236 0) = I 236 0 + 1 from z) (by omega)⟩)⟩
        ·
          refine ⟨fun _ => ?_, fun c => absurd (show ((0 : Int) = 0) from by decide) c⟩
          refine ⟨⟨_, rfl, (by decide)⟩, ?_⟩
          refine s_X12_finding hF (v := (-1000001)) (by decide) ?_
          have r21 : 0 ≤ (I 236 0) ∧ (I 236 0) ≤ 14 := Rg.n0 hR
          have hN23 : ((uI I 238 1 (wr ((I 238 1) + 1))) 236 0) = (I 236 0) := by first | rfl | omega
          exact ⟨rfl, fun hv hA' => hQ _ _ (Rg.u hR (Pr_f rfl)) hA' (hv _ rfl) (fun ka ja hk => (uI_o (show ¬ (ka = 238 ∧ ja = 1) from by first | (intro e; obtain ⟨rfl, rfl⟩ := e; exact hk (by decide)) | omega))) (⟨show PT (-1000001) ((uI I 238 1 (wr ((I 238 1) + 1))) 236 0) (I 236 0) (VA v0 v1 v2 v3 v4) (I 250 (Int.toNat v3)) (GD (fun j => I 252 (24 * Int.toNat v3 + j)) (I 251 (Int.toNat v3)) v4 0 9999) from by
                                        refine ⟨fun z => ?_, fun z b => ?_, fun z b => ⟨fun g => ?_, fun g e => ?_, fun g e => ?_⟩⟩
                                        all_goals (unfold VA at z; omega), fun j _ _ => uI_o (fun e => absurd e.1 (by decide)), fun z => absurd (show ((uI I 238 1 (wr ((I 238 1) + 1))) 236 0) = I 236 0 + 1 from z) (by omega)⟩)⟩
      ·
        refine ⟨fun _ => ?_, fun c => absurd (show ((0 : Int) = 0) from by decide) c⟩
        refine ⟨⟨_, rfl, (by decide)⟩, ?_⟩
        refine s_X12_finding hF (v := (-1000001)) (by decide) ?_
        have r24 : 0 ≤ (I 236 0) ∧ (I 236 0) ≤ 14 := Rg.n0 hR
        have hN26 : ((uI I 238 1 (wr ((I 238 1) + 1))) 236 0) = (I 236 0) := by first | rfl | omega
        exact ⟨rfl, fun hv hA' => hQ _ _ (Rg.u hR (Pr_f rfl)) hA' (hv _ rfl) (fun ka ja hk => (uI_o (show ¬ (ka = 238 ∧ ja = 1) from by first | (intro e; obtain ⟨rfl, rfl⟩ := e; exact hk (by decide)) | omega))) (⟨show PT (-1000001) ((uI I 238 1 (wr ((I 238 1) + 1))) 236 0) (I 236 0) (VA v0 v1 v2 v3 v4) (I 250 (Int.toNat v3)) (GD (fun j => I 252 (24 * Int.toNat v3 + j)) (I 251 (Int.toNat v3)) v4 0 9999) from by
                                        refine ⟨fun z => ?_, fun z b => ?_, fun z b => ⟨fun g => ?_, fun g e => ?_, fun g e => ?_⟩⟩
                                        all_goals (unfold VA at z; omega), fun j _ _ => uI_o (fun e => absurd e.1 (by decide)), fun z => absurd (show ((uI I 238 1 (wr ((I 238 1) + 1))) 236 0) = I 236 0 + 1 from z) (by omega)⟩)⟩
    ·
      refine ⟨fun _ => ?_, fun c => absurd (show ((0 : Int) = 0) from by decide) c⟩
      refine ⟨⟨_, rfl, (by decide)⟩, ?_⟩
      refine s_X12_finding hF (v := (-1000001)) (by decide) ?_
      have r27 : 0 ≤ (I 236 0) ∧ (I 236 0) ≤ 14 := Rg.n0 hR
      have hN29 : ((uI I 238 1 (wr ((I 238 1) + 1))) 236 0) = (I 236 0) := by first | rfl | omega
      exact ⟨rfl, fun hv hA' => hQ _ _ (Rg.u hR (Pr_f rfl)) hA' (hv _ rfl) (fun ka ja hk => (uI_o (show ¬ (ka = 238 ∧ ja = 1) from by first | (intro e; obtain ⟨rfl, rfl⟩ := e; exact hk (by decide)) | omega))) (⟨show PT (-1000001) ((uI I 238 1 (wr ((I 238 1) + 1))) 236 0) (I 236 0) (VA v0 v1 v2 v3 v4) (I 250 (Int.toNat v3)) (GD (fun j => I 252 (24 * Int.toNat v3 + j)) (I 251 (Int.toNat v3)) v4 0 9999) from by
                                        refine ⟨fun z => ?_, fun z b => ?_, fun z b => ⟨fun g => ?_, fun g e => ?_, fun g e => ?_⟩⟩
                                        all_goals (unfold VA at z; omega), fun j _ _ => uI_o (fun e => absurd e.1 (by decide)), fun z => absurd (show ((uI I 238 1 (wr ((I 238 1) + 1))) 236 0) = I 236 0 + 1 from z) (by omega)⟩)⟩
  ·
    refine ⟨fun _ => ?_, fun c => absurd (show ((0 : Int) = 0) from by decide) c⟩
    refine ⟨⟨_, rfl, (by decide)⟩, ?_⟩
    refine s_X12_finding hF (v := (-1000001)) (by decide) ?_
    have r30 : 0 ≤ (I 236 0) ∧ (I 236 0) ≤ 14 := Rg.n0 hR
    have hN32 : ((uI I 238 1 (wr ((I 238 1) + 1))) 236 0) = (I 236 0) := by first | rfl | omega
    exact ⟨rfl, fun hv hA' => hQ _ _ (Rg.u hR (Pr_f rfl)) hA' (hv _ rfl) (fun ka ja hk => (uI_o (show ¬ (ka = 238 ∧ ja = 1) from by first | (intro e; obtain ⟨rfl, rfl⟩ := e; exact hk (by decide)) | omega))) (⟨show PT (-1000001) ((uI I 238 1 (wr ((I 238 1) + 1))) 236 0) (I 236 0) (VA v0 v1 v2 v3 v4) (I 250 (Int.toNat v3)) (GD (fun j => I 252 (24 * Int.toNat v3 + j)) (I 251 (Int.toNat v3)) v4 0 9999) from by
                                        refine ⟨fun z => ?_, fun z b => ?_, fun z b => ⟨fun g => ?_, fun g e => ?_, fun g e => ?_⟩⟩
                                        all_goals (unfold VA at z; omega), fun j _ _ => uI_o (fun e => absurd e.1 (by decide)), fun z => absurd (show ((uI I 238 1 (wr ((I 238 1) + 1))) 236 0) = I 236 0 + 1 from z) (by omega)⟩)⟩
end MD
