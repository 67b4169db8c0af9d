/-! what trace answers and writes. Own work (scripts laid by wip/pm/gen34.py). -/
section TR10
variable {G : pG} {d : Nat} {F : pF} {I : pI} {Q : Option pV → pF → pI → Prop}
theorem c_trace10_l (hF : FS F) (hR : Rg I) {v0 v1 v2 : Int} {h : Nat} (hh : HP F h) {q : Nat} (hp : PP F q) (hh2 : 227 ≤ h ∧ h ≤ 233) (hq2 : 20 ≤ q ∧ q + 4 < 90 ∧ q % 5 = 0) (hn : 0 ≤ v2 ∧ v2 ≤ 24) (he : v2 % 2 = 0) (hl : v2 ≤ I h 1) (hQ : ∀ (r : Int) (I' : pI), Rg I' → (∀ k j, ¬ (k = 203 ∨ (20 ≤ k ∧ k < 90 ∧ 2 ≤ k % 5)) → I' k j = I k j) → (r = v2 / 2) → (I' (q + 2) 2 = v2 / 2 ∧ (∀ i : Nat, 2 * (i : Int) < v2 → I' ((q + 2) + 1) i = I (h + 1) (2 * i) ∧ I' ((q + 2) + 2) i = I (h + 1) (2 * i + 1)) ∧ ∀ k j, 20 ≤ k → k < 90 → ¬ (q + 2 ≤ k ∧ k ≤ q + 4) → I' k j = I k j) → Q (some (vi r)) F I') : ∀ (mz : Nat) (i : Int) (J : pI), Rg J → (∀ k j, ¬ (k = 203 ∨ (20 ≤ k ∧ k < 90 ∧ 2 ≤ k % 5)) → J k j = I k j) → ((0 : Int) ≤ i) → (i % 2 = 0) → (i ≤ v2) → (2 * J (q + 2) 2 = i) → (∀ j : Nat, 2 * (j : Int) < i → J ((q + 2) + 1) j = I (h + 1) (2 * j) ∧ J ((q + 2) + 2) j = I (h + 1) (2 * j + 1)) → (∀ k j, 20 ≤ k → k < 90 → ¬ (q + 2 ≤ k ∧ k ≤ q + 4) → J k j = I k j) → (v2 - i).toNat < mz → GoN G (d + 1) kX11_trace NP NP 95 [some (vr 0), some (vi v0), some (vi v1), some (vi v2), some (vr q), some (vr h), some (vi i)] [] F J Q := by
  intro mz
  induction mz with
  | zero => intro i J hJ hV _ _ _ _ _ _ h; exact absurd h (Nat.not_lt_zero _)
  | succ mz ih =>
    intro i J hJ hV cc100 cc101 cc102 cc103 cc104 cc105 hm
    refine GoN_in (fun hok hA => ?_)
    have iiv0 : -2147483648 ≤ v0 ∧ v0 < 2147483648 := hok 1 _ rfl
    have iiv1 : -2147483648 ≤ v1 ∧ v1 < 2147483648 := hok 2 _ rfl
    have iiv2 : -2147483648 ≤ v2 ∧ v2 < 2147483648 := hok 3 _ rfl
    have iii : -2147483648 ≤ i ∧ i < 2147483648 := hok 6 _ rfl
    have eh : J h 1 = I h 1 := hV h 1 (by omega)
    have cq : 2 * J (q + 2) 2 = i := cc103
    refine Go_wp (by decide) ckX11_trace [95] ?_
    refine ⟨fun (c1 : ((v2 : Int) ≤ i)) => ?_, fun (c1 : (¬ ((v2 : Int) ≤ i))) => ?_⟩
    ·
      refine ⟨(by decide), ?_⟩
      have n2 : (Int.tdiv v2 2) = (v2 : Int) / 2 := Int.tdiv_eq_ediv_of_nonneg (by omega)
      have n3 : (wr (Int.tdiv v2 2)) = (Int.tdiv v2 2) := wr_id (show -2147483648 ≤ ((Int.tdiv v2 2) : Int) ∧ ((Int.tdiv v2 2) : Int) < 2147483648 from by omega)
      exact ⟨rfl, hQ _ _ hJ (fun ka ja hk => (hV ka ja (by omega))) (show (wr (Int.tdiv v2 2)) = v2 / 2 from by first | omega | (simp only [wr, wl] at *; omega)) (⟨(show J (q + 2) 2 = v2 / 2 from by omega), fun i2 hi => cc104 i2 (by omega), cc105⟩)⟩
    ·
      refine ⟨_, hp.1.1, (by have := hp.2; show _ < 254; omega), ?_⟩
      refine fun w0 hw0 => ?_; obtain rfl : w0 = some (q + 2) := hw0.symm.trans hp.1.2.2.2.2.1
      refine ⟨⟨_, hh.1, (by have := hh.2.2.1; show _ < 254; omega)⟩, ?_⟩
      refine Call_wp (lv := [some (vr h), some (vi i)]) (by decide) ckX7_numberAt [] rfl rfl ?_
      refine ⟨fun c => absurd c (show (¬ ((i : Int) < 0)) from by first | omega | (simp only [wr, wl] at *; omega)), fun _ => ?_⟩
      refine ⟨_, hh.1, (by have := hh.2.2.1; show _ < 254; omega), ?_⟩
      have r4 : 0 ≤ (J h 1) ∧ (J h 1) ≤ 24 := hJ.h hh.1 (by have := hh.2.2.1; omega)
      refine ⟨fun (c6 : (((J h 1) : Int) ≤ i)) => ?_, fun (c6 : (¬ (((J h 1) : Int) ≤ i))) => ?_⟩
      ·
        refine ⟨rfl, ?_⟩
        refine ⟨⟨_, hh.1, (by have := hh.2.2.1; show _ < 254; omega)⟩, ?_⟩
        refine Call_wp (lv := [some (vr h), some (vi (wr (i + 1)))]) (by decide) ckX7_numberAt [] rfl rfl ?_
        have n7 : (wr (i + 1)) = i + 1 := wr_id (show -2147483648 ≤ (i + 1 : Int) ∧ (i + 1 : Int) < 2147483648 from by omega)
        refine ⟨fun c => absurd c (show (¬ (((wr (i + 1)) : Int) < 0)) from by first | omega | (simp only [wr, wl] at *; omega)), fun _ => ?_⟩
        refine ⟨_, hh.1, (by have := hh.2.2.1; show _ < 254; omega), ?_⟩
        refine ⟨fun (c8 : (((J h 1) : Int) ≤ (wr (i + 1)))) => ?_, fun (c8 : (¬ (((J h 1) : Int) ≤ (wr (i + 1))))) => ?_⟩
        ·
          refine ⟨rfl, ?_⟩
          refine ⟨⟨_, hp.r.1.1, (by have := hp.r.2; show _ < 254; omega)⟩, ?_⟩
          refine Call_wp (lv := [some (vr (q + 2)), some (vi 0), some (vi 0)]) (by decide) ckX6_add [] rfl rfl ?_
          refine ⟨_, hp.r.1.1, (by have := hp.r.2; show _ < 254; omega), ?_⟩
          have a9 : -2147483648 ≤ (J (q + 2) 2) ∧ (J (q + 2) 2) < 2147483648 := hA.1 _ _
          refine ⟨fun (c10 : (((J (q + 2) 2) : Int) < 0)) => ?_, fun (c10 : (¬ (((J (q + 2) 2) : Int) < 0))) => ?_⟩
          ·
            refine ⟨rfl, ?_⟩
            have n11 : (wr (i + 2)) = i + 2 := wr_id (show -2147483648 ≤ (i + 2 : Int) ∧ (i + 2 : Int) < 2147483648 from by omega)
            exact ih (wr (i + 2)) J hJ (fun ka ja hk => (hV ka ja (by omega))) (show (0 : Int) ≤ (wr (i + 2)) from by first | with_reducible assumption | omega | (simp only [wr, wl] at *; omega)) (show (wr (i + 2)) % 2 = 0 from by first | omega | (simp only [wr, wl] at *; omega)) (show (wr (i + 2)) ≤ v2 from by first | with_reducible assumption | omega | (simp only [wr, wl] at *; omega)) ((by exfalso; omega)) ((by exfalso; omega)) (cc105) (show (v2 - (wr (i + 2))).toNat < mz from by omega)
          ·
            refine ⟨_, hp.r.1.1, (by have := hp.r.2; show _ < 254; omega), ?_⟩
            refine ⟨fun (c12 : ((24 : Int) ≤ (J (q + 2) 2))) => ?_, fun (c12 : (¬ ((24 : Int) ≤ (J (q + 2) 2)))) => ?_⟩
            ·
              refine ⟨rfl, ?_⟩
              have n13 : (wr (i + 2)) = i + 2 := wr_id (show -2147483648 ≤ (i + 2 : Int) ∧ (i + 2 : Int) < 2147483648 from by omega)
              exact ih (wr (i + 2)) J hJ (fun ka ja hk => (hV ka ja (by omega))) (show (0 : Int) ≤ (wr (i + 2)) from by first | with_reducible assumption | omega | (simp only [wr, wl] at *; omega)) (show (wr (i + 2)) % 2 = 0 from by first | omega | (simp only [wr, wl] at *; omega)) (show (wr (i + 2)) ≤ v2 from by first | with_reducible assumption | omega | (simp only [wr, wl] at *; omega)) ((by exfalso; omega)) ((by exfalso; omega)) (cc105) (show (v2 - (wr (i + 2))).toNat < mz from by omega)
            ·
              refine ⟨_, hp.r.1.1, (by have := hp.r.2; show _ < 254; omega), ?_⟩
              refine fun w0 hw0 => ?_; obtain rfl : w0 = some ((q + 2) + 1) := hw0.symm.trans hp.r.1.2.2.2.2.1
              refine ⟨_, hp.r.1.1, (by have := hp.r.2; show _ < 254; omega), ?_⟩
              refine ⟨_, hp.r.1.2.1, (by have := hp.r.2; show _ < 254; omega), (show (0 : Int) ≤ (J (q + 2) 2) from by first | with_reducible assumption | omega | (simp only [wr, wl] at *; omega)), (show (J (q + 2) 2) < (24 : Int) from by first | with_reducible assumption | omega | (simp only [wr, wl] at *; omega)), ?_⟩
              refine ⟨_, hp.r.1.1, (by have := hp.r.2; show _ < 254; omega), ?_⟩
              refine fun w0 hw0 => ?_; obtain rfl : w0 = some ((q + 2) + 2) := hw0.symm.trans hp.r.1.2.2.2.2.2
              refine ⟨_, hp.r.1.1, (by have := hp.r.2; show _ < 254; omega), ?_⟩
              have u14 : ((uI J ((q + 2) + 1) (Int.toNat (J (q + 2) 2)) 0) (q + 2) 2) = (J (q + 2) 2) := uI_o (fun e => absurd e.1 (lay_ne hp.r.1.1 hp.r.1.2.1 (by decide)))
              refine ⟨_, hp.r.1.2.2.1, (by have := hp.r.2; show _ < 254; omega), (show (0 : Int) ≤ ((uI J ((q + 2) + 1) (Int.toNat (J (q + 2) 2)) 0) (q + 2) 2) from by first | with_reducible assumption | omega | (simp only [wr, wl] at *; omega)), (show ((uI J ((q + 2) + 1) (Int.toNat (J (q + 2) 2)) 0) (q + 2) 2) < (24 : Int) from by first | with_reducible assumption | omega | (simp only [wr, wl] at *; omega)), ?_⟩
              refine ⟨_, hp.r.1.1, (by have := hp.r.2; show _ < 254; omega), ?_⟩
              have u15 : ((uI (uI J ((q + 2) + 1) (Int.toNat (J (q + 2) 2)) 0) ((q + 2) + 2) (Int.toNat ((uI J ((q + 2) + 1) (Int.toNat (J (q + 2) 2)) 0) (q + 2) 2)) 0) (q + 2) 2) = (J (q + 2) 2) := (uI_o (fun e => absurd e.1 (lay_ne hp.r.1.1 hp.r.1.2.2.1 (by decide)))).trans (uI_o (fun e => absurd e.1 (lay_ne hp.r.1.1 hp.r.1.2.1 (by decide))))
              refine ⟨_, hp.r.1.1, (by have := hp.r.2; show _ < 254; omega), ?_⟩
              refine ⟨rfl, ?_⟩
              have n16 : (wr (i + 2)) = i + 2 := wr_id (show -2147483648 ≤ (i + 2 : Int) ∧ (i + 2 : Int) < 2147483648 from by omega)
              exact ih (wr (i + 2)) (uI (uI (uI J ((q + 2) + 1) (Int.toNat (J (q + 2) 2)) 0) ((q + 2) + 2) (Int.toNat ((uI J ((q + 2) + 1) (Int.toNat (J (q + 2) 2)) 0) (q + 2) 2)) 0) (q + 2) 2 (wr (((uI (uI J ((q + 2) + 1) (Int.toNat (J (q + 2) 2)) 0) ((q + 2) + 2) (Int.toNat ((uI J ((q + 2) + 1) (Int.toNat (J (q + 2) 2)) 0) (q + 2) 2)) 0) (q + 2) 2) + 1))) (Rg.u (Rg.u (Rg.u hJ (Pr_l hp.r.1.2.1 (by have := hp.r.2; omega) _ _ ⟨Or.inl (by decide), Or.inl (by decide), Or.inl (by decide)⟩)) (Pr_l hp.r.1.2.2.1 (by have := hp.r.2; omega) _ _ ⟨Or.inl (by decide), Or.inl (by decide), Or.inl (by decide)⟩)) (Pr_l hp.r.1.1 (by have := hp.r.2; omega) _ _ (by decide))) (fun ka ja hk => ((uI_o (show ¬ (ka = (q + 2) ∧ ja = 2) from by have := hp.r.2; omega))).trans (((uI_o (show ¬ (ka = ((q + 2) + 2) ∧ ja = (Int.toNat ((uI J ((q + 2) + 1) (Int.toNat (J (q + 2) 2)) 0) (q + 2) 2))) from by have := hp.r.2; omega))).trans (((uI_o (show ¬ (ka = ((q + 2) + 1) ∧ ja = (Int.toNat (J (q + 2) 2))) from by have := hp.r.2; omega))).trans ((hV ka ja (by omega)))))) (show (0 : Int) ≤ (wr (i + 2)) from by first | with_reducible assumption | omega | (simp only [wr, wl] at *; omega)) (show (wr (i + 2)) % 2 = 0 from by first | omega | (simp only [wr, wl] at *; omega)) (show (wr (i + 2)) ≤ v2 from by first | with_reducible assumption | omega | (simp only [wr, wl] at *; omega)) ((by exfalso; omega)) ((by exfalso; omega)) (fun k j h1 h2 h3 => ((uI_o (show ¬ (k = (q + 2) ∧ j = 2) from by omega)).trans ((uI_o (show ¬ (k = ((q + 2) + 2) ∧ j = (Int.toNat ((uI J ((q + 2) + 1) (Int.toNat (J (q + 2) 2)) 0) (q + 2) 2))) from by omega)).trans (uI_o (show ¬ (k = ((q + 2) + 1) ∧ j = (Int.toNat (J (q + 2) 2))) from by omega)))).trans (cc105 k j h1 h2 h3)) (show (v2 - (wr (i + 2))).toNat < mz from by omega)
        ·
          refine ⟨fun c => absurd c (show (¬ ((24 : Int) ≤ (wr (i + 1)))) from by first | omega | (simp only [wr, wl] at *; omega)), fun _ => ?_⟩
          refine ⟨_, hh.1, (by have := hh.2.2.1; show _ < 254; omega), ?_⟩
          refine fun w0 hw0 => ?_; obtain rfl : w0 = some (h + 1) := hw0.symm.trans hh.2.2.2
          refine ⟨_, hh.2.1, (by have := hh.2.2.1; show _ < 254; omega), (show (0 : Int) ≤ (wr (i + 1)) from by first | with_reducible assumption | omega | (simp only [wr, wl] at *; omega)), (show (wr (i + 1)) < (24 : Int) from by first | with_reducible assumption | omega | (simp only [wr, wl] at *; omega)), ?_⟩
          refine ⟨rfl, ?_⟩
          refine ⟨⟨_, hp.r.1.1, (by have := hp.r.2; show _ < 254; omega)⟩, ?_⟩
          refine Call_wp (lv := [some (vr (q + 2)), some (vi 0), some (vi (J (h + 1) (Int.toNat (wr (i + 1)))))]) (by decide) ckX6_add [] rfl rfl ?_
          refine ⟨_, hp.r.1.1, (by have := hp.r.2; show _ < 254; omega), ?_⟩
          have a17 : -2147483648 ≤ (J (q + 2) 2) ∧ (J (q + 2) 2) < 2147483648 := hA.1 _ _
          refine ⟨fun (c18 : (((J (q + 2) 2) : Int) < 0)) => ?_, fun (c18 : (¬ (((J (q + 2) 2) : Int) < 0))) => ?_⟩
          ·
            refine ⟨rfl, ?_⟩
            have n19 : (wr (i + 2)) = i + 2 := wr_id (show -2147483648 ≤ (i + 2 : Int) ∧ (i + 2 : Int) < 2147483648 from by omega)
            exact ih (wr (i + 2)) J hJ (fun ka ja hk => (hV ka ja (by omega))) (show (0 : Int) ≤ (wr (i + 2)) from by first | with_reducible assumption | omega | (simp only [wr, wl] at *; omega)) (show (wr (i + 2)) % 2 = 0 from by first | omega | (simp only [wr, wl] at *; omega)) (show (wr (i + 2)) ≤ v2 from by first | with_reducible assumption | omega | (simp only [wr, wl] at *; omega)) ((by exfalso; omega)) ((by exfalso; omega)) (cc105) (show (v2 - (wr (i + 2))).toNat < mz from by omega)
          ·
            refine ⟨_, hp.r.1.1, (by have := hp.r.2; show _ < 254; omega), ?_⟩
            refine ⟨fun (c20 : ((24 : Int) ≤ (J (q + 2) 2))) => ?_, fun (c20 : (¬ ((24 : Int) ≤ (J (q + 2) 2)))) => ?_⟩
            ·
              refine ⟨rfl, ?_⟩
              have n21 : (wr (i + 2)) = i + 2 := wr_id (show -2147483648 ≤ (i + 2 : Int) ∧ (i + 2 : Int) < 2147483648 from by omega)
              exact ih (wr (i + 2)) J hJ (fun ka ja hk => (hV ka ja (by omega))) (show (0 : Int) ≤ (wr (i + 2)) from by first | with_reducible assumption | omega | (simp only [wr, wl] at *; omega)) (show (wr (i + 2)) % 2 = 0 from by first | omega | (simp only [wr, wl] at *; omega)) (show (wr (i + 2)) ≤ v2 from by first | with_reducible assumption | omega | (simp only [wr, wl] at *; omega)) ((by exfalso; omega)) ((by exfalso; omega)) (cc105) (show (v2 - (wr (i + 2))).toNat < mz from by omega)
            ·
              refine ⟨_, hp.r.1.1, (by have := hp.r.2; show _ < 254; omega), ?_⟩
              refine fun w0 hw0 => ?_; obtain rfl : w0 = some ((q + 2) + 1) := hw0.symm.trans hp.r.1.2.2.2.2.1
              refine ⟨_, hp.r.1.1, (by have := hp.r.2; show _ < 254; omega), ?_⟩
              refine ⟨_, hp.r.1.2.1, (by have := hp.r.2; show _ < 254; omega), (show (0 : Int) ≤ (J (q + 2) 2) from by first | with_reducible assumption | omega | (simp only [wr, wl] at *; omega)), (show (J (q + 2) 2) < (24 : Int) from by first | with_reducible assumption | omega | (simp only [wr, wl] at *; omega)), ?_⟩
              refine ⟨_, hp.r.1.1, (by have := hp.r.2; show _ < 254; omega), ?_⟩
              refine fun w0 hw0 => ?_; obtain rfl : w0 = some ((q + 2) + 2) := hw0.symm.trans hp.r.1.2.2.2.2.2
              refine ⟨_, hp.r.1.1, (by have := hp.r.2; show _ < 254; omega), ?_⟩
              have u22 : ((uI J ((q + 2) + 1) (Int.toNat (J (q + 2) 2)) 0) (q + 2) 2) = (J (q + 2) 2) := uI_o (fun e => absurd e.1 (lay_ne hp.r.1.1 hp.r.1.2.1 (by decide)))
              refine ⟨_, hp.r.1.2.2.1, (by have := hp.r.2; show _ < 254; omega), (show (0 : Int) ≤ ((uI J ((q + 2) + 1) (Int.toNat (J (q + 2) 2)) 0) (q + 2) 2) from by first | with_reducible assumption | omega | (simp only [wr, wl] at *; omega)), (show ((uI J ((q + 2) + 1) (Int.toNat (J (q + 2) 2)) 0) (q + 2) 2) < (24 : Int) from by first | with_reducible assumption | omega | (simp only [wr, wl] at *; omega)), ?_⟩
              refine ⟨_, hp.r.1.1, (by have := hp.r.2; show _ < 254; omega), ?_⟩
              have u23 : ((uI (uI J ((q + 2) + 1) (Int.toNat (J (q + 2) 2)) 0) ((q + 2) + 2) (Int.toNat ((uI J ((q + 2) + 1) (Int.toNat (J (q + 2) 2)) 0) (q + 2) 2)) (J (h + 1) (Int.toNat (wr (i + 1))))) (q + 2) 2) = (J (q + 2) 2) := (uI_o (fun e => absurd e.1 (lay_ne hp.r.1.1 hp.r.1.2.2.1 (by decide)))).trans (uI_o (fun e => absurd e.1 (lay_ne hp.r.1.1 hp.r.1.2.1 (by decide))))
              refine ⟨_, hp.r.1.1, (by have := hp.r.2; show _ < 254; omega), ?_⟩
              refine ⟨rfl, ?_⟩
              have n24 : (wr (i + 2)) = i + 2 := wr_id (show -2147483648 ≤ (i + 2 : Int) ∧ (i + 2 : Int) < 2147483648 from by omega)
              exact ih (wr (i + 2)) (uI (uI (uI J ((q + 2) + 1) (Int.toNat (J (q + 2) 2)) 0) ((q + 2) + 2) (Int.toNat ((uI J ((q + 2) + 1) (Int.toNat (J (q + 2) 2)) 0) (q + 2) 2)) (J (h + 1) (Int.toNat (wr (i + 1))))) (q + 2) 2 (wr (((uI (uI J ((q + 2) + 1) (Int.toNat (J (q + 2) 2)) 0) ((q + 2) + 2) (Int.toNat ((uI J ((q + 2) + 1) (Int.toNat (J (q + 2) 2)) 0) (q + 2) 2)) (J (h + 1) (Int.toNat (wr (i + 1))))) (q + 2) 2) + 1))) (Rg.u (Rg.u (Rg.u hJ (Pr_l hp.r.1.2.1 (by have := hp.r.2; omega) _ _ ⟨Or.inl (by decide), Or.inl (by decide), Or.inl (by decide)⟩)) (Pr_l hp.r.1.2.2.1 (by have := hp.r.2; omega) _ _ ⟨Or.inl (by decide), Or.inl (by decide), Or.inl (by decide)⟩)) (Pr_l hp.r.1.1 (by have := hp.r.2; omega) _ _ (by decide))) (fun ka ja hk => ((uI_o (show ¬ (ka = (q + 2) ∧ ja = 2) from by have := hp.r.2; omega))).trans (((uI_o (show ¬ (ka = ((q + 2) + 2) ∧ ja = (Int.toNat ((uI J ((q + 2) + 1) (Int.toNat (J (q + 2) 2)) 0) (q + 2) 2))) from by have := hp.r.2; omega))).trans (((uI_o (show ¬ (ka = ((q + 2) + 1) ∧ ja = (Int.toNat (J (q + 2) 2))) from by have := hp.r.2; omega))).trans ((hV ka ja (by omega)))))) (show (0 : Int) ≤ (wr (i + 2)) from by first | with_reducible assumption | omega | (simp only [wr, wl] at *; omega)) (show (wr (i + 2)) % 2 = 0 from by first | omega | (simp only [wr, wl] at *; omega)) (show (wr (i + 2)) ≤ v2 from by first | with_reducible assumption | omega | (simp only [wr, wl] at *; omega)) ((by exfalso; omega)) ((by exfalso; omega)) (fun k j h1 h2 h3 => ((uI_o (show ¬ (k = (q + 2) ∧ j = 2) from by omega)).trans ((uI_o (show ¬ (k = ((q + 2) + 2) ∧ j = (Int.toNat ((uI J ((q + 2) + 1) (Int.toNat (J (q + 2) 2)) 0) (q + 2) 2))) from by omega)).trans (uI_o (show ¬ (k = ((q + 2) + 1) ∧ j = (Int.toNat (J (q + 2) 2))) from by omega)))).trans (cc105 k j h1 h2 h3)) (show (v2 - (wr (i + 2))).toNat < mz from by omega)
      ·
        refine ⟨fun c => absurd c (show (¬ ((24 : Int) ≤ i)) from by first | omega | (simp only [wr, wl] at *; omega)), fun _ => ?_⟩
        refine ⟨_, hh.1, (by have := hh.2.2.1; show _ < 254; omega), ?_⟩
        refine fun w0 hw0 => ?_; obtain rfl : w0 = some (h + 1) := hw0.symm.trans hh.2.2.2
        refine ⟨_, hh.2.1, (by have := hh.2.2.1; show _ < 254; omega), (show (0 : Int) ≤ i from by first | with_reducible assumption | omega | (simp only [wr, wl] at *; omega)), (show i < (24 : Int) from by first | with_reducible assumption | omega | (simp only [wr, wl] at *; omega)), ?_⟩
        refine ⟨rfl, ?_⟩
        refine ⟨⟨_, hh.1, (by have := hh.2.2.1; show _ < 254; omega)⟩, ?_⟩
        refine Call_wp (lv := [some (vr h), some (vi (wr (i + 1)))]) (by decide) ckX7_numberAt [] rfl rfl ?_
        have n25 : (wr (i + 1)) = i + 1 := wr_id (show -2147483648 ≤ (i + 1 : Int) ∧ (i + 1 : Int) < 2147483648 from by omega)
        refine ⟨fun c => absurd c (show (¬ (((wr (i + 1)) : Int) < 0)) from by first | omega | (simp only [wr, wl] at *; omega)), fun _ => ?_⟩
        refine ⟨_, hh.1, (by have := hh.2.2.1; show _ < 254; omega), ?_⟩
        refine ⟨fun (c26 : (((J h 1) : Int) ≤ (wr (i + 1)))) => ?_, fun (c26 : (¬ (((J h 1) : Int) ≤ (wr (i + 1))))) => ?_⟩
        ·
          refine ⟨rfl, ?_⟩
          refine ⟨⟨_, hp.r.1.1, (by have := hp.r.2; show _ < 254; omega)⟩, ?_⟩
          refine Call_wp (lv := [some (vr (q + 2)), some (vi (J (h + 1) (Int.toNat i))), some (vi 0)]) (by decide) ckX6_add [] rfl rfl ?_
          refine ⟨_, hp.r.1.1, (by have := hp.r.2; show _ < 254; omega), ?_⟩
          have a27 : -2147483648 ≤ (J (q + 2) 2) ∧ (J (q + 2) 2) < 2147483648 := hA.1 _ _
          refine ⟨fun (c28 : (((J (q + 2) 2) : Int) < 0)) => ?_, fun (c28 : (¬ (((J (q + 2) 2) : Int) < 0))) => ?_⟩
          ·
            refine ⟨rfl, ?_⟩
            have n29 : (wr (i + 2)) = i + 2 := wr_id (show -2147483648 ≤ (i + 2 : Int) ∧ (i + 2 : Int) < 2147483648 from by omega)
            exact ih (wr (i + 2)) J hJ (fun ka ja hk => (hV ka ja (by omega))) (show (0 : Int) ≤ (wr (i + 2)) from by first | with_reducible assumption | omega | (simp only [wr, wl] at *; omega)) (show (wr (i + 2)) % 2 = 0 from by first | omega | (simp only [wr, wl] at *; omega)) (show (wr (i + 2)) ≤ v2 from by first | with_reducible assumption | omega | (simp only [wr, wl] at *; omega)) ((by exfalso; omega)) ((by exfalso; omega)) (cc105) (show (v2 - (wr (i + 2))).toNat < mz from by omega)
          ·
            refine ⟨_, hp.r.1.1, (by have := hp.r.2; show _ < 254; omega), ?_⟩
            refine ⟨fun (c30 : ((24 : Int) ≤ (J (q + 2) 2))) => ?_, fun (c30 : (¬ ((24 : Int) ≤ (J (q + 2) 2)))) => ?_⟩
            ·
              refine ⟨rfl, ?_⟩
              have n31 : (wr (i + 2)) = i + 2 := wr_id (show -2147483648 ≤ (i + 2 : Int) ∧ (i + 2 : Int) < 2147483648 from by omega)
              exact ih (wr (i + 2)) J hJ (fun ka ja hk => (hV ka ja (by omega))) (show (0 : Int) ≤ (wr (i + 2)) from by first | with_reducible assumption | omega | (simp only [wr, wl] at *; omega)) (show (wr (i + 2)) % 2 = 0 from by first | omega | (simp only [wr, wl] at *; omega)) (show (wr (i + 2)) ≤ v2 from by first | with_reducible assumption | omega | (simp only [wr, wl] at *; omega)) ((by exfalso; omega)) ((by exfalso; omega)) (cc105) (show (v2 - (wr (i + 2))).toNat < mz from by omega)
            ·
              refine ⟨_, hp.r.1.1, (by have := hp.r.2; show _ < 254; omega), ?_⟩
              refine fun w0 hw0 => ?_; obtain rfl : w0 = some ((q + 2) + 1) := hw0.symm.trans hp.r.1.2.2.2.2.1
              refine ⟨_, hp.r.1.1, (by have := hp.r.2; show _ < 254; omega), ?_⟩
              refine ⟨_, hp.r.1.2.1, (by have := hp.r.2; show _ < 254; omega), (show (0 : Int) ≤ (J (q + 2) 2) from by first | with_reducible assumption | omega | (simp only [wr, wl] at *; omega)), (show (J (q + 2) 2) < (24 : Int) from by first | with_reducible assumption | omega | (simp only [wr, wl] at *; omega)), ?_⟩
              refine ⟨_, hp.r.1.1, (by have := hp.r.2; show _ < 254; omega), ?_⟩
              refine fun w0 hw0 => ?_; obtain rfl : w0 = some ((q + 2) + 2) := hw0.symm.trans hp.r.1.2.2.2.2.2
              refine ⟨_, hp.r.1.1, (by have := hp.r.2; show _ < 254; omega), ?_⟩
              have u32 : ((uI J ((q + 2) + 1) (Int.toNat (J (q + 2) 2)) (J (h + 1) (Int.toNat i))) (q + 2) 2) = (J (q + 2) 2) := uI_o (fun e => absurd e.1 (lay_ne hp.r.1.1 hp.r.1.2.1 (by decide)))
              refine ⟨_, hp.r.1.2.2.1, (by have := hp.r.2; show _ < 254; omega), (show (0 : Int) ≤ ((uI J ((q + 2) + 1) (Int.toNat (J (q + 2) 2)) (J (h + 1) (Int.toNat i))) (q + 2) 2) from by first | with_reducible assumption | omega | (simp only [wr, wl] at *; omega)), (show ((uI J ((q + 2) + 1) (Int.toNat (J (q + 2) 2)) (J (h + 1) (Int.toNat i))) (q + 2) 2) < (24 : Int) from by first | with_reducible assumption | omega | (simp only [wr, wl] at *; omega)), ?_⟩
              refine ⟨_, hp.r.1.1, (by have := hp.r.2; show _ < 254; omega), ?_⟩
              have u33 : ((uI (uI J ((q + 2) + 1) (Int.toNat (J (q + 2) 2)) (J (h + 1) (Int.toNat i))) ((q + 2) + 2) (Int.toNat ((uI J ((q + 2) + 1) (Int.toNat (J (q + 2) 2)) (J (h + 1) (Int.toNat i))) (q + 2) 2)) 0) (q + 2) 2) = (J (q + 2) 2) := (uI_o (fun e => absurd e.1 (lay_ne hp.r.1.1 hp.r.1.2.2.1 (by decide)))).trans (uI_o (fun e => absurd e.1 (lay_ne hp.r.1.1 hp.r.1.2.1 (by decide))))
              refine ⟨_, hp.r.1.1, (by have := hp.r.2; show _ < 254; omega), ?_⟩
              refine ⟨rfl, ?_⟩
              have n34 : (wr (i + 2)) = i + 2 := wr_id (show -2147483648 ≤ (i + 2 : Int) ∧ (i + 2 : Int) < 2147483648 from by omega)
              exact ih (wr (i + 2)) (uI (uI (uI J ((q + 2) + 1) (Int.toNat (J (q + 2) 2)) (J (h + 1) (Int.toNat i))) ((q + 2) + 2) (Int.toNat ((uI J ((q + 2) + 1) (Int.toNat (J (q + 2) 2)) (J (h + 1) (Int.toNat i))) (q + 2) 2)) 0) (q + 2) 2 (wr (((uI (uI J ((q + 2) + 1) (Int.toNat (J (q + 2) 2)) (J (h + 1) (Int.toNat i))) ((q + 2) + 2) (Int.toNat ((uI J ((q + 2) + 1) (Int.toNat (J (q + 2) 2)) (J (h + 1) (Int.toNat i))) (q + 2) 2)) 0) (q + 2) 2) + 1))) (Rg.u (Rg.u (Rg.u hJ (Pr_l hp.r.1.2.1 (by have := hp.r.2; omega) _ _ ⟨Or.inl (by decide), Or.inl (by decide), Or.inl (by decide)⟩)) (Pr_l hp.r.1.2.2.1 (by have := hp.r.2; omega) _ _ ⟨Or.inl (by decide), Or.inl (by decide), Or.inl (by decide)⟩)) (Pr_l hp.r.1.1 (by have := hp.r.2; omega) _ _ (by decide))) (fun ka ja hk => ((uI_o (show ¬ (ka = (q + 2) ∧ ja = 2) from by have := hp.r.2; omega))).trans (((uI_o (show ¬ (ka = ((q + 2) + 2) ∧ ja = (Int.toNat ((uI J ((q + 2) + 1) (Int.toNat (J (q + 2) 2)) (J (h + 1) (Int.toNat i))) (q + 2) 2))) from by have := hp.r.2; omega))).trans (((uI_o (show ¬ (ka = ((q + 2) + 1) ∧ ja = (Int.toNat (J (q + 2) 2))) from by have := hp.r.2; omega))).trans ((hV ka ja (by omega)))))) (show (0 : Int) ≤ (wr (i + 2)) from by first | with_reducible assumption | omega | (simp only [wr, wl] at *; omega)) (show (wr (i + 2)) % 2 = 0 from by first | omega | (simp only [wr, wl] at *; omega)) (show (wr (i + 2)) ≤ v2 from by first | with_reducible assumption | omega | (simp only [wr, wl] at *; omega)) ((by exfalso; omega)) ((by exfalso; omega)) (fun k j h1 h2 h3 => ((uI_o (show ¬ (k = (q + 2) ∧ j = 2) from by omega)).trans ((uI_o (show ¬ (k = ((q + 2) + 2) ∧ j = (Int.toNat ((uI J ((q + 2) + 1) (Int.toNat (J (q + 2) 2)) (J (h + 1) (Int.toNat i))) (q + 2) 2))) from by omega)).trans (uI_o (show ¬ (k = ((q + 2) + 1) ∧ j = (Int.toNat (J (q + 2) 2))) from by omega)))).trans (cc105 k j h1 h2 h3)) (show (v2 - (wr (i + 2))).toNat < mz from by omega)
        ·
          refine ⟨fun c => absurd c (show (¬ ((24 : Int) ≤ (wr (i + 1)))) from by first | omega | (simp only [wr, wl] at *; omega)), fun _ => ?_⟩
          refine ⟨_, hh.1, (by have := hh.2.2.1; show _ < 254; omega), ?_⟩
          refine fun w0 hw0 => ?_; obtain rfl : w0 = some (h + 1) := hw0.symm.trans hh.2.2.2
          refine ⟨_, hh.2.1, (by have := hh.2.2.1; show _ < 254; omega), (show (0 : Int) ≤ (wr (i + 1)) from by first | with_reducible assumption | omega | (simp only [wr, wl] at *; omega)), (show (wr (i + 1)) < (24 : Int) from by first | with_reducible assumption | omega | (simp only [wr, wl] at *; omega)), ?_⟩
          refine ⟨rfl, ?_⟩
          refine ⟨⟨_, hp.r.1.1, (by have := hp.r.2; show _ < 254; omega)⟩, ?_⟩
          refine Call_wp (lv := [some (vr (q + 2)), some (vi (J (h + 1) (Int.toNat i))), some (vi (J (h + 1) (Int.toNat (wr (i + 1)))))]) (by decide) ckX6_add [] rfl rfl ?_
          refine ⟨_, hp.r.1.1, (by have := hp.r.2; show _ < 254; omega), ?_⟩
          have a35 : -2147483648 ≤ (J (q + 2) 2) ∧ (J (q + 2) 2) < 2147483648 := hA.1 _ _
          refine ⟨fun (c36 : (((J (q + 2) 2) : Int) < 0)) => ?_, fun (c36 : (¬ (((J (q + 2) 2) : Int) < 0))) => ?_⟩
          ·
            refine ⟨rfl, ?_⟩
            have n37 : (wr (i + 2)) = i + 2 := wr_id (show -2147483648 ≤ (i + 2 : Int) ∧ (i + 2 : Int) < 2147483648 from by omega)
            exact ih (wr (i + 2)) J hJ (fun ka ja hk => (hV ka ja (by omega))) (show (0 : Int) ≤ (wr (i + 2)) from by first | with_reducible assumption | omega | (simp only [wr, wl] at *; omega)) (show (wr (i + 2)) % 2 = 0 from by first | omega | (simp only [wr, wl] at *; omega)) (show (wr (i + 2)) ≤ v2 from by first | with_reducible assumption | omega | (simp only [wr, wl] at *; omega)) ((by exfalso; omega)) ((by exfalso; omega)) (cc105) (show (v2 - (wr (i + 2))).toNat < mz from by omega)
          ·
            refine ⟨_, hp.r.1.1, (by have := hp.r.2; show _ < 254; omega), ?_⟩
            refine ⟨fun (c38 : ((24 : Int) ≤ (J (q + 2) 2))) => ?_, fun (c38 : (¬ ((24 : Int) ≤ (J (q + 2) 2)))) => ?_⟩
            ·
              refine ⟨rfl, ?_⟩
              have n39 : (wr (i + 2)) = i + 2 := wr_id (show -2147483648 ≤ (i + 2 : Int) ∧ (i + 2 : Int) < 2147483648 from by omega)
              exact ih (wr (i + 2)) J hJ (fun ka ja hk => (hV ka ja (by omega))) (show (0 : Int) ≤ (wr (i + 2)) from by first | with_reducible assumption | omega | (simp only [wr, wl] at *; omega)) (show (wr (i + 2)) % 2 = 0 from by first | omega | (simp only [wr, wl] at *; omega)) (show (wr (i + 2)) ≤ v2 from by first | with_reducible assumption | omega | (simp only [wr, wl] at *; omega)) ((by exfalso; omega)) ((by exfalso; omega)) (cc105) (show (v2 - (wr (i + 2))).toNat < mz from by omega)
            ·
              refine ⟨_, hp.r.1.1, (by have := hp.r.2; show _ < 254; omega), ?_⟩
              refine fun w0 hw0 => ?_; obtain rfl : w0 = some ((q + 2) + 1) := hw0.symm.trans hp.r.1.2.2.2.2.1
              refine ⟨_, hp.r.1.1, (by have := hp.r.2; show _ < 254; omega), ?_⟩
              refine ⟨_, hp.r.1.2.1, (by have := hp.r.2; show _ < 254; omega), (show (0 : Int) ≤ (J (q + 2) 2) from by first | with_reducible assumption | omega | (simp only [wr, wl] at *; omega)), (show (J (q + 2) 2) < (24 : Int) from by first | with_reducible assumption | omega | (simp only [wr, wl] at *; omega)), ?_⟩
              refine ⟨_, hp.r.1.1, (by have := hp.r.2; show _ < 254; omega), ?_⟩
              refine fun w0 hw0 => ?_; obtain rfl : w0 = some ((q + 2) + 2) := hw0.symm.trans hp.r.1.2.2.2.2.2
              refine ⟨_, hp.r.1.1, (by have := hp.r.2; show _ < 254; omega), ?_⟩
              have u40 : ((uI J ((q + 2) + 1) (Int.toNat (J (q + 2) 2)) (J (h + 1) (Int.toNat i))) (q + 2) 2) = (J (q + 2) 2) := uI_o (fun e => absurd e.1 (lay_ne hp.r.1.1 hp.r.1.2.1 (by decide)))
              refine ⟨_, hp.r.1.2.2.1, (by have := hp.r.2; show _ < 254; omega), (show (0 : Int) ≤ ((uI J ((q + 2) + 1) (Int.toNat (J (q + 2) 2)) (J (h + 1) (Int.toNat i))) (q + 2) 2) from by first | with_reducible assumption | omega | (simp only [wr, wl] at *; omega)), (show ((uI J ((q + 2) + 1) (Int.toNat (J (q + 2) 2)) (J (h + 1) (Int.toNat i))) (q + 2) 2) < (24 : Int) from by first | with_reducible assumption | omega | (simp only [wr, wl] at *; omega)), ?_⟩
              refine ⟨_, hp.r.1.1, (by have := hp.r.2; show _ < 254; omega), ?_⟩
              have u41 : ((uI (uI J ((q + 2) + 1) (Int.toNat (J (q + 2) 2)) (J (h + 1) (Int.toNat i))) ((q + 2) + 2) (Int.toNat ((uI J ((q + 2) + 1) (Int.toNat (J (q + 2) 2)) (J (h + 1) (Int.toNat i))) (q + 2) 2)) (J (h + 1) (Int.toNat (wr (i + 1))))) (q + 2) 2) = (J (q + 2) 2) := (uI_o (fun e => absurd e.1 (lay_ne hp.r.1.1 hp.r.1.2.2.1 (by decide)))).trans (uI_o (fun e => absurd e.1 (lay_ne hp.r.1.1 hp.r.1.2.1 (by decide))))
              refine ⟨_, hp.r.1.1, (by have := hp.r.2; show _ < 254; omega), ?_⟩
              refine ⟨rfl, ?_⟩
              have n42 : (wr (i + 2)) = i + 2 := wr_id (show -2147483648 ≤ (i + 2 : Int) ∧ (i + 2 : Int) < 2147483648 from by omega)
              have n43 : (wr (((uI (uI J ((q + 2) + 1) (Int.toNat (J (q + 2) 2)) (J (h + 1) (Int.toNat i))) ((q + 2) + 2) (Int.toNat ((uI J ((q + 2) + 1) (Int.toNat (J (q + 2) 2)) (J (h + 1) (Int.toNat i))) (q + 2) 2)) (J (h + 1) (Int.toNat (wr (i + 1))))) (q + 2) 2) + 1)) = ((uI (uI J ((q + 2) + 1) (Int.toNat (J (q + 2) 2)) (J (h + 1) (Int.toNat i))) ((q + 2) + 2) (Int.toNat ((uI J ((q + 2) + 1) (Int.toNat (J (q + 2) 2)) (J (h + 1) (Int.toNat i))) (q + 2) 2)) (J (h + 1) (Int.toNat (wr (i + 1))))) (q + 2) 2) + 1 := wr_id (show -2147483648 ≤ (((uI (uI J ((q + 2) + 1) (Int.toNat (J (q + 2) 2)) (J (h + 1) (Int.toNat i))) ((q + 2) + 2) (Int.toNat ((uI J ((q + 2) + 1) (Int.toNat (J (q + 2) 2)) (J (h + 1) (Int.toNat i))) (q + 2) 2)) (J (h + 1) (Int.toNat (wr (i + 1))))) (q + 2) 2) + 1 : Int) ∧ (((uI (uI J ((q + 2) + 1) (Int.toNat (J (q + 2) 2)) (J (h + 1) (Int.toNat i))) ((q + 2) + 2) (Int.toNat ((uI J ((q + 2) + 1) (Int.toNat (J (q + 2) 2)) (J (h + 1) (Int.toNat i))) (q + 2) 2)) (J (h + 1) (Int.toNat (wr (i + 1))))) (q + 2) 2) + 1 : Int) < 2147483648 from by omega)
              exact ih (wr (i + 2)) (uI (uI (uI J ((q + 2) + 1) (Int.toNat (J (q + 2) 2)) (J (h + 1) (Int.toNat i))) ((q + 2) + 2) (Int.toNat ((uI J ((q + 2) + 1) (Int.toNat (J (q + 2) 2)) (J (h + 1) (Int.toNat i))) (q + 2) 2)) (J (h + 1) (Int.toNat (wr (i + 1))))) (q + 2) 2 (wr (((uI (uI J ((q + 2) + 1) (Int.toNat (J (q + 2) 2)) (J (h + 1) (Int.toNat i))) ((q + 2) + 2) (Int.toNat ((uI J ((q + 2) + 1) (Int.toNat (J (q + 2) 2)) (J (h + 1) (Int.toNat i))) (q + 2) 2)) (J (h + 1) (Int.toNat (wr (i + 1))))) (q + 2) 2) + 1))) (Rg.u (Rg.u (Rg.u hJ (Pr_l hp.r.1.2.1 (by have := hp.r.2; omega) _ _ ⟨Or.inl (by decide), Or.inl (by decide), Or.inl (by decide)⟩)) (Pr_l hp.r.1.2.2.1 (by have := hp.r.2; omega) _ _ ⟨Or.inl (by decide), Or.inl (by decide), Or.inl (by decide)⟩)) (Pr_l hp.r.1.1 (by have := hp.r.2; omega) _ _ (by decide))) (fun ka ja hk => ((uI_o (show ¬ (ka = (q + 2) ∧ ja = 2) from by have := hp.r.2; omega))).trans (((uI_o (show ¬ (ka = ((q + 2) + 2) ∧ ja = (Int.toNat ((uI J ((q + 2) + 1) (Int.toNat (J (q + 2) 2)) (J (h + 1) (Int.toNat i))) (q + 2) 2))) from by have := hp.r.2; omega))).trans (((uI_o (show ¬ (ka = ((q + 2) + 1) ∧ ja = (Int.toNat (J (q + 2) 2))) from by have := hp.r.2; omega))).trans ((hV ka ja (by omega)))))) (show (0 : Int) ≤ (wr (i + 2)) from by first | with_reducible assumption | omega | (simp only [wr, wl] at *; omega)) (show (wr (i + 2)) % 2 = 0 from by first | omega | (simp only [wr, wl] at *; omega)) (show (wr (i + 2)) ≤ v2 from by first | with_reducible assumption | omega | (simp only [wr, wl] at *; omega)) ((by
                              have a : (uI (uI (uI J ((q + 2) + 1) (Int.toNat (J (q + 2) 2)) (J (h + 1) (Int.toNat i))) ((q + 2) + 2) (Int.toNat ((uI J ((q + 2) + 1) (Int.toNat (J (q + 2) 2)) (J (h + 1) (Int.toNat i))) (q + 2) 2)) (J (h + 1) (Int.toNat (wr (i + 1))))) (q + 2) 2 (wr (((uI (uI J ((q + 2) + 1) (Int.toNat (J (q + 2) 2)) (J (h + 1) (Int.toNat i))) ((q + 2) + 2) (Int.toNat ((uI J ((q + 2) + 1) (Int.toNat (J (q + 2) 2)) (J (h + 1) (Int.toNat i))) (q + 2) 2)) (J (h + 1) (Int.toNat (wr (i + 1))))) (q + 2) 2) + 1))) (q + 2) 2 = (wr (((uI (uI J ((q + 2) + 1) (Int.toNat (J (q + 2) 2)) (J (h + 1) (Int.toNat i))) ((q + 2) + 2) (Int.toNat ((uI J ((q + 2) + 1) (Int.toNat (J (q + 2) 2)) (J (h + 1) (Int.toNat i))) (q + 2) 2)) (J (h + 1) (Int.toNat (wr (i + 1))))) (q + 2) 2) + 1)) := uJ_eqj (show 2 = 2 from by omega)
                              omega)) (fun j hj => if e : 2 * (j : Int) = i then ⟨((uI_o (show ¬ (((q + 2) + 1) = (q + 2) ∧ j = 2) from by omega)).trans ((uI_o (show ¬ (((q + 2) + 1) = ((q + 2) + 2) ∧ j = (Int.toNat ((uI J ((q + 2) + 1) (Int.toNat (J (q + 2) 2)) (J (h + 1) (Int.toNat i))) (q + 2) 2))) from by omega)).trans (uJ_eqj (show j = (Int.toNat (J (q + 2) 2)) from by omega)))).trans ((hV (h + 1) _ (by omega)).trans (congrArg (I (h + 1)) (by omega))), ((uI_o (show ¬ (((q + 2) + 2) = (q + 2) ∧ j = 2) from by omega)).trans (uJ_eqj (show j = (Int.toNat ((uI J ((q + 2) + 1) (Int.toNat (J (q + 2) 2)) (J (h + 1) (Int.toNat i))) (q + 2) 2)) from by omega))).trans ((hV (h + 1) _ (by omega)).trans (congrArg (I (h + 1)) (by omega)))⟩ else ⟨((uI_o (show ¬ (((q + 2) + 1) = (q + 2) ∧ j = 2) from by omega)).trans ((uI_o (show ¬ (((q + 2) + 1) = ((q + 2) + 2) ∧ j = (Int.toNat ((uI J ((q + 2) + 1) (Int.toNat (J (q + 2) 2)) (J (h + 1) (Int.toNat i))) (q + 2) 2))) from by omega)).trans (uJ_ne (show ¬ j = (Int.toNat (J (q + 2) 2)) from by omega)))).trans (cc104 j (by omega)).1, ((uI_o (show ¬ (((q + 2) + 2) = (q + 2) ∧ j = 2) from by omega)).trans ((uJ_ne (show ¬ j = (Int.toNat ((uI J ((q + 2) + 1) (Int.toNat (J (q + 2) 2)) (J (h + 1) (Int.toNat i))) (q + 2) 2)) from by omega)).trans (uI_o (show ¬ (((q + 2) + 2) = ((q + 2) + 1) ∧ j = (Int.toNat (J (q + 2) 2))) from by omega)))).trans (cc104 j (by omega)).2⟩) (fun k j h1 h2 h3 => ((uI_o (show ¬ (k = (q + 2) ∧ j = 2) from by omega)).trans ((uI_o (show ¬ (k = ((q + 2) + 2) ∧ j = (Int.toNat ((uI J ((q + 2) + 1) (Int.toNat (J (q + 2) 2)) (J (h + 1) (Int.toNat i))) (q + 2) 2))) from by omega)).trans (uI_o (show ¬ (k = ((q + 2) + 1) ∧ j = (Int.toNat (J (q + 2) 2))) from by omega)))).trans (cc105 k j h1 h2 h3)) (show (v2 - (wr (i + 2))).toNat < mz from by omega)
theorem c_trace10 (hF : FS F) (hR : Rg I) {v0 v1 v2 : Int} (hc : I 1 1 ≤ 14) (hQ : ∀ (r : Int) (I' : pI), Rg I' → AR I' → iR r → (∀ k j, ¬ (k = 203 ∨ (20 ≤ k ∧ k < 90 ∧ 2 ≤ k % 5)) → I' k j = I k j) → ((¬ ((0 ≤ v0 ∧ v0 < I 1 1) ∧ (0 ≤ v1 ∧ v1 ≤ 3) ∧ 0 ≤ v2 ∧ v2 ≤ 24) → r = -1000001 ∧ (∀ k j, 20 ≤ k → k < 90 → I' k j = I k j)) ∧ (((0 ≤ v0 ∧ v0 < I 1 1) ∧ (0 ≤ v1 ∧ v1 ≤ 3) ∧ 0 ≤ v2 ∧ v2 ≤ 24) → (I (227 + 2 * Int.toNat v1) 0 = 0 → r = -1000002 ∧ (∀ k j, 20 ≤ k → k < 90 → I' k j = I k j)) ∧ (¬ I (227 + 2 * Int.toNat v1) 0 = 0 → (¬ v2 % 2 = 0 → r = -1000003 ∧ (∀ k j, 20 ≤ k → k < 90 → I' k j = I k j)) ∧ (v2 % 2 = 0 → (¬ GT (I ((227 + 2 * Int.toNat v1) + 1)) (I (227 + 2 * Int.toNat v1) 1) v2 → r = -1000001 ∧ (∀ k j, 20 ≤ k → k < 90 → I' k j = I k j)) ∧ (GT (I ((227 + 2 * Int.toNat v1) + 1)) (I (227 + 2 * Int.toNat v1) 1) v2 → r = v2 / 2 ∧ I' ((1 + 19 + 5 * Int.toNat v0) + 2) 2 = v2 / 2 ∧ (∀ i : Nat, 2 * (i : Int) < v2 → I' (((1 + 19 + 5 * Int.toNat v0) + 2) + 1) i = I ((227 + 2 * Int.toNat v1) + 1) (2 * i) ∧ I' (((1 + 19 + 5 * Int.toNat v0) + 2) + 2) i = I ((227 + 2 * Int.toNat v1) + 1) (2 * i + 1)) ∧ ∀ k j, 20 ≤ k → k < 90 → ¬ ((1 + 19 + 5 * Int.toNat v0) + 2 ≤ k ∧ k ≤ (1 + 19 + 5 * Int.toNat v0) + 4) → I' k j = I k j))))) → Q (some (vi r)) F I') : CallN G (d + 2) kX11_trace [vr 0, vi v0, vi v1, vi v2] NP F I Q := by
  refine CallN_in (fun hok hA => CallN_out ?_)
  have iv0 : -2147483648 ≤ v0 ∧ v0 < 2147483648 := hok (vi v0) (by simp)
  have iv1 : -2147483648 ≤ v1 ∧ v1 < 2147483648 := hok (vi v1) (by simp)
  have iv2 : -2147483648 ≤ v2 ∧ v2 < 2147483648 := hok (vi v2) (by simp)
  refine Call_wp (lv := [some (vr 0), some (vi v0), some (vi v1), some (vi v2), none, none, none]) (by decide) ckX11_trace [95] rfl rfl ?_
  refine ⟨_, rfl, (by decide), ?_⟩
  refine fun w0 hw0 => ?_; obtain rfl : w0 = some 1 := hw0.symm.trans (FS.g hF rfl)
  refine ⟨⟨_, rfl, (by decide)⟩, ?_⟩
  refine s_X8_pieceAt hF (S := 1) (Or.inl rfl) (fun (w1 : (0 ≤ v0 ∧ v0 < (I 1 1) ∧ v0 < 14)) => ?_) (fun (w1 : ¬ (0 ≤ v0 ∧ v0 < (I 1 1) ∧ v0 < 14)) => ?_)
  ·
    have hp2 : PP F (1 + 19 + 5 * Int.toNat v0) := PP_of hF (by omega)
    refine ⟨⟨_, rfl, (by decide)⟩, ?_⟩
    refine s_X11_sheetAt hF (fun (w3 : (0 ≤ v1 ∧ v1 ≤ 3)) => ?_) (fun (w3 : ¬ (0 ≤ v1 ∧ v1 ≤ 3)) => ?_)
    ·
      have hp4 : HP F (227 + 2 * Int.toNat v1) := HP_of hF w3
      refine s_X11_within (fun (w5 : ((0 : Int) ≤ v2 ∧ (v2 : Int) ≤ 24)) => ?_) (fun (w5 : ¬ ((0 : Int) ≤ v2 ∧ (v2 : Int) ≤ 24)) => ?_)
      ·
        refine ⟨fun _ => ?_, fun c => absurd c (show (¬ (1 : Int) = 0) from by decide)⟩
        refine ⟨⟨_, hp4.1, (by have := hp4.2.2.1; show _ < 254; omega)⟩, ?_⟩
        refine Call_wp (lv := [some (vr (227 + 2 * Int.toNat v1))]) (by decide) ckX7_isMissing [] rfl rfl ?_
        refine ⟨_, hp4.1, (by have := hp4.2.2.1; show _ < 254; omega), ?_⟩
        have a6 : -2147483648 ≤ (I (227 + 2 * Int.toNat v1) 0) ∧ (I (227 + 2 * Int.toNat v1) 0) < 2147483648 := hA.1 _ _
        refine ⟨fun (c7 : (¬ ((I (227 + 2 * Int.toNat v1) 0) : Int) = 0)) => ?_, fun (c7 : (((I (227 + 2 * Int.toNat v1) 0) : Int) = 0)) => ?_⟩
        ·
          refine ⟨rfl, (by decide), ?_⟩
          refine ⟨fun _ => ?_, fun c => absurd (show ((0 : Int) = 0) from by decide) c⟩
          refine ⟨(by decide), ?_⟩
          have n8 : (Int.tmod v2 2) = (v2 : Int) % 2 := Int.tmod_eq_emod_of_nonneg (by omega)
          refine ⟨fun (c9 : (((Int.tmod v2 2) : Int) = 0)) => ?_, fun (c9 : (¬ (((Int.tmod v2 2) : Int) = 0))) => ?_⟩
          ·
            refine ⟨⟨_, hp4.1, (by have := hp4.2.2.1; show _ < 254; omega)⟩, ?_⟩
            refine c_begR7 (v0 := v2) hF hR hp4 (by omega) (by omega) (fun vr10 hr11 q12 qr13 => ?_)
            have hr11 : -2147483648 ≤ vr10 ∧ vr10 < 2147483648 := hr11
            have q12 : 0 ≤ vr10 ∧ vr10 ≤ 1 := q12
            refine ⟨fun (c14 : (¬ (vr10 : Int) = 0)) => ?_, fun (c14 : ((vr10 : Int) = 0)) => ?_⟩
            ·
              refine ⟨_, hp2.1.1, (by have := hp2.2; show _ < 254; omega), ?_⟩
              refine fun w0 hw0 => ?_; obtain rfl : w0 = some ((1 + 19 + 5 * Int.toNat v0) + 2) := hw0.symm.trans hp2.1.2.2.2.2.1
              refine ⟨⟨_, hp2.r.1.1, (by have := hp2.r.2; show _ < 254; omega)⟩, ?_⟩
              refine Call_wp (lv := [some (vr ((1 + 19 + 5 * Int.toNat v0) + 2))]) (by decide) ckX6_clear [] rfl rfl ?_
              refine ⟨_, hp2.r.1.1, (by have := hp2.r.2; show _ < 254; omega), ?_⟩
              refine ⟨rfl, ?_⟩
              have hgt : GT (I ((227 + 2 * Int.toNat v1) + 1)) (I (227 + 2 * Int.toNat v1) 1) v2 := qr13.1 (by omega)
              have hgl := hgt.1
              refine c_trace10_l hF hR hp4 hp2 (by omega) (by omega) (by omega) (by omega) (by omega) (fun r I' g1 g2 g3 g4 hv hA2 => hQ _ _ g1 hA2 (hv _ rfl) g2 ⟨fun z => absurd (by omega) z, fun _ => ⟨fun b => absurd b (by omega), fun _ => ⟨fun e => absurd (by omega) e, fun _ => ⟨fun g => absurd hgt g, fun _ => ⟨g3, g4⟩⟩⟩⟩⟩) _ 0 (uI I ((1 + 19 + 5 * Int.toNat v0) + 2) 2 0) (Rg.u hR (Pr_l hp2.r.1.1 (by have := hp2.r.2; omega) _ _ (by decide))) (fun ka ja hk => (uI_o (show ¬ (ka = ((1 + 19 + 5 * Int.toNat v0) + 2) ∧ ja = 2) from by have := hp2.r.2; omega))) (show (0 : Int) ≤ (0 : Int) from Int.le_refl _) (show (0 : Int) % 2 = 0 from by first | omega | (simp only [wr, wl] at *; omega)) (show (0 : Int) ≤ v2 from by first | with_reducible assumption | omega | (simp only [wr, wl] at *; omega)) ((by
                              have a : (uI I ((1 + 19 + 5 * Int.toNat v0) + 2) 2 0) ((1 + 19 + 5 * Int.toNat v0) + 2) 2 = 0 := uJ_eqj (show 2 = 2 from by omega)
                              omega)) (fun j hj => absurd hj (by omega)) (fun k j h1 h2 h3 => uI_o (show ¬ (k = ((1 + 19 + 5 * Int.toNat v0) + 2) ∧ j = 2) from by omega)) (Nat.lt_succ_self _)
            ·
              refine ⟨⟨_, rfl, (by decide)⟩, ?_⟩
              refine s_X11_refuse hF (e := 1) (by decide) ?_
              exact ⟨rfl, fun hv hA' => hQ _ _ (Rg.u hR (Pr_f rfl)) hA' (hv _ rfl) (fun ka ja hk => (uI_o (show ¬ (ka = 203 ∧ ja = 1) from by first | (intro e; obtain ⟨rfl, rfl⟩ := e; exact hk (by decide)) | omega))) (show (¬ ((0 ≤ v0 ∧ v0 < I 1 1) ∧ (0 ≤ v1 ∧ v1 ≤ 3) ∧ 0 ≤ v2 ∧ v2 ≤ 24) → (-1000001) = -1000001 ∧ (∀ k j, 20 ≤ k → k < 90 → (uI I 203 1 (wr ((I 203 1) + 1))) k j = I k j)) ∧ (((0 ≤ v0 ∧ v0 < I 1 1) ∧ (0 ≤ v1 ∧ v1 ≤ 3) ∧ 0 ≤ v2 ∧ v2 ≤ 24) → (I (227 + 2 * Int.toNat v1) 0 = 0 → (-1000001) = -1000002 ∧ (∀ k j, 20 ≤ k → k < 90 → (uI I 203 1 (wr ((I 203 1) + 1))) k j = I k j)) ∧ (¬ I (227 + 2 * Int.toNat v1) 0 = 0 → (¬ v2 % 2 = 0 → (-1000001) = -1000003 ∧ (∀ k j, 20 ≤ k → k < 90 → (uI I 203 1 (wr ((I 203 1) + 1))) k j = I k j)) ∧ (v2 % 2 = 0 → (¬ GT (I ((227 + 2 * Int.toNat v1) + 1)) (I (227 + 2 * Int.toNat v1) 1) v2 → (-1000001) = -1000001 ∧ (∀ k j, 20 ≤ k → k < 90 → (uI I 203 1 (wr ((I 203 1) + 1))) k j = I k j)) ∧ (GT (I ((227 + 2 * Int.toNat v1) + 1)) (I (227 + 2 * Int.toNat v1) 1) v2 → (-1000001) = v2 / 2 ∧ (uI I 203 1 (wr ((I 203 1) + 1))) ((1 + 19 + 5 * Int.toNat v0) + 2) 2 = v2 / 2 ∧ (∀ i : Nat, 2 * (i : Int) < v2 → (uI I 203 1 (wr ((I 203 1) + 1))) (((1 + 19 + 5 * Int.toNat v0) + 2) + 1) i = I ((227 + 2 * Int.toNat v1) + 1) (2 * i) ∧ (uI I 203 1 (wr ((I 203 1) + 1))) (((1 + 19 + 5 * Int.toNat v0) + 2) + 2) i = I ((227 + 2 * Int.toNat v1) + 1) (2 * i + 1)) ∧ ∀ k j, 20 ≤ k → k < 90 → ¬ ((1 + 19 + 5 * Int.toNat v0) + 2 ≤ k ∧ k ≤ (1 + 19 + 5 * Int.toNat v0) + 4) → (uI I 203 1 (wr ((I 203 1) + 1))) k j = I k j)))) from by
                              refine ⟨fun z => ⟨?_, fun k j h1 h2 => uI_o (show ¬ (k = 203 ∧ j = 1) from by omega)⟩, fun z => ⟨fun b => ⟨?_, fun k j h1 h2 => uI_o (show ¬ (k = 203 ∧ j = 1) from by omega)⟩, fun b => ⟨fun e => ⟨?_, fun k j h1 h2 => uI_o (show ¬ (k = 203 ∧ j = 1) from by omega)⟩, fun e => ⟨fun g => ⟨?_, fun k j h1 h2 => uI_o (show ¬ (k = 203 ∧ j = 1) from by omega)⟩, fun g => ?_⟩⟩⟩⟩
                              all_goals first | omega | (exfalso; omega) | (exact absurd (qr13.1 (by omega)) g) | (exfalso; have y := qr13.2 g; omega))⟩
          ·
            refine ⟨⟨_, rfl, (by decide)⟩, ?_⟩
            refine s_X11_refuse hF (e := 3) (by decide) ?_
            exact ⟨rfl, fun hv hA' => hQ _ _ (Rg.u hR (Pr_f rfl)) hA' (hv _ rfl) (fun ka ja hk => (uI_o (show ¬ (ka = 203 ∧ ja = 3) from by first | (intro e; obtain ⟨rfl, rfl⟩ := e; exact hk (by decide)) | omega))) (show (¬ ((0 ≤ v0 ∧ v0 < I 1 1) ∧ (0 ≤ v1 ∧ v1 ≤ 3) ∧ 0 ≤ v2 ∧ v2 ≤ 24) → (-1000003) = -1000001 ∧ (∀ k j, 20 ≤ k → k < 90 → (uI I 203 3 (wr ((I 203 3) + 1))) k j = I k j)) ∧ (((0 ≤ v0 ∧ v0 < I 1 1) ∧ (0 ≤ v1 ∧ v1 ≤ 3) ∧ 0 ≤ v2 ∧ v2 ≤ 24) → (I (227 + 2 * Int.toNat v1) 0 = 0 → (-1000003) = -1000002 ∧ (∀ k j, 20 ≤ k → k < 90 → (uI I 203 3 (wr ((I 203 3) + 1))) k j = I k j)) ∧ (¬ I (227 + 2 * Int.toNat v1) 0 = 0 → (¬ v2 % 2 = 0 → (-1000003) = -1000003 ∧ (∀ k j, 20 ≤ k → k < 90 → (uI I 203 3 (wr ((I 203 3) + 1))) k j = I k j)) ∧ (v2 % 2 = 0 → (¬ GT (I ((227 + 2 * Int.toNat v1) + 1)) (I (227 + 2 * Int.toNat v1) 1) v2 → (-1000003) = -1000001 ∧ (∀ k j, 20 ≤ k → k < 90 → (uI I 203 3 (wr ((I 203 3) + 1))) k j = I k j)) ∧ (GT (I ((227 + 2 * Int.toNat v1) + 1)) (I (227 + 2 * Int.toNat v1) 1) v2 → (-1000003) = v2 / 2 ∧ (uI I 203 3 (wr ((I 203 3) + 1))) ((1 + 19 + 5 * Int.toNat v0) + 2) 2 = v2 / 2 ∧ (∀ i : Nat, 2 * (i : Int) < v2 → (uI I 203 3 (wr ((I 203 3) + 1))) (((1 + 19 + 5 * Int.toNat v0) + 2) + 1) i = I ((227 + 2 * Int.toNat v1) + 1) (2 * i) ∧ (uI I 203 3 (wr ((I 203 3) + 1))) (((1 + 19 + 5 * Int.toNat v0) + 2) + 2) i = I ((227 + 2 * Int.toNat v1) + 1) (2 * i + 1)) ∧ ∀ k j, 20 ≤ k → k < 90 → ¬ ((1 + 19 + 5 * Int.toNat v0) + 2 ≤ k ∧ k ≤ (1 + 19 + 5 * Int.toNat v0) + 4) → (uI I 203 3 (wr ((I 203 3) + 1))) k j = I k j)))) from by
                              refine ⟨fun z => ⟨?_, fun k j h1 h2 => uI_o (show ¬ (k = 203 ∧ j = 3) from by omega)⟩, fun z => ⟨fun b => ⟨?_, fun k j h1 h2 => uI_o (show ¬ (k = 203 ∧ j = 3) from by omega)⟩, fun b => ⟨fun e => ⟨?_, fun k j h1 h2 => uI_o (show ¬ (k = 203 ∧ j = 3) from by omega)⟩, fun e => ⟨fun g => ⟨?_, fun k j h1 h2 => uI_o (show ¬ (k = 203 ∧ j = 3) from by omega)⟩, fun g => ?_⟩⟩⟩⟩
                              all_goals first | omega | (exfalso; omega))⟩
        ·
          refine ⟨rfl, (by decide), ?_⟩
          refine ⟨fun c => absurd c (show (¬ ((1 : Int) = 0)) from by decide), fun _ => ?_⟩
          refine ⟨⟨_, rfl, (by decide)⟩, ?_⟩
          refine s_X11_refuse hF (e := 2) (by decide) ?_
          exact ⟨rfl, fun hv hA' => hQ _ _ (Rg.u hR (Pr_f rfl)) hA' (hv _ rfl) (fun ka ja hk => (uI_o (show ¬ (ka = 203 ∧ ja = 2) from by first | (intro e; obtain ⟨rfl, rfl⟩ := e; exact hk (by decide)) | omega))) (show (¬ ((0 ≤ v0 ∧ v0 < I 1 1) ∧ (0 ≤ v1 ∧ v1 ≤ 3) ∧ 0 ≤ v2 ∧ v2 ≤ 24) → (-1000002) = -1000001 ∧ (∀ k j, 20 ≤ k → k < 90 → (uI I 203 2 (wr ((I 203 2) + 1))) k j = I k j)) ∧ (((0 ≤ v0 ∧ v0 < I 1 1) ∧ (0 ≤ v1 ∧ v1 ≤ 3) ∧ 0 ≤ v2 ∧ v2 ≤ 24) → (I (227 + 2 * Int.toNat v1) 0 = 0 → (-1000002) = -1000002 ∧ (∀ k j, 20 ≤ k → k < 90 → (uI I 203 2 (wr ((I 203 2) + 1))) k j = I k j)) ∧ (¬ I (227 + 2 * Int.toNat v1) 0 = 0 → (¬ v2 % 2 = 0 → (-1000002) = -1000003 ∧ (∀ k j, 20 ≤ k → k < 90 → (uI I 203 2 (wr ((I 203 2) + 1))) k j = I k j)) ∧ (v2 % 2 = 0 → (¬ GT (I ((227 + 2 * Int.toNat v1) + 1)) (I (227 + 2 * Int.toNat v1) 1) v2 → (-1000002) = -1000001 ∧ (∀ k j, 20 ≤ k → k < 90 → (uI I 203 2 (wr ((I 203 2) + 1))) k j = I k j)) ∧ (GT (I ((227 + 2 * Int.toNat v1) + 1)) (I (227 + 2 * Int.toNat v1) 1) v2 → (-1000002) = v2 / 2 ∧ (uI I 203 2 (wr ((I 203 2) + 1))) ((1 + 19 + 5 * Int.toNat v0) + 2) 2 = v2 / 2 ∧ (∀ i : Nat, 2 * (i : Int) < v2 → (uI I 203 2 (wr ((I 203 2) + 1))) (((1 + 19 + 5 * Int.toNat v0) + 2) + 1) i = I ((227 + 2 * Int.toNat v1) + 1) (2 * i) ∧ (uI I 203 2 (wr ((I 203 2) + 1))) (((1 + 19 + 5 * Int.toNat v0) + 2) + 2) i = I ((227 + 2 * Int.toNat v1) + 1) (2 * i + 1)) ∧ ∀ k j, 20 ≤ k → k < 90 → ¬ ((1 + 19 + 5 * Int.toNat v0) + 2 ≤ k ∧ k ≤ (1 + 19 + 5 * Int.toNat v0) + 4) → (uI I 203 2 (wr ((I 203 2) + 1))) k j = I k j)))) from by
                              refine ⟨fun z => ⟨?_, fun k j h1 h2 => uI_o (show ¬ (k = 203 ∧ j = 2) from by omega)⟩, fun z => ⟨fun b => ⟨?_, fun k j h1 h2 => uI_o (show ¬ (k = 203 ∧ j = 2) from by omega)⟩, fun b => ⟨fun e => ⟨?_, fun k j h1 h2 => uI_o (show ¬ (k = 203 ∧ j = 2) from by omega)⟩, fun e => ⟨fun g => ⟨?_, fun k j h1 h2 => uI_o (show ¬ (k = 203 ∧ j = 2) from by omega)⟩, fun g => ?_⟩⟩⟩⟩
                              all_goals first | omega | (exfalso; omega))⟩
      ·
        refine ⟨fun c => absurd (show ((0 : Int) = 0) from by decide) c, fun _ => ?_⟩
        refine ⟨⟨_, rfl, (by decide)⟩, ?_⟩
        refine s_X11_refuse hF (e := 1) (by decide) ?_
        exact ⟨rfl, fun hv hA' => hQ _ _ (Rg.u hR (Pr_f rfl)) hA' (hv _ rfl) (fun ka ja hk => (uI_o (show ¬ (ka = 203 ∧ ja = 1) from by first | (intro e; obtain ⟨rfl, rfl⟩ := e; exact hk (by decide)) | omega))) (show (¬ ((0 ≤ v0 ∧ v0 < I 1 1) ∧ (0 ≤ v1 ∧ v1 ≤ 3) ∧ 0 ≤ v2 ∧ v2 ≤ 24) → (-1000001) = -1000001 ∧ (∀ k j, 20 ≤ k → k < 90 → (uI I 203 1 (wr ((I 203 1) + 1))) k j = I k j)) ∧ (((0 ≤ v0 ∧ v0 < I 1 1) ∧ (0 ≤ v1 ∧ v1 ≤ 3) ∧ 0 ≤ v2 ∧ v2 ≤ 24) → (I (227 + 2 * Int.toNat v1) 0 = 0 → (-1000001) = -1000002 ∧ (∀ k j, 20 ≤ k → k < 90 → (uI I 203 1 (wr ((I 203 1) + 1))) k j = I k j)) ∧ (¬ I (227 + 2 * Int.toNat v1) 0 = 0 → (¬ v2 % 2 = 0 → (-1000001) = -1000003 ∧ (∀ k j, 20 ≤ k → k < 90 → (uI I 203 1 (wr ((I 203 1) + 1))) k j = I k j)) ∧ (v2 % 2 = 0 → (¬ GT (I ((227 + 2 * Int.toNat v1) + 1)) (I (227 + 2 * Int.toNat v1) 1) v2 → (-1000001) = -1000001 ∧ (∀ k j, 20 ≤ k → k < 90 → (uI I 203 1 (wr ((I 203 1) + 1))) k j = I k j)) ∧ (GT (I ((227 + 2 * Int.toNat v1) + 1)) (I (227 + 2 * Int.toNat v1) 1) v2 → (-1000001) = v2 / 2 ∧ (uI I 203 1 (wr ((I 203 1) + 1))) ((1 + 19 + 5 * Int.toNat v0) + 2) 2 = v2 / 2 ∧ (∀ i : Nat, 2 * (i : Int) < v2 → (uI I 203 1 (wr ((I 203 1) + 1))) (((1 + 19 + 5 * Int.toNat v0) + 2) + 1) i = I ((227 + 2 * Int.toNat v1) + 1) (2 * i) ∧ (uI I 203 1 (wr ((I 203 1) + 1))) (((1 + 19 + 5 * Int.toNat v0) + 2) + 2) i = I ((227 + 2 * Int.toNat v1) + 1) (2 * i + 1)) ∧ ∀ k j, 20 ≤ k → k < 90 → ¬ ((1 + 19 + 5 * Int.toNat v0) + 2 ≤ k ∧ k ≤ (1 + 19 + 5 * Int.toNat v0) + 4) → (uI I 203 1 (wr ((I 203 1) + 1))) k j = I k j)))) from by
                              refine ⟨fun z => ⟨?_, fun k j h1 h2 => uI_o (show ¬ (k = 203 ∧ j = 1) from by omega)⟩, fun z => ⟨fun b => ⟨?_, fun k j h1 h2 => uI_o (show ¬ (k = 203 ∧ j = 1) from by omega)⟩, fun b => ⟨fun e => ⟨?_, fun k j h1 h2 => uI_o (show ¬ (k = 203 ∧ j = 1) from by omega)⟩, fun e => ⟨fun g => ⟨?_, fun k j h1 h2 => uI_o (show ¬ (k = 203 ∧ j = 1) from by omega)⟩, fun g => ?_⟩⟩⟩⟩
                              all_goals first | omega | (exfalso; omega))⟩
    ·
      refine ⟨⟨_, rfl, (by decide)⟩, ?_⟩
      refine s_X11_refuse hF (e := 1) (by decide) ?_
      exact ⟨rfl, fun hv hA' => hQ _ _ (Rg.u hR (Pr_f rfl)) hA' (hv _ rfl) (fun ka ja hk => (uI_o (show ¬ (ka = 203 ∧ ja = 1) from by first | (intro e; obtain ⟨rfl, rfl⟩ := e; exact hk (by decide)) | omega))) (show (¬ ((0 ≤ v0 ∧ v0 < I 1 1) ∧ (0 ≤ v1 ∧ v1 ≤ 3) ∧ 0 ≤ v2 ∧ v2 ≤ 24) → (-1000001) = -1000001 ∧ (∀ k j, 20 ≤ k → k < 90 → (uI I 203 1 (wr ((I 203 1) + 1))) k j = I k j)) ∧ (((0 ≤ v0 ∧ v0 < I 1 1) ∧ (0 ≤ v1 ∧ v1 ≤ 3) ∧ 0 ≤ v2 ∧ v2 ≤ 24) → (I (227 + 2 * Int.toNat v1) 0 = 0 → (-1000001) = -1000002 ∧ (∀ k j, 20 ≤ k → k < 90 → (uI I 203 1 (wr ((I 203 1) + 1))) k j = I k j)) ∧ (¬ I (227 + 2 * Int.toNat v1) 0 = 0 → (¬ v2 % 2 = 0 → (-1000001) = -1000003 ∧ (∀ k j, 20 ≤ k → k < 90 → (uI I 203 1 (wr ((I 203 1) + 1))) k j = I k j)) ∧ (v2 % 2 = 0 → (¬ GT (I ((227 + 2 * Int.toNat v1) + 1)) (I (227 + 2 * Int.toNat v1) 1) v2 → (-1000001) = -1000001 ∧ (∀ k j, 20 ≤ k → k < 90 → (uI I 203 1 (wr ((I 203 1) + 1))) k j = I k j)) ∧ (GT (I ((227 + 2 * Int.toNat v1) + 1)) (I (227 + 2 * Int.toNat v1) 1) v2 → (-1000001) = v2 / 2 ∧ (uI I 203 1 (wr ((I 203 1) + 1))) ((1 + 19 + 5 * Int.toNat v0) + 2) 2 = v2 / 2 ∧ (∀ i : Nat, 2 * (i : Int) < v2 → (uI I 203 1 (wr ((I 203 1) + 1))) (((1 + 19 + 5 * Int.toNat v0) + 2) + 1) i = I ((227 + 2 * Int.toNat v1) + 1) (2 * i) ∧ (uI I 203 1 (wr ((I 203 1) + 1))) (((1 + 19 + 5 * Int.toNat v0) + 2) + 2) i = I ((227 + 2 * Int.toNat v1) + 1) (2 * i + 1)) ∧ ∀ k j, 20 ≤ k → k < 90 → ¬ ((1 + 19 + 5 * Int.toNat v0) + 2 ≤ k ∧ k ≤ (1 + 19 + 5 * Int.toNat v0) + 4) → (uI I 203 1 (wr ((I 203 1) + 1))) k j = I k j)))) from by
                              refine ⟨fun z => ⟨?_, fun k j h1 h2 => uI_o (show ¬ (k = 203 ∧ j = 1) from by omega)⟩, fun z => ⟨fun b => ⟨?_, fun k j h1 h2 => uI_o (show ¬ (k = 203 ∧ j = 1) from by omega)⟩, fun b => ⟨fun e => ⟨?_, fun k j h1 h2 => uI_o (show ¬ (k = 203 ∧ j = 1) from by omega)⟩, fun e => ⟨fun g => ⟨?_, fun k j h1 h2 => uI_o (show ¬ (k = 203 ∧ j = 1) from by omega)⟩, fun g => ?_⟩⟩⟩⟩
                              all_goals first | omega | (exfalso; omega))⟩
  ·
    refine ⟨⟨_, rfl, (by decide)⟩, ?_⟩
    refine s_X11_sheetAt hF (fun (w15 : (0 ≤ v1 ∧ v1 ≤ 3)) => ?_) (fun (w15 : ¬ (0 ≤ v1 ∧ v1 ≤ 3)) => ?_)
    ·
      have hp16 : HP F (227 + 2 * Int.toNat v1) := HP_of hF w15
      refine ⟨⟨_, rfl, (by decide)⟩, ?_⟩
      refine s_X11_refuse hF (e := 1) (by decide) ?_
      exact ⟨rfl, fun hv hA' => hQ _ _ (Rg.u hR (Pr_f rfl)) hA' (hv _ rfl) (fun ka ja hk => (uI_o (show ¬ (ka = 203 ∧ ja = 1) from by first | (intro e; obtain ⟨rfl, rfl⟩ := e; exact hk (by decide)) | omega))) (show (¬ ((0 ≤ v0 ∧ v0 < I 1 1) ∧ (0 ≤ v1 ∧ v1 ≤ 3) ∧ 0 ≤ v2 ∧ v2 ≤ 24) → (-1000001) = -1000001 ∧ (∀ k j, 20 ≤ k → k < 90 → (uI I 203 1 (wr ((I 203 1) + 1))) k j = I k j)) ∧ (((0 ≤ v0 ∧ v0 < I 1 1) ∧ (0 ≤ v1 ∧ v1 ≤ 3) ∧ 0 ≤ v2 ∧ v2 ≤ 24) → (I (227 + 2 * Int.toNat v1) 0 = 0 → (-1000001) = -1000002 ∧ (∀ k j, 20 ≤ k → k < 90 → (uI I 203 1 (wr ((I 203 1) + 1))) k j = I k j)) ∧ (¬ I (227 + 2 * Int.toNat v1) 0 = 0 → (¬ v2 % 2 = 0 → (-1000001) = -1000003 ∧ (∀ k j, 20 ≤ k → k < 90 → (uI I 203 1 (wr ((I 203 1) + 1))) k j = I k j)) ∧ (v2 % 2 = 0 → (¬ GT (I ((227 + 2 * Int.toNat v1) + 1)) (I (227 + 2 * Int.toNat v1) 1) v2 → (-1000001) = -1000001 ∧ (∀ k j, 20 ≤ k → k < 90 → (uI I 203 1 (wr ((I 203 1) + 1))) k j = I k j)) ∧ (GT (I ((227 + 2 * Int.toNat v1) + 1)) (I (227 + 2 * Int.toNat v1) 1) v2 → (-1000001) = v2 / 2 ∧ (uI I 203 1 (wr ((I 203 1) + 1))) ((1 + 19 + 5 * Int.toNat v0) + 2) 2 = v2 / 2 ∧ (∀ i : Nat, 2 * (i : Int) < v2 → (uI I 203 1 (wr ((I 203 1) + 1))) (((1 + 19 + 5 * Int.toNat v0) + 2) + 1) i = I ((227 + 2 * Int.toNat v1) + 1) (2 * i) ∧ (uI I 203 1 (wr ((I 203 1) + 1))) (((1 + 19 + 5 * Int.toNat v0) + 2) + 2) i = I ((227 + 2 * Int.toNat v1) + 1) (2 * i + 1)) ∧ ∀ k j, 20 ≤ k → k < 90 → ¬ ((1 + 19 + 5 * Int.toNat v0) + 2 ≤ k ∧ k ≤ (1 + 19 + 5 * Int.toNat v0) + 4) → (uI I 203 1 (wr ((I 203 1) + 1))) k j = I k j)))) from by
                              refine ⟨fun z => ⟨?_, fun k j h1 h2 => uI_o (show ¬ (k = 203 ∧ j = 1) from by omega)⟩, fun z => ⟨fun b => ⟨?_, fun k j h1 h2 => uI_o (show ¬ (k = 203 ∧ j = 1) from by omega)⟩, fun b => ⟨fun e => ⟨?_, fun k j h1 h2 => uI_o (show ¬ (k = 203 ∧ j = 1) from by omega)⟩, fun e => ⟨fun g => ⟨?_, fun k j h1 h2 => uI_o (show ¬ (k = 203 ∧ j = 1) from by omega)⟩, fun g => ?_⟩⟩⟩⟩
                              all_goals first | omega | (exfalso; omega))⟩
    ·
      refine ⟨⟨_, rfl, (by decide)⟩, ?_⟩
      refine s_X11_refuse hF (e := 1) (by decide) ?_
      exact ⟨rfl, fun hv hA' => hQ _ _ (Rg.u hR (Pr_f rfl)) hA' (hv _ rfl) (fun ka ja hk => (uI_o (show ¬ (ka = 203 ∧ ja = 1) from by first | (intro e; obtain ⟨rfl, rfl⟩ := e; exact hk (by decide)) | omega))) (show (¬ ((0 ≤ v0 ∧ v0 < I 1 1) ∧ (0 ≤ v1 ∧ v1 ≤ 3) ∧ 0 ≤ v2 ∧ v2 ≤ 24) → (-1000001) = -1000001 ∧ (∀ k j, 20 ≤ k → k < 90 → (uI I 203 1 (wr ((I 203 1) + 1))) k j = I k j)) ∧ (((0 ≤ v0 ∧ v0 < I 1 1) ∧ (0 ≤ v1 ∧ v1 ≤ 3) ∧ 0 ≤ v2 ∧ v2 ≤ 24) → (I (227 + 2 * Int.toNat v1) 0 = 0 → (-1000001) = -1000002 ∧ (∀ k j, 20 ≤ k → k < 90 → (uI I 203 1 (wr ((I 203 1) + 1))) k j = I k j)) ∧ (¬ I (227 + 2 * Int.toNat v1) 0 = 0 → (¬ v2 % 2 = 0 → (-1000001) = -1000003 ∧ (∀ k j, 20 ≤ k → k < 90 → (uI I 203 1 (wr ((I 203 1) + 1))) k j = I k j)) ∧ (v2 % 2 = 0 → (¬ GT (I ((227 + 2 * Int.toNat v1) + 1)) (I (227 + 2 * Int.toNat v1) 1) v2 → (-1000001) = -1000001 ∧ (∀ k j, 20 ≤ k → k < 90 → (uI I 203 1 (wr ((I 203 1) + 1))) k j = I k j)) ∧ (GT (I ((227 + 2 * Int.toNat v1) + 1)) (I (227 + 2 * Int.toNat v1) 1) v2 → (-1000001) = v2 / 2 ∧ (uI I 203 1 (wr ((I 203 1) + 1))) ((1 + 19 + 5 * Int.toNat v0) + 2) 2 = v2 / 2 ∧ (∀ i : Nat, 2 * (i : Int) < v2 → (uI I 203 1 (wr ((I 203 1) + 1))) (((1 + 19 + 5 * Int.toNat v0) + 2) + 1) i = I ((227 + 2 * Int.toNat v1) + 1) (2 * i) ∧ (uI I 203 1 (wr ((I 203 1) + 1))) (((1 + 19 + 5 * Int.toNat v0) + 2) + 2) i = I ((227 + 2 * Int.toNat v1) + 1) (2 * i + 1)) ∧ ∀ k j, 20 ≤ k → k < 90 → ¬ ((1 + 19 + 5 * Int.toNat v0) + 2 ≤ k ∧ k ≤ (1 + 19 + 5 * Int.toNat v0) + 4) → (uI I 203 1 (wr ((I 203 1) + 1))) k j = I k j)))) from by
                              refine ⟨fun z => ⟨?_, fun k j h1 h2 => uI_o (show ¬ (k = 203 ∧ j = 1) from by omega)⟩, fun z => ⟨fun b => ⟨?_, fun k j h1 h2 => uI_o (show ¬ (k = 203 ∧ j = 1) from by omega)⟩, fun b => ⟨fun e => ⟨?_, fun k j h1 h2 => uI_o (show ¬ (k = 203 ∧ j = 1) from by omega)⟩, fun e => ⟨fun g => ⟨?_, fun k j h1 h2 => uI_o (show ¬ (k = 203 ∧ j = 1) from by omega)⟩, fun g => ?_⟩⟩⟩⟩
                              all_goals first | omega | (exfalso; omega))⟩
theorem r_trace10_l2 (hF : FS F) (hR : Rg I) {v0 v1 v2 : Int} (hp : 0 ≤ v0 ∧ v0 ≤ 13) (hs : 0 ≤ v1 ∧ v1 ≤ 3) (hn : 0 ≤ v2 ∧ v2 ≤ 24 ∧ v2 % 2 = 0) (hQ : ∀ (r : Int) (I' : pI), Rg I' → (∀ k j, ¬ (k = 238 ∨ (k = 236 ∧ 304 ≤ j ∧ j < 1228 ∧ ((j - 304) % 66 = 4 ∨ 17 ≤ (j - 304) % 66))) → I' k j = I k j) → (r = v2 / 2) → (I' 236 (304 + 66 * (Int.toNat v0) + 4) = v2 / 2 ∧ (∀ j : Nat, 2 * (j : Int) < v2 → I' 236 (304 + 66 * (Int.toNat v0) + 17 + 2 * j) = I 252 (24 * Int.toNat v1 + 2 * j) ∧ I' 236 (304 + 66 * (Int.toNat v0) + 18 + 2 * j) = I 252 (24 * Int.toNat v1 + (2 * j + 1))) ∧ ∀ j : Nat, ¬ (j = 304 + 66 * (Int.toNat v0) + 4) → ¬ (304 + 66 * (Int.toNat v0) + 17 ≤ j ∧ j < 304 + 66 * (Int.toNat v0) + 66) → I' 236 j = I 236 j) → Q (some (vi r)) F I') : ∀ (mz : Nat) (g k : Int) (J : pI), Rg J → (∀ k j, ¬ (k = 238 ∨ (k = 236 ∧ 304 ≤ j ∧ j < 1228 ∧ ((j - 304) % 66 = 4 ∨ 17 ≤ (j - 304) % 66))) → J k j = I k j) → ((0 : Int) ≤ k) → ((k : Int) ≤ 24) → (k % 2 = 0) → (k ≤ v2) → (∀ j : Nat, 2 * (j : Int) < k → J 236 (304 + 66 * (Int.toNat v0) + 17 + 2 * j) = I 252 (24 * Int.toNat v1 + 2 * j) ∧ J 236 (304 + 66 * (Int.toNat v0) + 18 + 2 * j) = I 252 (24 * Int.toNat v1 + (2 * j + 1))) → (∀ j : Nat, ¬ (j = 304 + 66 * (Int.toNat v0) + 4) → ¬ (304 + 66 * (Int.toNat v0) + 17 ≤ j ∧ j < 304 + 66 * (Int.toNat v0) + 66) → J 236 j = I 236 j) → (24 - k).toNat < mz → GoN G (d + 1) kX12_trace NP NP 194 [some (vr 235), some (vi v0), some (vi v1), some (vi v2), some (vi g), some (vi k), none] [] F J Q := by
  intro mz
  induction mz with
  | zero => intro g k J hJ hV _ _ _ _ _ _ h; exact absurd h (Nat.not_lt_zero _)
  | succ mz ih =>
    intro g k J hJ hV cc100 cc101 cc102 cc103 cc104 cc105 hm
    refine GoN_in (fun hok hA => ?_)
    have iiv0 : -2147483648 ≤ v0 ∧ v0 < 2147483648 := hok 1 _ rfl
    have iiv1 : -2147483648 ≤ v1 ∧ v1 < 2147483648 := hok 2 _ rfl
    have iiv2 : -2147483648 ≤ v2 ∧ v2 < 2147483648 := hok 3 _ rfl
    have iig : -2147483648 ≤ g ∧ g < 2147483648 := hok 4 _ rfl
    have iik : -2147483648 ≤ k ∧ k < 2147483648 := hok 5 _ rfl
    refine Go_wp (by decide) ckX12_trace [194] ?_
    refine ⟨fun (c1 : ((v2 : Int) ≤ k)) => ?_, fun (c1 : (¬ ((v2 : Int) ≤ k))) => ?_⟩
    ·
      refine ⟨_, rfl, (by decide), ?_⟩
      refine fun w0 hw0 => ?_; obtain rfl : w0 = some 236 := hw0.symm.trans (FS.g hF rfl)
      refine ⟨(by decide), ?_⟩
      have n2 : (wr (66 * v0)) = 66 * v0 := wr_id (show -2147483648 ≤ (66 * v0 : Int) ∧ (66 * v0 : Int) < 2147483648 from by omega)
      have n3 : (wr (304 + (wr (66 * v0)))) = 304 + (wr (66 * v0)) := wr_id (show -2147483648 ≤ (304 + (wr (66 * v0)) : Int) ∧ (304 + (wr (66 * v0)) : Int) < 2147483648 from by omega)
      have n4 : (wr ((wr (304 + (wr (66 * v0)))) + 4)) = (wr (304 + (wr (66 * v0)))) + 4 := wr_id (show -2147483648 ≤ ((wr (304 + (wr (66 * v0)))) + 4 : Int) ∧ ((wr (304 + (wr (66 * v0)))) + 4 : Int) < 2147483648 from by omega)
      refine ⟨_, rfl, (by decide), (show (0 : Int) ≤ (wr ((wr (304 + (wr (66 * v0)))) + 4)) from by first | with_reducible assumption | omega | (simp only [wr, wl] at *; omega)), (show (wr ((wr (304 + (wr (66 * v0)))) + 4)) < (1340 : Int) from by first | with_reducible assumption | omega | (simp only [wr, wl] at *; omega)), ?_⟩
      have n5 : (Int.tdiv v2 2) = (v2 : Int) / 2 := Int.tdiv_eq_ediv_of_nonneg (by omega)
      have n6 : (wr (Int.tdiv v2 2)) = (Int.tdiv v2 2) := wr_id (show -2147483648 ≤ ((Int.tdiv v2 2) : Int) ∧ ((Int.tdiv v2 2) : Int) < 2147483648 from by omega)
      have p7 : Pn (Int.toNat (wr ((wr (304 + (wr (66 * v0)))) + 4))) (wr (Int.tdiv v2 2)) := by apply Pn_w <;> omega
      refine ⟨(by decide), ?_⟩
      exact ⟨rfl, hQ _ _ (Rg.u hJ (Pr_n p7)) (fun ka ja hk => ((uI_o (show ¬ (ka = 236 ∧ ja = (Int.toNat (wr ((wr (304 + (wr (66 * v0)))) + 4)))) from by omega))).trans ((hV ka ja (by omega)))) (show (wr (Int.tdiv v2 2)) = v2 / 2 from by first | omega | (simp only [wr, wl] at *; omega)) (⟨(uJ_eqj (show (304 + 66 * (Int.toNat v0) + 4) = (Int.toNat (wr ((wr (304 + (wr (66 * v0)))) + 4))) from by omega)).trans (show (wr (Int.tdiv v2 2)) = v2 / 2 from by omega), fun j hj => ⟨(uJ_ne (show ¬ (304 + 66 * (Int.toNat v0) + 17 + 2 * j) = (Int.toNat (wr ((wr (304 + (wr (66 * v0)))) + 4))) from by omega)).trans (cc104 j (by omega)).1, (uJ_ne (show ¬ (304 + 66 * (Int.toNat v0) + 18 + 2 * j) = (Int.toNat (wr ((wr (304 + (wr (66 * v0)))) + 4))) from by omega)).trans (cc104 j (by omega)).2⟩, fun j h1 h2 => (uJ_ne (show ¬ j = (Int.toNat (wr ((wr (304 + (wr (66 * v0)))) + 4))) from by omega)).trans (cc105 j h1 h2)⟩)⟩
    ·
      refine ⟨(by decide), ?_⟩
      refine ⟨_, rfl, (by decide), ?_⟩
      refine fun w0 hw0 => ?_; obtain rfl : w0 = some 252 := hw0.symm.trans (FS.g hF rfl)
      have n8 : (wr (24 * v1)) = 24 * v1 := wr_id (show -2147483648 ≤ (24 * v1 : Int) ∧ (24 * v1 : Int) < 2147483648 from by omega)
      have n9 : (wr ((wr (24 * v1)) + k)) = (wr (24 * v1)) + k := wr_id (show -2147483648 ≤ ((wr (24 * v1)) + k : Int) ∧ ((wr (24 * v1)) + k : Int) < 2147483648 from by omega)
      refine ⟨_, rfl, (by decide), (show (0 : Int) ≤ (wr ((wr (24 * v1)) + k)) from by first | with_reducible assumption | omega | (simp only [wr, wl] at *; omega)), (show (wr ((wr (24 * v1)) + k)) < (96 : Int) from by first | with_reducible assumption | omega | (simp only [wr, wl] at *; omega)), ?_⟩
      have u10 : (J 252 (Int.toNat (wr ((wr (24 * v1)) + k)))) = (I 252 (Int.toNat (wr ((wr (24 * v1)) + k)))) := hV _ _ (by first | decide | omega)
      have a11 : -2147483648 ≤ (J 252 (Int.toNat (wr ((wr (24 * v1)) + k)))) ∧ (J 252 (Int.toNat (wr ((wr (24 * v1)) + k)))) < 2147483648 := hA.1 _ _
      refine ⟨_, rfl, (by decide), ?_⟩
      refine fun w0 hw0 => ?_; obtain rfl : w0 = some 252 := hw0.symm.trans (FS.g hF rfl)
      have n12 : (wr ((wr ((wr (24 * v1)) + k)) + 1)) = (wr ((wr (24 * v1)) + k)) + 1 := wr_id (show -2147483648 ≤ ((wr ((wr (24 * v1)) + k)) + 1 : Int) ∧ ((wr ((wr (24 * v1)) + k)) + 1 : Int) < 2147483648 from by omega)
      refine ⟨_, rfl, (by decide), (show (0 : Int) ≤ (wr ((wr ((wr (24 * v1)) + k)) + 1)) from by first | with_reducible assumption | omega | (simp only [wr, wl] at *; omega)), (show (wr ((wr ((wr (24 * v1)) + k)) + 1)) < (96 : Int) from by first | with_reducible assumption | omega | (simp only [wr, wl] at *; omega)), ?_⟩
      have u13 : (J 252 (Int.toNat (wr ((wr ((wr (24 * v1)) + k)) + 1)))) = (I 252 (Int.toNat (wr ((wr ((wr (24 * v1)) + k)) + 1)))) := hV _ _ (by first | decide | omega)
      have a14 : -2147483648 ≤ (J 252 (Int.toNat (wr ((wr ((wr (24 * v1)) + k)) + 1)))) ∧ (J 252 (Int.toNat (wr ((wr ((wr (24 * v1)) + k)) + 1)))) < 2147483648 := hA.1 _ _
      refine ⟨⟨_, rfl, (by decide)⟩, ?_⟩
      refine Call_wp (lv := [some (vr 235), some (vi v0), some (vi (wr (Int.tdiv k 2))), some (vi (J 252 (Int.toNat (wr ((wr (24 * v1)) + k))))), some (vi (J 252 (Int.toNat (wr ((wr ((wr (24 * v1)) + k)) + 1)))))]) (by decide) ckX12_read [] rfl rfl ?_
      refine ⟨_, rfl, (by decide), ?_⟩
      refine fun w0 hw0 => ?_; obtain rfl : w0 = some 236 := hw0.symm.trans (FS.g hF rfl)
      have n15 : (wr (66 * v0)) = 66 * v0 := wr_id (show -2147483648 ≤ (66 * v0 : Int) ∧ (66 * v0 : Int) < 2147483648 from by omega)
      have n16 : (wr (304 + (wr (66 * v0)))) = 304 + (wr (66 * v0)) := wr_id (show -2147483648 ≤ (304 + (wr (66 * v0)) : Int) ∧ (304 + (wr (66 * v0)) : Int) < 2147483648 from by omega)
      have n17 : (wr ((wr (304 + (wr (66 * v0)))) + 17)) = (wr (304 + (wr (66 * v0)))) + 17 := wr_id (show -2147483648 ≤ ((wr (304 + (wr (66 * v0)))) + 17 : Int) ∧ ((wr (304 + (wr (66 * v0)))) + 17 : Int) < 2147483648 from by omega)
      have n18 : (Int.tdiv k 2) = (k : Int) / 2 := Int.tdiv_eq_ediv_of_nonneg (by omega)
      have n19 : (wr (Int.tdiv k 2)) = (Int.tdiv k 2) := wr_id (show -2147483648 ≤ ((Int.tdiv k 2) : Int) ∧ ((Int.tdiv k 2) : Int) < 2147483648 from by omega)
      have n20 : (wr (2 * (wr (Int.tdiv k 2)))) = 2 * (wr (Int.tdiv k 2)) := wr_id (show -2147483648 ≤ (2 * (wr (Int.tdiv k 2)) : Int) ∧ (2 * (wr (Int.tdiv k 2)) : Int) < 2147483648 from by omega)
      have n21 : (wr ((wr ((wr (304 + (wr (66 * v0)))) + 17)) + (wr (2 * (wr (Int.tdiv k 2)))))) = (wr ((wr (304 + (wr (66 * v0)))) + 17)) + (wr (2 * (wr (Int.tdiv k 2)))) := wr_id (show -2147483648 ≤ ((wr ((wr (304 + (wr (66 * v0)))) + 17)) + (wr (2 * (wr (Int.tdiv k 2)))) : Int) ∧ ((wr ((wr (304 + (wr (66 * v0)))) + 17)) + (wr (2 * (wr (Int.tdiv k 2)))) : Int) < 2147483648 from by omega)
      refine ⟨_, rfl, (by decide), (show (0 : Int) ≤ (wr ((wr ((wr (304 + (wr (66 * v0)))) + 17)) + (wr (2 * (wr (Int.tdiv k 2)))))) from by first | with_reducible assumption | omega | (simp only [wr, wl] at *; omega)), (show (wr ((wr ((wr (304 + (wr (66 * v0)))) + 17)) + (wr (2 * (wr (Int.tdiv k 2)))))) < (1340 : Int) from by first | with_reducible assumption | omega | (simp only [wr, wl] at *; omega)), ?_⟩
      have p22 : Pn (Int.toNat (wr ((wr ((wr (304 + (wr (66 * v0)))) + 17)) + (wr (2 * (wr (Int.tdiv k 2))))))) (J 252 (Int.toNat (wr ((wr (24 * v1)) + k)))) := by apply Pn_w <;> omega
      refine ⟨_, rfl, (by decide), ?_⟩
      refine fun w0 hw0 => ?_; obtain rfl : w0 = some 236 := hw0.symm.trans (FS.g hF rfl)
      have n23 : (wr ((wr ((wr ((wr (304 + (wr (66 * v0)))) + 17)) + (wr (2 * (wr (Int.tdiv k 2)))))) + 1)) = (wr ((wr ((wr (304 + (wr (66 * v0)))) + 17)) + (wr (2 * (wr (Int.tdiv k 2)))))) + 1 := wr_id (show -2147483648 ≤ ((wr ((wr ((wr (304 + (wr (66 * v0)))) + 17)) + (wr (2 * (wr (Int.tdiv k 2)))))) + 1 : Int) ∧ ((wr ((wr ((wr (304 + (wr (66 * v0)))) + 17)) + (wr (2 * (wr (Int.tdiv k 2)))))) + 1 : Int) < 2147483648 from by omega)
      refine ⟨_, rfl, (by decide), (show (0 : Int) ≤ (wr ((wr ((wr ((wr (304 + (wr (66 * v0)))) + 17)) + (wr (2 * (wr (Int.tdiv k 2)))))) + 1)) from by first | with_reducible assumption | omega | (simp only [wr, wl] at *; omega)), (show (wr ((wr ((wr ((wr (304 + (wr (66 * v0)))) + 17)) + (wr (2 * (wr (Int.tdiv k 2)))))) + 1)) < (1340 : Int) from by first | with_reducible assumption | omega | (simp only [wr, wl] at *; omega)), ?_⟩
      have p24 : Pn (Int.toNat (wr ((wr ((wr ((wr (304 + (wr (66 * v0)))) + 17)) + (wr (2 * (wr (Int.tdiv k 2)))))) + 1))) (J 252 (Int.toNat (wr ((wr ((wr (24 * v1)) + k)) + 1)))) := by apply Pn_w <;> omega
      refine ⟨rfl, ?_⟩
      have n25 : (wr (k + 2)) = k + 2 := wr_id (show -2147483648 ≤ (k + 2 : Int) ∧ (k + 2 : Int) < 2147483648 from by omega)
      exact ih g (wr (k + 2)) (uI (uI J 236 (Int.toNat (wr ((wr ((wr (304 + (wr (66 * v0)))) + 17)) + (wr (2 * (wr (Int.tdiv k 2))))))) (J 252 (Int.toNat (wr ((wr (24 * v1)) + k))))) 236 (Int.toNat (wr ((wr ((wr ((wr (304 + (wr (66 * v0)))) + 17)) + (wr (2 * (wr (Int.tdiv k 2)))))) + 1))) (J 252 (Int.toNat (wr ((wr ((wr (24 * v1)) + k)) + 1))))) (Rg.u (Rg.u hJ (Pr_n p22)) (Pr_n p24)) (fun ka ja hk => ((uI_o (show ¬ (ka = 236 ∧ ja = (Int.toNat (wr ((wr ((wr ((wr (304 + (wr (66 * v0)))) + 17)) + (wr (2 * (wr (Int.tdiv k 2)))))) + 1)))) from by omega))).trans (((uI_o (show ¬ (ka = 236 ∧ ja = (Int.toNat (wr ((wr ((wr (304 + (wr (66 * v0)))) + 17)) + (wr (2 * (wr (Int.tdiv k 2)))))))) from by omega))).trans ((hV ka ja (by omega))))) (show (0 : Int) ≤ (wr (k + 2)) from by first | with_reducible assumption | omega | (simp only [wr, wl] at *; omega)) (show ((wr (k + 2)) : Int) ≤ 24 from by first | with_reducible assumption | omega | (simp only [wr, wl] at *; omega)) (show (wr (k + 2)) % 2 = 0 from by first | omega | (simp only [wr, wl] at *; omega)) (show (wr (k + 2)) ≤ v2 from by first | with_reducible assumption | omega | (simp only [wr, wl] at *; omega)) (fun j hj => if e : 2 * (j : Int) = k then ⟨((uJ_ne (show ¬ (304 + 66 * (Int.toNat v0) + 17 + 2 * j) = (Int.toNat (wr ((wr ((wr ((wr (304 + (wr (66 * v0)))) + 17)) + (wr (2 * (wr (Int.tdiv k 2)))))) + 1))) from by omega)).trans (uJ_eqj (show (304 + 66 * (Int.toNat v0) + 17 + 2 * j) = (Int.toNat (wr ((wr ((wr (304 + (wr (66 * v0)))) + 17)) + (wr (2 * (wr (Int.tdiv k 2))))))) from by omega))).trans ((hV 252 _ (by first | decide | omega)).trans (congrArg (I 252) (by omega))), (uJ_eqj (show (304 + 66 * (Int.toNat v0) + 18 + 2 * j) = (Int.toNat (wr ((wr ((wr ((wr (304 + (wr (66 * v0)))) + 17)) + (wr (2 * (wr (Int.tdiv k 2)))))) + 1))) from by omega)).trans ((hV 252 _ (by first | decide | omega)).trans (congrArg (I 252) (by omega)))⟩ else ⟨((uJ_ne (show ¬ (304 + 66 * (Int.toNat v0) + 17 + 2 * j) = (Int.toNat (wr ((wr ((wr ((wr (304 + (wr (66 * v0)))) + 17)) + (wr (2 * (wr (Int.tdiv k 2)))))) + 1))) from by omega)).trans (uJ_ne (show ¬ (304 + 66 * (Int.toNat v0) + 17 + 2 * j) = (Int.toNat (wr ((wr ((wr (304 + (wr (66 * v0)))) + 17)) + (wr (2 * (wr (Int.tdiv k 2))))))) from by omega))).trans (cc104 j (by omega)).1, ((uJ_ne (show ¬ (304 + 66 * (Int.toNat v0) + 18 + 2 * j) = (Int.toNat (wr ((wr ((wr ((wr (304 + (wr (66 * v0)))) + 17)) + (wr (2 * (wr (Int.tdiv k 2)))))) + 1))) from by omega)).trans (uJ_ne (show ¬ (304 + 66 * (Int.toNat v0) + 18 + 2 * j) = (Int.toNat (wr ((wr ((wr (304 + (wr (66 * v0)))) + 17)) + (wr (2 * (wr (Int.tdiv k 2))))))) from by omega))).trans (cc104 j (by omega)).2⟩) (fun j h1 h2 => ((uJ_ne (show ¬ j = (Int.toNat (wr ((wr ((wr ((wr (304 + (wr (66 * v0)))) + 17)) + (wr (2 * (wr (Int.tdiv k 2)))))) + 1))) from by omega)).trans (uJ_ne (show ¬ j = (Int.toNat (wr ((wr ((wr (304 + (wr (66 * v0)))) + 17)) + (wr (2 * (wr (Int.tdiv k 2))))))) from by omega))).trans (cc105 j h1 h2)) (show (24 - (wr (k + 2))).toNat < mz from by omega)
theorem r_trace10_l1 (hF : FS F) (hR : Rg I) {v0 v1 v2 : Int} (hp : 0 ≤ v0 ∧ v0 ≤ 13) (hs : 0 ≤ v1 ∧ v1 ≤ 3) (hn : 0 ≤ v2 ∧ v2 ≤ 24 ∧ v2 % 2 = 0) (hQ : ∀ (r : Int) (I' : pI), Rg I' → (∀ k j, ¬ (k = 238 ∨ (k = 236 ∧ 304 ≤ j ∧ j < 1228 ∧ ((j - 304) % 66 = 4 ∨ 17 ≤ (j - 304) % 66))) → I' k j = I k j) → ((¬ GT (fun j => I 252 (24 * Int.toNat v1 + j)) (I 251 (Int.toNat v1)) v2 → r = -1000001 ∧ (∀ j, I' 236 j = I 236 j)) ∧ (GT (fun j => I 252 (24 * Int.toNat v1 + j)) (I 251 (Int.toNat v1)) v2 → r = v2 / 2 ∧ I' 236 (304 + 66 * (Int.toNat v0) + 4) = v2 / 2 ∧ (∀ j : Nat, 2 * (j : Int) < v2 → I' 236 (304 + 66 * (Int.toNat v0) + 17 + 2 * j) = I 252 (24 * Int.toNat v1 + 2 * j) ∧ I' 236 (304 + 66 * (Int.toNat v0) + 18 + 2 * j) = I 252 (24 * Int.toNat v1 + (2 * j + 1))) ∧ ∀ j : Nat, ¬ (j = 304 + 66 * (Int.toNat v0) + 4) → ¬ (304 + 66 * (Int.toNat v0) + 17 ≤ j ∧ j < 304 + 66 * (Int.toNat v0) + 66) → I' 236 j = I 236 j)) → Q (some (vi r)) F I') : ∀ (mz : Nat) (g k : Int) (J : pI), Rg J → (∀ k j, ¬ (k = 238 ∨ (k = 236 ∧ 304 ≤ j ∧ j < 1228 ∧ ((j - 304) % 66 = 4 ∨ 17 ≤ (j - 304) % 66))) → J k j = I k j) → ((0 : Int) ≤ k) → ((k : Int) ≤ 24) → (k % 2 = 0) → (0 ≤ g ∧ g ≤ 1) → ((g = 1 → v2 ≤ I 251 (Int.toNat v1) ∧ ∀ j : Nat, 2 * (j : Int) < k → OKJ (fun j => I 252 (24 * Int.toNat v1 + j)) j) ∧ (g = 0 → ¬ GT (fun j => I 252 (24 * Int.toNat v1 + j)) (I 251 (Int.toNat v1)) v2)) → (∀ j, J 236 j = I 236 j) → (24 - k).toNat < mz → GoN G (d + 1) kX12_trace NP NP 83 [some (vr 235), some (vi v0), some (vi v1), some (vi v2), some (vi g), some (vi k), none] [] F J Q := by
  intro mz
  induction mz with
  | zero => intro g k J hJ hV _ _ _ _ _ _ h; exact absurd h (Nat.not_lt_zero _)
  | succ mz ih =>
    intro g k J hJ hV cc100 cc101 cc102 cc103 cc104 cc105 hm
    refine GoN_in (fun hok hA => ?_)
    have iiv0 : -2147483648 ≤ v0 ∧ v0 < 2147483648 := hok 1 _ rfl
    have iiv1 : -2147483648 ≤ v1 ∧ v1 < 2147483648 := hok 2 _ rfl
    have iiv2 : -2147483648 ≤ v2 ∧ v2 < 2147483648 := hok 3 _ rfl
    have iig : -2147483648 ≤ g ∧ g < 2147483648 := hok 4 _ rfl
    have iik : -2147483648 ≤ k ∧ k < 2147483648 := hok 5 _ rfl
    refine Go_wp (by decide) ckX12_trace [83, 194] ?_
    refine ⟨fun (c1 : ((v2 : Int) ≤ k)) => ?_, fun (c1 : (¬ ((v2 : Int) ≤ k))) => ?_⟩
    ·
      refine ⟨fun (c2 : (¬ (g : Int) = 0)) => ?_, fun (c2 : ((g : Int) = 0)) => ?_⟩
      ·
        refine r_trace10_l2 hF hR (by omega) (by omega) (by omega) (fun r I' g1 g2 g3 g4 => hQ _ _ g1 g2 ⟨fun z => absurd (show GT (fun j => I 252 (24 * Int.toNat v1 + j)) (I 251 (Int.toNat v1)) v2 from ⟨(cc104.1 (by omega)).1, fun j hj => (cc104.1 (by omega)).2 j (by omega)⟩) z, fun _ => ⟨g3, g4⟩⟩) _ g 0 J hJ (fun ka ja hk => (hV ka ja (by omega))) (show (0 : Int) ≤ (0 : Int) from Int.le_refl _) (show ((0 : Int) : Int) ≤ 24 from by first | with_reducible assumption | omega | (simp only [wr, wl] at *; omega)) (show (0 : Int) % 2 = 0 from by first | omega | (simp only [wr, wl] at *; omega)) (show (0 : Int) ≤ v2 from by first | with_reducible assumption | omega | (simp only [wr, wl] at *; omega)) (fun j hj => absurd hj (by omega)) (fun j h1 h2 => cc105 j) (Nat.lt_succ_self _)
      ·
        refine ⟨⟨_, rfl, (by decide)⟩, ?_⟩
        refine s_X12_finding hF (v := (-1000001)) (by decide) ?_
        exact ⟨rfl, hQ _ _ (Rg.u hJ (Pr_f rfl)) (fun ka ja hk => ((uI_o (show ¬ (ka = 238 ∧ ja = 1) from by first | (intro e; obtain ⟨rfl, rfl⟩ := e; exact hk (by decide)) | omega))).trans ((hV ka ja (by omega)))) (⟨fun _ => ⟨rfl, fun j => (uI_o (show ¬ (236 = 238 ∧ j = 1) from fun e => absurd e.1 (Nat.ne_of_beq_eq_false rfl))).trans (cc105 j)⟩, fun z => absurd z (cc104.2 (by omega))⟩)⟩
    ·
      refine ⟨fun (c3 : ((g : Int) = 0)) => ?_, fun (c3 : (¬ ((g : Int) = 0))) => ?_⟩
      ·
        refine ⟨fun c => absurd (show ((g : Int) = 0) from by first | omega | (simp only [wr, wl] at *; omega)) c, fun _ => ?_⟩
        refine ⟨⟨_, rfl, (by decide)⟩, ?_⟩
        refine s_X12_finding hF (v := (-1000001)) (by decide) ?_
        exact ⟨rfl, hQ _ _ (Rg.u hJ (Pr_f rfl)) (fun ka ja hk => ((uI_o (show ¬ (ka = 238 ∧ ja = 1) from by first | (intro e; obtain ⟨rfl, rfl⟩ := e; exact hk (by decide)) | omega))).trans ((hV ka ja (by omega)))) (⟨fun _ => ⟨rfl, fun j => (uI_o (show ¬ (236 = 238 ∧ j = 1) from fun e => absurd e.1 (Nat.ne_of_beq_eq_false rfl))).trans (cc105 j)⟩, fun z => absurd z (cc104.2 (by omega))⟩)⟩
      ·
        refine ⟨_, rfl, (by decide), ?_⟩
        refine fun w0 hw0 => ?_; obtain rfl : w0 = some 252 := hw0.symm.trans (FS.g hF rfl)
        have n4 : (wr (24 * v1)) = 24 * v1 := wr_id (show -2147483648 ≤ (24 * v1 : Int) ∧ (24 * v1 : Int) < 2147483648 from by omega)
        have n5 : (wr ((wr (24 * v1)) + k)) = (wr (24 * v1)) + k := wr_id (show -2147483648 ≤ ((wr (24 * v1)) + k : Int) ∧ ((wr (24 * v1)) + k : Int) < 2147483648 from by omega)
        refine ⟨_, rfl, (by decide), (show (0 : Int) ≤ (wr ((wr (24 * v1)) + k)) from by first | with_reducible assumption | omega | (simp only [wr, wl] at *; omega)), (show (wr ((wr (24 * v1)) + k)) < (96 : Int) from by first | with_reducible assumption | omega | (simp only [wr, wl] at *; omega)), ?_⟩
        have u6 : (J 252 (Int.toNat (wr ((wr (24 * v1)) + k)))) = (I 252 (Int.toNat (wr ((wr (24 * v1)) + k)))) := hV _ _ (by first | decide | omega)
        have a7 : -2147483648 ≤ (J 252 (Int.toNat (wr ((wr (24 * v1)) + k)))) ∧ (J 252 (Int.toNat (wr ((wr (24 * v1)) + k)))) < 2147483648 := hA.1 _ _
        refine ⟨fun (c8 : (¬ (k : Int) = 0)) => ?_, fun (c8 : ((k : Int) = 0)) => ?_⟩
        ·
          refine ⟨_, rfl, (by decide), ?_⟩
          refine fun w0 hw0 => ?_; obtain rfl : w0 = some 252 := hw0.symm.trans (FS.g hF rfl)
          have n9 : (wr ((wr ((wr (24 * v1)) + k)) - 2)) = (wr ((wr (24 * v1)) + k)) - 2 := wr_id (show -2147483648 ≤ ((wr ((wr (24 * v1)) + k)) - 2 : Int) ∧ ((wr ((wr (24 * v1)) + k)) - 2 : Int) < 2147483648 from by omega)
          refine ⟨_, rfl, (by decide), (show (0 : Int) ≤ (wr ((wr ((wr (24 * v1)) + k)) - 2)) from by first | with_reducible assumption | omega | (simp only [wr, wl] at *; omega)), (show (wr ((wr ((wr (24 * v1)) + k)) - 2)) < (96 : Int) from by first | with_reducible assumption | omega | (simp only [wr, wl] at *; omega)), ?_⟩
          have u10 : (J 252 (Int.toNat (wr ((wr ((wr (24 * v1)) + k)) - 2)))) = (I 252 (Int.toNat (wr ((wr ((wr (24 * v1)) + k)) - 2)))) := hV _ _ (by first | decide | omega)
          have a11 : -2147483648 ≤ (J 252 (Int.toNat (wr ((wr ((wr (24 * v1)) + k)) - 2)))) ∧ (J 252 (Int.toNat (wr ((wr ((wr (24 * v1)) + k)) - 2)))) < 2147483648 := hA.1 _ _
          refine s_X12_within (fun (w12 : (((J 252 (Int.toNat (wr ((wr ((wr (24 * v1)) + k)) - 2)))) : Int) ≤ (J 252 (Int.toNat (wr ((wr (24 * v1)) + k)))) ∧ ((J 252 (Int.toNat (wr ((wr (24 * v1)) + k)))) : Int) ≤ 999)) => ?_) (fun (w12 : ¬ (((J 252 (Int.toNat (wr ((wr ((wr (24 * v1)) + k)) - 2)))) : Int) ≤ (J 252 (Int.toNat (wr ((wr (24 * v1)) + k)))) ∧ ((J 252 (Int.toNat (wr ((wr (24 * v1)) + k)))) : Int) ≤ 999)) => ?_)
          ·
            refine ⟨fun c => absurd c (show (¬ ((1 : Int) = 0)) from by decide), fun _ => ?_⟩
            refine ⟨_, rfl, (by decide), ?_⟩
            refine fun w0 hw0 => ?_; obtain rfl : w0 = some 252 := hw0.symm.trans (FS.g hF rfl)
            have n13 : (wr ((wr ((wr (24 * v1)) + k)) + 1)) = (wr ((wr (24 * v1)) + k)) + 1 := wr_id (show -2147483648 ≤ ((wr ((wr (24 * v1)) + k)) + 1 : Int) ∧ ((wr ((wr (24 * v1)) + k)) + 1 : Int) < 2147483648 from by omega)
            refine ⟨_, rfl, (by decide), (show (0 : Int) ≤ (wr ((wr ((wr (24 * v1)) + k)) + 1)) from by first | with_reducible assumption | omega | (simp only [wr, wl] at *; omega)), (show (wr ((wr ((wr (24 * v1)) + k)) + 1)) < (96 : Int) from by first | with_reducible assumption | omega | (simp only [wr, wl] at *; omega)), ?_⟩
            have u14 : (J 252 (Int.toNat (wr ((wr ((wr (24 * v1)) + k)) + 1)))) = (I 252 (Int.toNat (wr ((wr ((wr (24 * v1)) + k)) + 1)))) := hV _ _ (by first | decide | omega)
            have a15 : -2147483648 ≤ (J 252 (Int.toNat (wr ((wr ((wr (24 * v1)) + k)) + 1)))) ∧ (J 252 (Int.toNat (wr ((wr ((wr (24 * v1)) + k)) + 1)))) < 2147483648 := hA.1 _ _
            refine s_X12_within (fun (w16 : (((-2) : Int) ≤ (J 252 (Int.toNat (wr ((wr ((wr (24 * v1)) + k)) + 1)))) ∧ ((J 252 (Int.toNat (wr ((wr ((wr (24 * v1)) + k)) + 1)))) : Int) ≤ 99999)) => ?_) (fun (w16 : ¬ (((-2) : Int) ≤ (J 252 (Int.toNat (wr ((wr ((wr (24 * v1)) + k)) + 1)))) ∧ ((J 252 (Int.toNat (wr ((wr ((wr (24 * v1)) + k)) + 1)))) : Int) ≤ 99999)) => ?_)
            ·
              refine ⟨fun c => absurd c (show (¬ ((1 : Int) = 0)) from by decide), fun _ => ?_⟩
              refine GoN_lv (lv' := [some (vr 235), some (vi v0), some (vi v1), some (vi v2), some (vi 1), some (vi (wr (k + 2))), none]) (LvLe.k (LvLe.k (LvLe.k (LvLe.k (LvLe.k (LvLe.k (LvLe.d LvLe.n))))))) ?_
              have n17 : (wr (k + 2)) = k + 2 := wr_id (show -2147483648 ≤ (k + 2 : Int) ∧ (k + 2 : Int) < 2147483648 from by omega)
              exact ih 1 (wr (k + 2)) J hJ (fun ka ja hk => (hV ka ja (by omega))) (show (0 : Int) ≤ (wr (k + 2)) from by first | with_reducible assumption | omega | (simp only [wr, wl] at *; omega)) (show ((wr (k + 2)) : Int) ≤ 24 from by first | with_reducible assumption | omega | (simp only [wr, wl] at *; omega)) (show (wr (k + 2)) % 2 = 0 from by first | omega | (simp only [wr, wl] at *; omega)) (show 0 ≤ (1 : Int) ∧ (1 : Int) ≤ 1 from by first | omega | (simp only [wr, wl] at *; omega)) (⟨fun _ => ⟨(cc104.1 (by omega)).1, fun j hj => if e : 2 * (j : Int) = k then (by
                              have m0 : wr (24 * v1) = 24 * v1 := wr_id (by unfold iR; omega)
                              have m1 : wr (wr (24 * v1) + k) = 24 * v1 + k := by rw [m0]; exact wr_id (by unfold iR; omega)
                              have m2 : wr (wr (wr (24 * v1) + k) + 1) = 24 * v1 + k + 1 := by rw [m1]; exact wr_id (by unfold iR; omega)
                              have m3 : wr (wr (wr (24 * v1) + k) - 2) = 24 * v1 + k - 2 := by rw [m1]; exact wr_id (by unfold iR; omega)
                              have f1 : I 252 (24 * Int.toNat v1 + 2 * j) = I 252 (Int.toNat (wr ((wr (24 * v1)) + k))) := congrArg (I 252) (by omega)
                              have f2 : I 252 (24 * Int.toNat v1 + (2 * j + 1)) = I 252 (Int.toNat (wr ((wr ((wr (24 * v1)) + k)) + 1))) := congrArg (I 252) (by omega)
                              have p : (k = 0 → pvF (fun j => I 252 (24 * Int.toNat v1 + j)) j = 0) ∧ (¬ k = 0 → pvF (fun j => I 252 (24 * Int.toNat v1 + j)) j = I 252 (Int.toNat (wr ((wr ((wr (24 * v1)) + k)) - 2)))) := by
                                unfold pvF
                                refine ⟨fun z => if_pos (by omega), fun z => ?_⟩
                                rw [if_neg (by omega)]
                                exact congrArg (I 252) (by omega)
                              show pvF (fun j => I 252 (24 * Int.toNat v1 + j)) j ≤ I 252 (24 * Int.toNat v1 + 2 * j) ∧ I 252 (24 * Int.toNat v1 + 2 * j) ≤ 999 ∧ -2 ≤ I 252 (24 * Int.toNat v1 + (2 * j + 1)) ∧ I 252 (24 * Int.toNat v1 + (2 * j + 1)) ≤ 99999
                              rw [f1, f2]
                              obtain ⟨p1, p2⟩ := p
                              by_cases z : k = 0
                              · have := p1 z; omega
                              · have := p2 z; omega) else (cc104.1 (by omega)).2 j (by omega)⟩, fun z => absurd z (by decide)⟩) (cc105) (show (24 - (wr (k + 2))).toNat < mz from by omega)
            ·
              refine ⟨fun _ => ?_, fun c => absurd (show ((0 : Int) = 0) from by decide) c⟩
              refine GoN_lv (lv' := [some (vr 235), some (vi v0), some (vi v1), some (vi v2), some (vi 0), some (vi (wr (k + 2))), none]) (LvLe.k (LvLe.k (LvLe.k (LvLe.k (LvLe.k (LvLe.k (LvLe.d LvLe.n))))))) ?_
              have n18 : (wr (k + 2)) = k + 2 := wr_id (show -2147483648 ≤ (k + 2 : Int) ∧ (k + 2 : Int) < 2147483648 from by omega)
              exact ih 0 (wr (k + 2)) J hJ (fun ka ja hk => (hV ka ja (by omega))) (show (0 : Int) ≤ (wr (k + 2)) from by first | with_reducible assumption | omega | (simp only [wr, wl] at *; omega)) (show ((wr (k + 2)) : Int) ≤ 24 from by first | with_reducible assumption | omega | (simp only [wr, wl] at *; omega)) (show (wr (k + 2)) % 2 = 0 from by first | omega | (simp only [wr, wl] at *; omega)) (show 0 ≤ (0 : Int) ∧ (0 : Int) ≤ 1 from by first | omega | (simp only [wr, wl] at *; omega)) (⟨fun z => absurd z (by decide), fun _ z => (by
                              have m0 : wr (24 * v1) = 24 * v1 := wr_id (by unfold iR; omega)
                              have m1 : wr (wr (24 * v1) + k) = 24 * v1 + k := by rw [m0]; exact wr_id (by unfold iR; omega)
                              have m2 : wr (wr (wr (24 * v1) + k) + 1) = 24 * v1 + k + 1 := by rw [m1]; exact wr_id (by unfold iR; omega)
                              have m3 : wr (wr (wr (24 * v1) + k) - 2) = 24 * v1 + k - 2 := by rw [m1]; exact wr_id (by unfold iR; omega)
                              have f1 : I 252 (24 * Int.toNat v1 + 2 * (Int.toNat k / 2)) = I 252 (Int.toNat (wr ((wr (24 * v1)) + k))) := congrArg (I 252) (by omega)
                              have f2 : I 252 (24 * Int.toNat v1 + (2 * (Int.toNat k / 2) + 1)) = I 252 (Int.toNat (wr ((wr ((wr (24 * v1)) + k)) + 1))) := congrArg (I 252) (by omega)
                              have p : (k = 0 → pvF (fun j => I 252 (24 * Int.toNat v1 + j)) (Int.toNat k / 2) = 0) ∧ (¬ k = 0 → pvF (fun j => I 252 (24 * Int.toNat v1 + j)) (Int.toNat k / 2) = I 252 (Int.toNat (wr ((wr ((wr (24 * v1)) + k)) - 2)))) := by
                                unfold pvF
                                refine ⟨fun z => if_pos (by omega), fun z => ?_⟩
                                rw [if_neg (by omega)]
                                exact congrArg (I 252) (by omega)
                              have y : pvF (fun j => I 252 (24 * Int.toNat v1 + j)) (Int.toNat k / 2) ≤ I 252 (24 * Int.toNat v1 + 2 * (Int.toNat k / 2)) ∧ I 252 (24 * Int.toNat v1 + 2 * (Int.toNat k / 2)) ≤ 999 ∧ -2 ≤ I 252 (24 * Int.toNat v1 + (2 * (Int.toNat k / 2) + 1)) ∧ I 252 (24 * Int.toNat v1 + (2 * (Int.toNat k / 2) + 1)) ≤ 99999 := z.2 (Int.toNat k / 2) (by omega)
                              rw [f1, f2] at y
                              obtain ⟨p1, p2⟩ := p
                              by_cases q : k = 0
                              · have := p1 q; omega
                              · have := p2 q; omega)⟩) (cc105) (show (24 - (wr (k + 2))).toNat < mz from by omega)
          ·
            refine ⟨fun _ => ?_, fun c => absurd (show ((0 : Int) = 0) from by decide) c⟩
            refine GoN_lv (lv' := [some (vr 235), some (vi v0), some (vi v1), some (vi v2), some (vi 0), some (vi (wr (k + 2))), none]) (LvLe.k (LvLe.k (LvLe.k (LvLe.k (LvLe.k (LvLe.k (LvLe.d LvLe.n))))))) ?_
            have n19 : (wr (k + 2)) = k + 2 := wr_id (show -2147483648 ≤ (k + 2 : Int) ∧ (k + 2 : Int) < 2147483648 from by omega)
            exact ih 0 (wr (k + 2)) J hJ (fun ka ja hk => (hV ka ja (by omega))) (show (0 : Int) ≤ (wr (k + 2)) from by first | with_reducible assumption | omega | (simp only [wr, wl] at *; omega)) (show ((wr (k + 2)) : Int) ≤ 24 from by first | with_reducible assumption | omega | (simp only [wr, wl] at *; omega)) (show (wr (k + 2)) % 2 = 0 from by first | omega | (simp only [wr, wl] at *; omega)) (show 0 ≤ (0 : Int) ∧ (0 : Int) ≤ 1 from by first | omega | (simp only [wr, wl] at *; omega)) (⟨fun z => absurd z (by decide), fun _ z => (by
                              have m0 : wr (24 * v1) = 24 * v1 := wr_id (by unfold iR; omega)
                              have m1 : wr (wr (24 * v1) + k) = 24 * v1 + k := by rw [m0]; exact wr_id (by unfold iR; omega)
                              have m2 : wr (wr (wr (24 * v1) + k) + 1) = 24 * v1 + k + 1 := by rw [m1]; exact wr_id (by unfold iR; omega)
                              have m3 : wr (wr (wr (24 * v1) + k) - 2) = 24 * v1 + k - 2 := by rw [m1]; exact wr_id (by unfold iR; omega)
                              have f1 : I 252 (24 * Int.toNat v1 + 2 * (Int.toNat k / 2)) = I 252 (Int.toNat (wr ((wr (24 * v1)) + k))) := congrArg (I 252) (by omega)
                              have f2 : I 252 (24 * Int.toNat v1 + (2 * (Int.toNat k / 2) + 1)) = I 252 (Int.toNat (wr ((wr ((wr (24 * v1)) + k)) + 1))) := congrArg (I 252) (by omega)
                              have p : (k = 0 → pvF (fun j => I 252 (24 * Int.toNat v1 + j)) (Int.toNat k / 2) = 0) ∧ (¬ k = 0 → pvF (fun j => I 252 (24 * Int.toNat v1 + j)) (Int.toNat k / 2) = I 252 (Int.toNat (wr ((wr ((wr (24 * v1)) + k)) - 2)))) := by
                                unfold pvF
                                refine ⟨fun z => if_pos (by omega), fun z => ?_⟩
                                rw [if_neg (by omega)]
                                exact congrArg (I 252) (by omega)
                              have y : pvF (fun j => I 252 (24 * Int.toNat v1 + j)) (Int.toNat k / 2) ≤ I 252 (24 * Int.toNat v1 + 2 * (Int.toNat k / 2)) ∧ I 252 (24 * Int.toNat v1 + 2 * (Int.toNat k / 2)) ≤ 999 ∧ -2 ≤ I 252 (24 * Int.toNat v1 + (2 * (Int.toNat k / 2) + 1)) ∧ I 252 (24 * Int.toNat v1 + (2 * (Int.toNat k / 2) + 1)) ≤ 99999 := z.2 (Int.toNat k / 2) (by omega)
                              rw [f1, f2] at y
                              obtain ⟨p1, p2⟩ := p
                              by_cases q : k = 0
                              · have := p1 q; omega
                              · have := p2 q; omega)⟩) (cc105) (show (24 - (wr (k + 2))).toNat < mz from by omega)
        ·
          refine s_X12_within (fun (w20 : ((0 : Int) ≤ (J 252 (Int.toNat (wr ((wr (24 * v1)) + k)))) ∧ ((J 252 (Int.toNat (wr ((wr (24 * v1)) + k)))) : Int) ≤ 999)) => ?_) (fun (w20 : ¬ ((0 : Int) ≤ (J 252 (Int.toNat (wr ((wr (24 * v1)) + k)))) ∧ ((J 252 (Int.toNat (wr ((wr (24 * v1)) + k)))) : Int) ≤ 999)) => ?_)
          ·
            refine ⟨fun c => absurd c (show (¬ ((1 : Int) = 0)) from by decide), fun _ => ?_⟩
            refine ⟨_, rfl, (by decide), ?_⟩
            refine fun w0 hw0 => ?_; obtain rfl : w0 = some 252 := hw0.symm.trans (FS.g hF rfl)
            have n21 : (wr ((wr ((wr (24 * v1)) + k)) + 1)) = (wr ((wr (24 * v1)) + k)) + 1 := wr_id (show -2147483648 ≤ ((wr ((wr (24 * v1)) + k)) + 1 : Int) ∧ ((wr ((wr (24 * v1)) + k)) + 1 : Int) < 2147483648 from by omega)
            refine ⟨_, rfl, (by decide), (show (0 : Int) ≤ (wr ((wr ((wr (24 * v1)) + k)) + 1)) from by first | with_reducible assumption | omega | (simp only [wr, wl] at *; omega)), (show (wr ((wr ((wr (24 * v1)) + k)) + 1)) < (96 : Int) from by first | with_reducible assumption | omega | (simp only [wr, wl] at *; omega)), ?_⟩
            have u22 : (J 252 (Int.toNat (wr ((wr ((wr (24 * v1)) + k)) + 1)))) = (I 252 (Int.toNat (wr ((wr ((wr (24 * v1)) + k)) + 1)))) := hV _ _ (by first | decide | omega)
            have a23 : -2147483648 ≤ (J 252 (Int.toNat (wr ((wr ((wr (24 * v1)) + k)) + 1)))) ∧ (J 252 (Int.toNat (wr ((wr ((wr (24 * v1)) + k)) + 1)))) < 2147483648 := hA.1 _ _
            refine s_X12_within (fun (w24 : (((-2) : Int) ≤ (J 252 (Int.toNat (wr ((wr ((wr (24 * v1)) + k)) + 1)))) ∧ ((J 252 (Int.toNat (wr ((wr ((wr (24 * v1)) + k)) + 1)))) : Int) ≤ 99999)) => ?_) (fun (w24 : ¬ (((-2) : Int) ≤ (J 252 (Int.toNat (wr ((wr ((wr (24 * v1)) + k)) + 1)))) ∧ ((J 252 (Int.toNat (wr ((wr ((wr (24 * v1)) + k)) + 1)))) : Int) ≤ 99999)) => ?_)
            ·
              refine ⟨fun c => absurd c (show (¬ ((1 : Int) = 0)) from by decide), fun _ => ?_⟩
              refine GoN_lv (lv' := [some (vr 235), some (vi v0), some (vi v1), some (vi v2), some (vi 1), some (vi (wr (k + 2))), none]) (LvLe.k (LvLe.k (LvLe.k (LvLe.k (LvLe.k (LvLe.k (LvLe.d LvLe.n))))))) ?_
              have n25 : (wr (k + 2)) = k + 2 := wr_id (show -2147483648 ≤ (k + 2 : Int) ∧ (k + 2 : Int) < 2147483648 from by omega)
              exact ih 1 (wr (k + 2)) J hJ (fun ka ja hk => (hV ka ja (by omega))) (show (0 : Int) ≤ (wr (k + 2)) from by first | with_reducible assumption | omega | (simp only [wr, wl] at *; omega)) (show ((wr (k + 2)) : Int) ≤ 24 from by first | with_reducible assumption | omega | (simp only [wr, wl] at *; omega)) (show (wr (k + 2)) % 2 = 0 from by first | omega | (simp only [wr, wl] at *; omega)) (show 0 ≤ (1 : Int) ∧ (1 : Int) ≤ 1 from by first | omega | (simp only [wr, wl] at *; omega)) (⟨fun _ => ⟨(cc104.1 (by omega)).1, fun j hj => if e : 2 * (j : Int) = k then (by
                              have m0 : wr (24 * v1) = 24 * v1 := wr_id (by unfold iR; omega)
                              have m1 : wr (wr (24 * v1) + k) = 24 * v1 + k := by rw [m0]; exact wr_id (by unfold iR; omega)
                              have m2 : wr (wr (wr (24 * v1) + k) + 1) = 24 * v1 + k + 1 := by rw [m1]; exact wr_id (by unfold iR; omega)
                              have m3 : wr (wr (wr (24 * v1) + k) - 2) = 24 * v1 + k - 2 := by rw [m1]; exact wr_id (by unfold iR; omega)
                              have f1 : I 252 (24 * Int.toNat v1 + 2 * j) = I 252 (Int.toNat (wr ((wr (24 * v1)) + k))) := congrArg (I 252) (by omega)
                              have f2 : I 252 (24 * Int.toNat v1 + (2 * j + 1)) = I 252 (Int.toNat (wr ((wr ((wr (24 * v1)) + k)) + 1))) := congrArg (I 252) (by omega)
                              have p : (k = 0 → pvF (fun j => I 252 (24 * Int.toNat v1 + j)) j = 0) ∧ (¬ k = 0 → pvF (fun j => I 252 (24 * Int.toNat v1 + j)) j = I 252 (Int.toNat (wr ((wr ((wr (24 * v1)) + k)) - 2)))) := by
                                unfold pvF
                                refine ⟨fun z => if_pos (by omega), fun z => ?_⟩
                                rw [if_neg (by omega)]
                                exact congrArg (I 252) (by omega)
                              show pvF (fun j => I 252 (24 * Int.toNat v1 + j)) j ≤ I 252 (24 * Int.toNat v1 + 2 * j) ∧ I 252 (24 * Int.toNat v1 + 2 * j) ≤ 999 ∧ -2 ≤ I 252 (24 * Int.toNat v1 + (2 * j + 1)) ∧ I 252 (24 * Int.toNat v1 + (2 * j + 1)) ≤ 99999
                              rw [f1, f2]
                              obtain ⟨p1, p2⟩ := p
                              by_cases z : k = 0
                              · have := p1 z; omega
                              · have := p2 z; omega) else (cc104.1 (by omega)).2 j (by omega)⟩, fun z => absurd z (by decide)⟩) (cc105) (show (24 - (wr (k + 2))).toNat < mz from by omega)
            ·
              refine ⟨fun _ => ?_, fun c => absurd (show ((0 : Int) = 0) from by decide) c⟩
              refine GoN_lv (lv' := [some (vr 235), some (vi v0), some (vi v1), some (vi v2), some (vi 0), some (vi (wr (k + 2))), none]) (LvLe.k (LvLe.k (LvLe.k (LvLe.k (LvLe.k (LvLe.k (LvLe.d LvLe.n))))))) ?_
              have n26 : (wr (k + 2)) = k + 2 := wr_id (show -2147483648 ≤ (k + 2 : Int) ∧ (k + 2 : Int) < 2147483648 from by omega)
              exact ih 0 (wr (k + 2)) J hJ (fun ka ja hk => (hV ka ja (by omega))) (show (0 : Int) ≤ (wr (k + 2)) from by first | with_reducible assumption | omega | (simp only [wr, wl] at *; omega)) (show ((wr (k + 2)) : Int) ≤ 24 from by first | with_reducible assumption | omega | (simp only [wr, wl] at *; omega)) (show (wr (k + 2)) % 2 = 0 from by first | omega | (simp only [wr, wl] at *; omega)) (show 0 ≤ (0 : Int) ∧ (0 : Int) ≤ 1 from by first | omega | (simp only [wr, wl] at *; omega)) (⟨fun z => absurd z (by decide), fun _ z => (by
                              have m0 : wr (24 * v1) = 24 * v1 := wr_id (by unfold iR; omega)
                              have m1 : wr (wr (24 * v1) + k) = 24 * v1 + k := by rw [m0]; exact wr_id (by unfold iR; omega)
                              have m2 : wr (wr (wr (24 * v1) + k) + 1) = 24 * v1 + k + 1 := by rw [m1]; exact wr_id (by unfold iR; omega)
                              have m3 : wr (wr (wr (24 * v1) + k) - 2) = 24 * v1 + k - 2 := by rw [m1]; exact wr_id (by unfold iR; omega)
                              have f1 : I 252 (24 * Int.toNat v1 + 2 * (Int.toNat k / 2)) = I 252 (Int.toNat (wr ((wr (24 * v1)) + k))) := congrArg (I 252) (by omega)
                              have f2 : I 252 (24 * Int.toNat v1 + (2 * (Int.toNat k / 2) + 1)) = I 252 (Int.toNat (wr ((wr ((wr (24 * v1)) + k)) + 1))) := congrArg (I 252) (by omega)
                              have p : (k = 0 → pvF (fun j => I 252 (24 * Int.toNat v1 + j)) (Int.toNat k / 2) = 0) ∧ (¬ k = 0 → pvF (fun j => I 252 (24 * Int.toNat v1 + j)) (Int.toNat k / 2) = I 252 (Int.toNat (wr ((wr ((wr (24 * v1)) + k)) - 2)))) := by
                                unfold pvF
                                refine ⟨fun z => if_pos (by omega), fun z => ?_⟩
                                rw [if_neg (by omega)]
                                exact congrArg (I 252) (by omega)
                              have y : pvF (fun j => I 252 (24 * Int.toNat v1 + j)) (Int.toNat k / 2) ≤ I 252 (24 * Int.toNat v1 + 2 * (Int.toNat k / 2)) ∧ I 252 (24 * Int.toNat v1 + 2 * (Int.toNat k / 2)) ≤ 999 ∧ -2 ≤ I 252 (24 * Int.toNat v1 + (2 * (Int.toNat k / 2) + 1)) ∧ I 252 (24 * Int.toNat v1 + (2 * (Int.toNat k / 2) + 1)) ≤ 99999 := z.2 (Int.toNat k / 2) (by omega)
                              rw [f1, f2] at y
                              obtain ⟨p1, p2⟩ := p
                              by_cases q : k = 0
                              · have := p1 q; omega
                              · have := p2 q; omega)⟩) (cc105) (show (24 - (wr (k + 2))).toNat < mz from by omega)
          ·
            refine ⟨fun _ => ?_, fun c => absurd (show ((0 : Int) = 0) from by decide) c⟩
            refine GoN_lv (lv' := [some (vr 235), some (vi v0), some (vi v1), some (vi v2), some (vi 0), some (vi (wr (k + 2))), none]) (LvLe.k (LvLe.k (LvLe.k (LvLe.k (LvLe.k (LvLe.k (LvLe.d LvLe.n))))))) ?_
            have n27 : (wr (k + 2)) = k + 2 := wr_id (show -2147483648 ≤ (k + 2 : Int) ∧ (k + 2 : Int) < 2147483648 from by omega)
            exact ih 0 (wr (k + 2)) J hJ (fun ka ja hk => (hV ka ja (by omega))) (show (0 : Int) ≤ (wr (k + 2)) from by first | with_reducible assumption | omega | (simp only [wr, wl] at *; omega)) (show ((wr (k + 2)) : Int) ≤ 24 from by first | with_reducible assumption | omega | (simp only [wr, wl] at *; omega)) (show (wr (k + 2)) % 2 = 0 from by first | omega | (simp only [wr, wl] at *; omega)) (show 0 ≤ (0 : Int) ∧ (0 : Int) ≤ 1 from by first | omega | (simp only [wr, wl] at *; omega)) (⟨fun z => absurd z (by decide), fun _ z => (by
                              have m0 : wr (24 * v1) = 24 * v1 := wr_id (by unfold iR; omega)
                              have m1 : wr (wr (24 * v1) + k) = 24 * v1 + k := by rw [m0]; exact wr_id (by unfold iR; omega)
                              have m2 : wr (wr (wr (24 * v1) + k) + 1) = 24 * v1 + k + 1 := by rw [m1]; exact wr_id (by unfold iR; omega)
                              have m3 : wr (wr (wr (24 * v1) + k) - 2) = 24 * v1 + k - 2 := by rw [m1]; exact wr_id (by unfold iR; omega)
                              have f1 : I 252 (24 * Int.toNat v1 + 2 * (Int.toNat k / 2)) = I 252 (Int.toNat (wr ((wr (24 * v1)) + k))) := congrArg (I 252) (by omega)
                              have f2 : I 252 (24 * Int.toNat v1 + (2 * (Int.toNat k / 2) + 1)) = I 252 (Int.toNat (wr ((wr ((wr (24 * v1)) + k)) + 1))) := congrArg (I 252) (by omega)
                              have p : (k = 0 → pvF (fun j => I 252 (24 * Int.toNat v1 + j)) (Int.toNat k / 2) = 0) ∧ (¬ k = 0 → pvF (fun j => I 252 (24 * Int.toNat v1 + j)) (Int.toNat k / 2) = I 252 (Int.toNat (wr ((wr ((wr (24 * v1)) + k)) - 2)))) := by
                                unfold pvF
                                refine ⟨fun z => if_pos (by omega), fun z => ?_⟩
                                rw [if_neg (by omega)]
                                exact congrArg (I 252) (by omega)
                              have y : pvF (fun j => I 252 (24 * Int.toNat v1 + j)) (Int.toNat k / 2) ≤ I 252 (24 * Int.toNat v1 + 2 * (Int.toNat k / 2)) ∧ I 252 (24 * Int.toNat v1 + 2 * (Int.toNat k / 2)) ≤ 999 ∧ -2 ≤ I 252 (24 * Int.toNat v1 + (2 * (Int.toNat k / 2) + 1)) ∧ I 252 (24 * Int.toNat v1 + (2 * (Int.toNat k / 2) + 1)) ≤ 99999 := z.2 (Int.toNat k / 2) (by omega)
                              rw [f1, f2] at y
                              obtain ⟨p1, p2⟩ := p
                              by_cases q : k = 0
                              · have := p1 q; omega
                              · have := p2 q; omega)⟩) (cc105) (show (24 - (wr (k + 2))).toNat < mz from by omega)
theorem r_trace10 (hF : FS F) (hR : Rg I) {v0 v1 v2 : Int}  (hQ : ∀ (r : Int) (I' : pI), Rg I' → AR I' → iR r → (∀ k j, ¬ (k = 238 ∨ (k = 236 ∧ 304 ≤ j ∧ j < 1228 ∧ ((j - 304) % 66 = 4 ∨ 17 ≤ (j - 304) % 66))) → I' k j = I k j) → ((¬ ((0 ≤ v0 ∧ v0 < I 236 0) ∧ (0 ≤ v1 ∧ v1 ≤ 3) ∧ 0 ≤ v2 ∧ v2 ≤ 24) → r = -1000001 ∧ (∀ j, I' 236 j = I 236 j)) ∧ (((0 ≤ v0 ∧ v0 < I 236 0) ∧ (0 ≤ v1 ∧ v1 ≤ 3) ∧ 0 ≤ v2 ∧ v2 ≤ 24) → (I 250 (Int.toNat v1) = 0 → r = -1000002 ∧ (∀ j, I' 236 j = I 236 j)) ∧ (¬ I 250 (Int.toNat v1) = 0 → (¬ v2 % 2 = 0 → r = -1000003 ∧ (∀ j, I' 236 j = I 236 j)) ∧ (v2 % 2 = 0 → (¬ GT (fun j => I 252 (24 * Int.toNat v1 + j)) (I 251 (Int.toNat v1)) v2 → r = -1000001 ∧ (∀ j, I' 236 j = I 236 j)) ∧ (GT (fun j => I 252 (24 * Int.toNat v1 + j)) (I 251 (Int.toNat v1)) v2 → r = v2 / 2 ∧ I' 236 (304 + 66 * (Int.toNat v0) + 4) = v2 / 2 ∧ (∀ j : Nat, 2 * (j : Int) < v2 → I' 236 (304 + 66 * (Int.toNat v0) + 17 + 2 * j) = I 252 (24 * Int.toNat v1 + 2 * j) ∧ I' 236 (304 + 66 * (Int.toNat v0) + 18 + 2 * j) = I 252 (24 * Int.toNat v1 + (2 * j + 1))) ∧ ∀ j : Nat, ¬ (j = 304 + 66 * (Int.toNat v0) + 4) → ¬ (304 + 66 * (Int.toNat v0) + 17 ≤ j ∧ j < 304 + 66 * (Int.toNat v0) + 66) → I' 236 j = I 236 j))))) → Q (some (vi r)) F I') : CallN G (d + 2) kX12_trace [vr 235, vi v0, vi v1, vi v2] NP F I Q := by
  refine CallN_in (fun hok hA => CallN_out ?_)
  have iv0 : -2147483648 ≤ v0 ∧ v0 < 2147483648 := hok (vi v0) (by simp)
  have iv1 : -2147483648 ≤ v1 ∧ v1 < 2147483648 := hok (vi v1) (by simp)
  have iv2 : -2147483648 ≤ v2 ∧ v2 < 2147483648 := hok (vi v2) (by simp)
  refine Call_wp (lv := [some (vr 235), some (vi v0), some (vi v1), some (vi v2), none, none, none]) (by decide) ckX12_trace [83] rfl rfl ?_
  refine ⟨⟨_, rfl, (by decide)⟩, ?_⟩
  have r1 : 0 ≤ (I 236 0) ∧ (I 236 0) ≤ 14 := Rg.n0 hR
  refine s_X12_is hF (w := 0) (by decide) (show 0 ≤ (I 236 0) ∧ (I 236 0) < 1000000 from by omega) (fun (w2 : (0 ≤ v0 ∧ v0 < (I 236 0))) => ?_) (fun (w2 : ¬ (0 ≤ v0 ∧ v0 < (I 236 0))) => ?_)
  ·
    refine ⟨fun c => absurd c (show (¬ ((1 : Int) = 0)) from by decide), fun _ => ?_⟩
    refine s_X12_isSheet (fun (w3 : ((0 : Int) ≤ v1 ∧ (v1 : Int) ≤ 3)) => ?_) (fun (w3 : ¬ ((0 : Int) ≤ v1 ∧ (v1 : Int) ≤ 3)) => ?_)
    ·
      refine ⟨fun c => absurd c (show (¬ ((1 : Int) = 0)) from by decide), fun _ => ?_⟩
      refine s_X12_within (fun (w4 : ((0 : Int) ≤ v2 ∧ (v2 : Int) ≤ 24)) => ?_) (fun (w4 : ¬ ((0 : Int) ≤ v2 ∧ (v2 : Int) ≤ 24)) => ?_)
      ·
        refine ⟨fun _ => ?_, fun c => absurd c (show (¬ (1 : Int) = 0) from by decide)⟩
        refine ⟨_, rfl, (by decide), ?_⟩
        refine fun w0 hw0 => ?_; obtain rfl : w0 = some 250 := hw0.symm.trans (FS.g hF rfl)
        refine ⟨_, rfl, (by decide), (show (0 : Int) ≤ v1 from by first | with_reducible assumption | omega | (simp only [wr, wl] at *; omega)), (show v1 < (4 : Int) from by first | with_reducible assumption | omega | (simp only [wr, wl] at *; omega)), ?_⟩
        have a5 : -2147483648 ≤ (I 250 (Int.toNat v1)) ∧ (I 250 (Int.toNat v1)) < 2147483648 := hA.1 _ _
        refine ⟨fun (c6 : (¬ ((I 250 (Int.toNat v1)) : Int) = 0)) => ?_, fun (c6 : (((I 250 (Int.toNat v1)) : Int) = 0)) => ?_⟩
        ·
          refine ⟨(by decide), ?_⟩
          have n7 : (Int.tmod v2 2) = (v2 : Int) % 2 := Int.tmod_eq_emod_of_nonneg (by omega)
          refine ⟨fun (c8 : (¬ ((Int.tmod v2 2) : Int) = 1)) => ?_, fun (c8 : (((Int.tmod v2 2) : Int) = 1)) => ?_⟩
          ·
            refine ⟨_, rfl, (by decide), ?_⟩
            refine fun w0 hw0 => ?_; obtain rfl : w0 = some 251 := hw0.symm.trans (FS.g hF rfl)
            refine ⟨_, rfl, (by decide), (show (0 : Int) ≤ v1 from by first | with_reducible assumption | omega | (simp only [wr, wl] at *; omega)), (show v1 < (4 : Int) from by first | with_reducible assumption | omega | (simp only [wr, wl] at *; omega)), ?_⟩
            have r9 : 0 ≤ (I 251 (Int.toNat v1)) ∧ (I 251 (Int.toNat v1)) ≤ 24 := hR.s _ (by omega)
            refine ⟨fun (c11 : (((I 251 (Int.toNat v1)) : Int) < v2)) => ?_, fun (c11 : (¬ (((I 251 (Int.toNat v1)) : Int) < v2))) => ?_⟩
            ·
              refine r_trace10_l1 hF hR (by omega) (by omega) (by omega) (fun r I' g1 g2 g3 hv hA' => hQ _ _ g1 hA' (hv _ rfl) g2 (by
                              refine ⟨fun z => absurd (by omega) z, fun z => ⟨fun b => absurd b (by omega), fun b => ⟨fun e => absurd (by omega) e, fun e => g3⟩⟩⟩)) _ 0 0 I hR (fun _ _ _ => rfl) (show (0 : Int) ≤ (0 : Int) from Int.le_refl _) (show ((0 : Int) : Int) ≤ 24 from by first | with_reducible assumption | omega | (simp only [wr, wl] at *; omega)) (show (0 : Int) % 2 = 0 from by first | omega | (simp only [wr, wl] at *; omega)) (show 0 ≤ (0 : Int) ∧ (0 : Int) ≤ 1 from by first | omega | (simp only [wr, wl] at *; omega)) (⟨fun z => absurd z (by decide), fun _ z => absurd z.1 (by omega)⟩) (fun j => rfl) (Nat.lt_succ_self _)
            ·
              refine r_trace10_l1 hF hR (by omega) (by omega) (by omega) (fun r I' g1 g2 g3 hv hA' => hQ _ _ g1 hA' (hv _ rfl) g2 (by
                              refine ⟨fun z => absurd (by omega) z, fun z => ⟨fun b => absurd b (by omega), fun b => ⟨fun e => absurd (by omega) e, fun e => g3⟩⟩⟩)) _ 1 0 I hR (fun _ _ _ => rfl) (show (0 : Int) ≤ (0 : Int) from Int.le_refl _) (show ((0 : Int) : Int) ≤ 24 from by first | with_reducible assumption | omega | (simp only [wr, wl] at *; omega)) (show (0 : Int) % 2 = 0 from by first | omega | (simp only [wr, wl] at *; omega)) (show 0 ≤ (1 : Int) ∧ (1 : Int) ≤ 1 from by first | omega | (simp only [wr, wl] at *; omega)) (⟨fun _ => ⟨by omega, fun j hj => absurd hj (by omega)⟩, fun z => absurd z (by decide)⟩) (fun j => rfl) (Nat.lt_succ_self _)
          ·
            refine ⟨⟨_, rfl, (by decide)⟩, ?_⟩
            refine s_X12_finding hF (v := (-1000003)) (by decide) ?_
            exact ⟨rfl, fun hv hA' => hQ _ _ (Rg.u hR (Pr_f rfl)) hA' (hv _ rfl) (fun ka ja hk => (uI_o (show ¬ (ka = 238 ∧ ja = 3) from by first | (intro e; obtain ⟨rfl, rfl⟩ := e; exact hk (by decide)) | omega))) (show (¬ ((0 ≤ v0 ∧ v0 < I 236 0) ∧ (0 ≤ v1 ∧ v1 ≤ 3) ∧ 0 ≤ v2 ∧ v2 ≤ 24) → (-1000003) = -1000001 ∧ (∀ j, (uI I 238 3 (wr ((I 238 3) + 1))) 236 j = I 236 j)) ∧ (((0 ≤ v0 ∧ v0 < I 236 0) ∧ (0 ≤ v1 ∧ v1 ≤ 3) ∧ 0 ≤ v2 ∧ v2 ≤ 24) → (I 250 (Int.toNat v1) = 0 → (-1000003) = -1000002 ∧ (∀ j, (uI I 238 3 (wr ((I 238 3) + 1))) 236 j = I 236 j)) ∧ (¬ I 250 (Int.toNat v1) = 0 → (¬ v2 % 2 = 0 → (-1000003) = -1000003 ∧ (∀ j, (uI I 238 3 (wr ((I 238 3) + 1))) 236 j = I 236 j)) ∧ (v2 % 2 = 0 → (¬ GT (fun j => I 252 (24 * Int.toNat v1 + j)) (I 251 (Int.toNat v1)) v2 → (-1000003) = -1000001 ∧ (∀ j, (uI I 238 3 (wr ((I 238 3) + 1))) 236 j = I 236 j)) ∧ (GT (fun j => I 252 (24 * Int.toNat v1 + j)) (I 251 (Int.toNat v1)) v2 → (-1000003) = v2 / 2 ∧ (uI I 238 3 (wr ((I 238 3) + 1))) 236 (304 + 66 * (Int.toNat v0) + 4) = v2 / 2 ∧ (∀ j : Nat, 2 * (j : Int) < v2 → (uI I 238 3 (wr ((I 238 3) + 1))) 236 (304 + 66 * (Int.toNat v0) + 17 + 2 * j) = I 252 (24 * Int.toNat v1 + 2 * j) ∧ (uI I 238 3 (wr ((I 238 3) + 1))) 236 (304 + 66 * (Int.toNat v0) + 18 + 2 * j) = I 252 (24 * Int.toNat v1 + (2 * j + 1))) ∧ ∀ j : Nat, ¬ (j = 304 + 66 * (Int.toNat v0) + 4) → ¬ (304 + 66 * (Int.toNat v0) + 17 ≤ j ∧ j < 304 + 66 * (Int.toNat v0) + 66) → (uI I 238 3 (wr ((I 238 3) + 1))) 236 j = I 236 j)))) from by
                              refine ⟨fun z => ⟨?_, fun j => uI_o (show ¬ (236 = 238 ∧ j = 3) from fun e => absurd e.1 (Nat.ne_of_beq_eq_false rfl))⟩, fun z => ⟨fun b => ⟨?_, fun j => uI_o (show ¬ (236 = 238 ∧ j = 3) from fun e => absurd e.1 (Nat.ne_of_beq_eq_false rfl))⟩, fun b => ⟨fun e => ⟨?_, fun j => uI_o (show ¬ (236 = 238 ∧ j = 3) from fun e => absurd e.1 (Nat.ne_of_beq_eq_false rfl))⟩, fun e => ⟨fun g => ⟨?_, fun j => uI_o (show ¬ (236 = 238 ∧ j = 3) from fun e => absurd e.1 (Nat.ne_of_beq_eq_false rfl))⟩, fun g => ?_⟩⟩⟩⟩
                              all_goals first | omega | (exfalso; omega))⟩
        ·
          refine ⟨⟨_, rfl, (by decide)⟩, ?_⟩
          refine s_X12_finding hF (v := (-1000002)) (by decide) ?_
          exact ⟨rfl, fun hv hA' => hQ _ _ (Rg.u hR (Pr_f rfl)) hA' (hv _ rfl) (fun ka ja hk => (uI_o (show ¬ (ka = 238 ∧ ja = 2) from by first | (intro e; obtain ⟨rfl, rfl⟩ := e; exact hk (by decide)) | omega))) (show (¬ ((0 ≤ v0 ∧ v0 < I 236 0) ∧ (0 ≤ v1 ∧ v1 ≤ 3) ∧ 0 ≤ v2 ∧ v2 ≤ 24) → (-1000002) = -1000001 ∧ (∀ j, (uI I 238 2 (wr ((I 238 2) + 1))) 236 j = I 236 j)) ∧ (((0 ≤ v0 ∧ v0 < I 236 0) ∧ (0 ≤ v1 ∧ v1 ≤ 3) ∧ 0 ≤ v2 ∧ v2 ≤ 24) → (I 250 (Int.toNat v1) = 0 → (-1000002) = -1000002 ∧ (∀ j, (uI I 238 2 (wr ((I 238 2) + 1))) 236 j = I 236 j)) ∧ (¬ I 250 (Int.toNat v1) = 0 → (¬ v2 % 2 = 0 → (-1000002) = -1000003 ∧ (∀ j, (uI I 238 2 (wr ((I 238 2) + 1))) 236 j = I 236 j)) ∧ (v2 % 2 = 0 → (¬ GT (fun j => I 252 (24 * Int.toNat v1 + j)) (I 251 (Int.toNat v1)) v2 → (-1000002) = -1000001 ∧ (∀ j, (uI I 238 2 (wr ((I 238 2) + 1))) 236 j = I 236 j)) ∧ (GT (fun j => I 252 (24 * Int.toNat v1 + j)) (I 251 (Int.toNat v1)) v2 → (-1000002) = v2 / 2 ∧ (uI I 238 2 (wr ((I 238 2) + 1))) 236 (304 + 66 * (Int.toNat v0) + 4) = v2 / 2 ∧ (∀ j : Nat, 2 * (j : Int) < v2 → (uI I 238 2 (wr ((I 238 2) + 1))) 236 (304 + 66 * (Int.toNat v0) + 17 + 2 * j) = I 252 (24 * Int.toNat v1 + 2 * j) ∧ (uI I 238 2 (wr ((I 238 2) + 1))) 236 (304 + 66 * (Int.toNat v0) + 18 + 2 * j) = I 252 (24 * Int.toNat v1 + (2 * j + 1))) ∧ ∀ j : Nat, ¬ (j = 304 + 66 * (Int.toNat v0) + 4) → ¬ (304 + 66 * (Int.toNat v0) + 17 ≤ j ∧ j < 304 + 66 * (Int.toNat v0) + 66) → (uI I 238 2 (wr ((I 238 2) + 1))) 236 j = I 236 j)))) from by
                              refine ⟨fun z => ⟨?_, fun j => uI_o (show ¬ (236 = 238 ∧ j = 2) from fun e => absurd e.1 (Nat.ne_of_beq_eq_false rfl))⟩, fun z => ⟨fun b => ⟨?_, fun j => uI_o (show ¬ (236 = 238 ∧ j = 2) from fun e => absurd e.1 (Nat.ne_of_beq_eq_false rfl))⟩, fun b => ⟨fun e => ⟨?_, fun j => uI_o (show ¬ (236 = 238 ∧ j = 2) from fun e => absurd e.1 (Nat.ne_of_beq_eq_false rfl))⟩, fun e => ⟨fun g => ⟨?_, fun j => uI_o (show ¬ (236 = 238 ∧ j = 2) from fun e => absurd e.1 (Nat.ne_of_beq_eq_false rfl))⟩, fun g => ?_⟩⟩⟩⟩
                              all_goals first | omega | (exfalso; omega))⟩
      ·
        refine ⟨fun c => absurd (show ((0 : Int) = 0) from by decide) c, fun _ => ?_⟩
        refine ⟨⟨_, rfl, (by decide)⟩, ?_⟩
        refine s_X12_finding hF (v := (-1000001)) (by decide) ?_
        exact ⟨rfl, fun hv hA' => hQ _ _ (Rg.u hR (Pr_f rfl)) hA' (hv _ rfl) (fun ka ja hk => (uI_o (show ¬ (ka = 238 ∧ ja = 1) from by first | (intro e; obtain ⟨rfl, rfl⟩ := e; exact hk (by decide)) | omega))) (show (¬ ((0 ≤ v0 ∧ v0 < I 236 0) ∧ (0 ≤ v1 ∧ v1 ≤ 3) ∧ 0 ≤ v2 ∧ v2 ≤ 24) → (-1000001) = -1000001 ∧ (∀ j, (uI I 238 1 (wr ((I 238 1) + 1))) 236 j = I 236 j)) ∧ (((0 ≤ v0 ∧ v0 < I 236 0) ∧ (0 ≤ v1 ∧ v1 ≤ 3) ∧ 0 ≤ v2 ∧ v2 ≤ 24) → (I 250 (Int.toNat v1) = 0 → (-1000001) = -1000002 ∧ (∀ j, (uI I 238 1 (wr ((I 238 1) + 1))) 236 j = I 236 j)) ∧ (¬ I 250 (Int.toNat v1) = 0 → (¬ v2 % 2 = 0 → (-1000001) = -1000003 ∧ (∀ j, (uI I 238 1 (wr ((I 238 1) + 1))) 236 j = I 236 j)) ∧ (v2 % 2 = 0 → (¬ GT (fun j => I 252 (24 * Int.toNat v1 + j)) (I 251 (Int.toNat v1)) v2 → (-1000001) = -1000001 ∧ (∀ j, (uI I 238 1 (wr ((I 238 1) + 1))) 236 j = I 236 j)) ∧ (GT (fun j => I 252 (24 * Int.toNat v1 + j)) (I 251 (Int.toNat v1)) v2 → (-1000001) = v2 / 2 ∧ (uI I 238 1 (wr ((I 238 1) + 1))) 236 (304 + 66 * (Int.toNat v0) + 4) = v2 / 2 ∧ (∀ j : Nat, 2 * (j : Int) < v2 → (uI I 238 1 (wr ((I 238 1) + 1))) 236 (304 + 66 * (Int.toNat v0) + 17 + 2 * j) = I 252 (24 * Int.toNat v1 + 2 * j) ∧ (uI I 238 1 (wr ((I 238 1) + 1))) 236 (304 + 66 * (Int.toNat v0) + 18 + 2 * j) = I 252 (24 * Int.toNat v1 + (2 * j + 1))) ∧ ∀ j : Nat, ¬ (j = 304 + 66 * (Int.toNat v0) + 4) → ¬ (304 + 66 * (Int.toNat v0) + 17 ≤ j ∧ j < 304 + 66 * (Int.toNat v0) + 66) → (uI I 238 1 (wr ((I 238 1) + 1))) 236 j = I 236 j)))) from by
                              refine ⟨fun z => ⟨?_, fun j => uI_o (show ¬ (236 = 238 ∧ j = 1) from fun e => absurd e.1 (Nat.ne_of_beq_eq_false rfl))⟩, fun z => ⟨fun b => ⟨?_, fun j => uI_o (show ¬ (236 = 238 ∧ j = 1) from fun e => absurd e.1 (Nat.ne_of_beq_eq_false rfl))⟩, fun b => ⟨fun e => ⟨?_, fun j => uI_o (show ¬ (236 = 238 ∧ j = 1) from fun e => absurd e.1 (Nat.ne_of_beq_eq_false rfl))⟩, fun e => ⟨fun g => ⟨?_, fun j => uI_o (show ¬ (236 = 238 ∧ j = 1) from fun e => absurd e.1 (Nat.ne_of_beq_eq_false rfl))⟩, fun g => ?_⟩⟩⟩⟩
                              all_goals first | omega | (exfalso; omega))⟩
    ·
      refine ⟨fun _ => ?_, fun c => absurd (show ((0 : Int) = 0) from by decide) c⟩
      refine ⟨⟨_, rfl, (by decide)⟩, ?_⟩
      refine s_X12_finding hF (v := (-1000001)) (by decide) ?_
      exact ⟨rfl, fun hv hA' => hQ _ _ (Rg.u hR (Pr_f rfl)) hA' (hv _ rfl) (fun ka ja hk => (uI_o (show ¬ (ka = 238 ∧ ja = 1) from by first | (intro e; obtain ⟨rfl, rfl⟩ := e; exact hk (by decide)) | omega))) (show (¬ ((0 ≤ v0 ∧ v0 < I 236 0) ∧ (0 ≤ v1 ∧ v1 ≤ 3) ∧ 0 ≤ v2 ∧ v2 ≤ 24) → (-1000001) = -1000001 ∧ (∀ j, (uI I 238 1 (wr ((I 238 1) + 1))) 236 j = I 236 j)) ∧ (((0 ≤ v0 ∧ v0 < I 236 0) ∧ (0 ≤ v1 ∧ v1 ≤ 3) ∧ 0 ≤ v2 ∧ v2 ≤ 24) → (I 250 (Int.toNat v1) = 0 → (-1000001) = -1000002 ∧ (∀ j, (uI I 238 1 (wr ((I 238 1) + 1))) 236 j = I 236 j)) ∧ (¬ I 250 (Int.toNat v1) = 0 → (¬ v2 % 2 = 0 → (-1000001) = -1000003 ∧ (∀ j, (uI I 238 1 (wr ((I 238 1) + 1))) 236 j = I 236 j)) ∧ (v2 % 2 = 0 → (¬ GT (fun j => I 252 (24 * Int.toNat v1 + j)) (I 251 (Int.toNat v1)) v2 → (-1000001) = -1000001 ∧ (∀ j, (uI I 238 1 (wr ((I 238 1) + 1))) 236 j = I 236 j)) ∧ (GT (fun j => I 252 (24 * Int.toNat v1 + j)) (I 251 (Int.toNat v1)) v2 → (-1000001) = v2 / 2 ∧ (uI I 238 1 (wr ((I 238 1) + 1))) 236 (304 + 66 * (Int.toNat v0) + 4) = v2 / 2 ∧ (∀ j : Nat, 2 * (j : Int) < v2 → (uI I 238 1 (wr ((I 238 1) + 1))) 236 (304 + 66 * (Int.toNat v0) + 17 + 2 * j) = I 252 (24 * Int.toNat v1 + 2 * j) ∧ (uI I 238 1 (wr ((I 238 1) + 1))) 236 (304 + 66 * (Int.toNat v0) + 18 + 2 * j) = I 252 (24 * Int.toNat v1 + (2 * j + 1))) ∧ ∀ j : Nat, ¬ (j = 304 + 66 * (Int.toNat v0) + 4) → ¬ (304 + 66 * (Int.toNat v0) + 17 ≤ j ∧ j < 304 + 66 * (Int.toNat v0) + 66) → (uI I 238 1 (wr ((I 238 1) + 1))) 236 j = I 236 j)))) from by
                              refine ⟨fun z => ⟨?_, fun j => uI_o (show ¬ (236 = 238 ∧ j = 1) from fun e => absurd e.1 (Nat.ne_of_beq_eq_false rfl))⟩, fun z => ⟨fun b => ⟨?_, fun j => uI_o (show ¬ (236 = 238 ∧ j = 1) from fun e => absurd e.1 (Nat.ne_of_beq_eq_false rfl))⟩, fun b => ⟨fun e => ⟨?_, fun j => uI_o (show ¬ (236 = 238 ∧ j = 1) from fun e => absurd e.1 (Nat.ne_of_beq_eq_false rfl))⟩, fun e => ⟨fun g => ⟨?_, fun j => uI_o (show ¬ (236 = 238 ∧ j = 1) from fun e => absurd e.1 (Nat.ne_of_beq_eq_false rfl))⟩, fun g => ?_⟩⟩⟩⟩
                              all_goals first | omega | (exfalso; omega))⟩
  ·
    refine ⟨fun _ => ?_, fun c => absurd (show ((0 : Int) = 0) from by decide) c⟩
    refine ⟨⟨_, rfl, (by decide)⟩, ?_⟩
    refine s_X12_finding hF (v := (-1000001)) (by decide) ?_
    exact ⟨rfl, fun hv hA' => hQ _ _ (Rg.u hR (Pr_f rfl)) hA' (hv _ rfl) (fun ka ja hk => (uI_o (show ¬ (ka = 238 ∧ ja = 1) from by first | (intro e; obtain ⟨rfl, rfl⟩ := e; exact hk (by decide)) | omega))) (show (¬ ((0 ≤ v0 ∧ v0 < I 236 0) ∧ (0 ≤ v1 ∧ v1 ≤ 3) ∧ 0 ≤ v2 ∧ v2 ≤ 24) → (-1000001) = -1000001 ∧ (∀ j, (uI I 238 1 (wr ((I 238 1) + 1))) 236 j = I 236 j)) ∧ (((0 ≤ v0 ∧ v0 < I 236 0) ∧ (0 ≤ v1 ∧ v1 ≤ 3) ∧ 0 ≤ v2 ∧ v2 ≤ 24) → (I 250 (Int.toNat v1) = 0 → (-1000001) = -1000002 ∧ (∀ j, (uI I 238 1 (wr ((I 238 1) + 1))) 236 j = I 236 j)) ∧ (¬ I 250 (Int.toNat v1) = 0 → (¬ v2 % 2 = 0 → (-1000001) = -1000003 ∧ (∀ j, (uI I 238 1 (wr ((I 238 1) + 1))) 236 j = I 236 j)) ∧ (v2 % 2 = 0 → (¬ GT (fun j => I 252 (24 * Int.toNat v1 + j)) (I 251 (Int.toNat v1)) v2 → (-1000001) = -1000001 ∧ (∀ j, (uI I 238 1 (wr ((I 238 1) + 1))) 236 j = I 236 j)) ∧ (GT (fun j => I 252 (24 * Int.toNat v1 + j)) (I 251 (Int.toNat v1)) v2 → (-1000001) = v2 / 2 ∧ (uI I 238 1 (wr ((I 238 1) + 1))) 236 (304 + 66 * (Int.toNat v0) + 4) = v2 / 2 ∧ (∀ j : Nat, 2 * (j : Int) < v2 → (uI I 238 1 (wr ((I 238 1) + 1))) 236 (304 + 66 * (Int.toNat v0) + 17 + 2 * j) = I 252 (24 * Int.toNat v1 + 2 * j) ∧ (uI I 238 1 (wr ((I 238 1) + 1))) 236 (304 + 66 * (Int.toNat v0) + 18 + 2 * j) = I 252 (24 * Int.toNat v1 + (2 * j + 1))) ∧ ∀ j : Nat, ¬ (j = 304 + 66 * (Int.toNat v0) + 4) → ¬ (304 + 66 * (Int.toNat v0) + 17 ≤ j ∧ j < 304 + 66 * (Int.toNat v0) + 66) → (uI I 238 1 (wr ((I 238 1) + 1))) 236 j = I 236 j)))) from by
                              refine ⟨fun z => ⟨?_, fun j => uI_o (show ¬ (236 = 238 ∧ j = 1) from fun e => absurd e.1 (Nat.ne_of_beq_eq_false rfl))⟩, fun z => ⟨fun b => ⟨?_, fun j => uI_o (show ¬ (236 = 238 ∧ j = 1) from fun e => absurd e.1 (Nat.ne_of_beq_eq_false rfl))⟩, fun b => ⟨fun e => ⟨?_, fun j => uI_o (show ¬ (236 = 238 ∧ j = 1) from fun e => absurd e.1 (Nat.ne_of_beq_eq_false rfl))⟩, fun e => ⟨fun g => ⟨?_, fun j => uI_o (show ¬ (236 = 238 ∧ j = 1) from fun e => absurd e.1 (Nat.ne_of_beq_eq_false rfl))⟩, fun g => ?_⟩⟩⟩⟩
                              all_goals first | omega | (exfalso; omega))⟩
end TR10
