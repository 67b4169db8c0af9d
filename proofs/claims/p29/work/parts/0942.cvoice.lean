/-! voices of the class, from any state. Own work (scripts laid by wip/pm/gen31.py). -/
section CV
variable {G : pG} {d : Nat} {F : pF} {I : pI} {Q : Option pV → pF → pI → Prop}
def SayOK (G : pG) (d : Nat) (e : Int) : Prop := ∀ (F : pF) (I : pI) (Q : Option pV → pF → pI → Prop) (v0 v1 v2 : Int), FS F → Rg I → (∀ (r : Int) (I' : pI), Rg I' → AR I' → iR r → (∀ k j, ¬ (k = 205 ∨ k = 206) → I' k j = I k j) → Q (some (vi r)) F I') → CallN G d kX10_say [vr 205, vi v0, vi v1, vi v2, vi e] NP F I Q
def WorkOK (G : pG) (d : Nat) (e : Int) : Prop := ∀ (F : pF) (I : pI) (Q : Option pV → pF → pI → Prop) (v0 v1 : Int), FS F → Rg I → (∀ (r : Int) (I' : pI), Rg I' → AR I' → iR r → (∀ k j, ¬ (k = 205 ∨ k = 206) → I' k j = I k j) → Q (some (vi r)) F I') → CallN G d kX10_workOut [vr 205, vi v0, vi v1, vi e] NP F I Q
theorem c_work (hF : FS F) (hR : Rg I) {v0 v1 v2 : Int} (hS : SayOK G d v2) (hQ : ∀ (r : Int) (I' : pI), Rg I' → AR I' → iR r → (∀ k j, ¬ (k = 205 ∨ k = 206) → I' k j = I k j) → Q (some (vi r)) F I') : CallN G (d + 1) kX10_workOut [vr 205, vi v0, vi v1, vi v2] NP F I Q := by
  refine CallN_in (fun hok hA => CallN_out ?_)
  have iv0 : -2147483648 ≤ v0 ∧ v0 < 2147483648 := hok (vi v0) (by simp)
  have iv1 : -2147483648 ≤ v1 ∧ v1 < 2147483648 := hok (vi v1) (by simp)
  have iv2 : -2147483648 ≤ v2 ∧ v2 < 2147483648 := hok (vi v2) (by simp)
  refine Call_wp (lv := [some (vr 205), some (vi v0), some (vi v1), some (vi v2)]) (by decide) ckX10_workOut [] rfl rfl ?_
  refine ⟨fun (c1 : ((v0 : Int) = 10)) => ?_, fun (c1 : (¬ ((v0 : Int) = 10))) => ?_⟩
  ·
    refine ⟨_, rfl, (by decide), ?_⟩
    exact ⟨rfl, fun hv hA' => hQ _ _ hR hA' (hv _ rfl) (fun _ _ _ => rfl)⟩
  ·
    refine ⟨fun (c2 : ((v0 : Int) = 11)) => ?_, fun (c2 : (¬ ((v0 : Int) = 11))) => ?_⟩
    ·
      refine ⟨_, rfl, (by decide), ?_⟩
      refine ⟨⟨_, rfl, (by decide)⟩, ?_⟩
      have a3 : -2147483648 ≤ (I 205 4) ∧ (I 205 4) < 2147483648 := hA.1 _ _
      refine hS _ _ _ _ _ _ hF hR (fun vr4 I5 hR6 hA7 hr8 hW9 => ?_)
      have hr8 : -2147483648 ≤ vr4 ∧ vr4 < 2147483648 := hr8
      exact ⟨rfl, fun hv hA' => hQ _ _ hR6 hA' (hv _ rfl) (fun ka ja hk => (hW9 ka ja (by omega)))⟩
    ·
      refine ⟨fun (c10 : ((v0 : Int) = 12)) => ?_, fun (c10 : (¬ ((v0 : Int) = 12))) => ?_⟩
      ·
        refine ⟨_, rfl, (by decide), ?_⟩
        refine ⟨⟨_, rfl, (by decide)⟩, ?_⟩
        have a11 : -2147483648 ≤ (I 205 4) ∧ (I 205 4) < 2147483648 := hA.1 _ _
        refine hS _ _ _ _ _ _ hF hR (fun vr12 I13 hR14 hA15 hr16 hW17 => ?_)
        have hr16 : -2147483648 ≤ vr12 ∧ vr12 < 2147483648 := hr16
        refine ⟨_, rfl, (by decide), ?_⟩
        exact ⟨rfl, fun hv hA' => hQ _ _ hR14 hA' (hv _ rfl) (fun ka ja hk => (hW17 ka ja (by omega)))⟩
      ·
        refine ⟨fun (c18 : ((v0 : Int) = 13)) => ?_, fun (c18 : (¬ ((v0 : Int) = 13))) => ?_⟩
        ·
          refine ⟨⟨_, rfl, (by decide)⟩, ?_⟩
          refine Call_wp (lv := [some (vr 205), some (vi v1), none]) (by decide) ckX10_shareOut [] rfl rfl ?_
          refine ⟨_, rfl, (by decide), ?_⟩
          refine ⟨_, rfl, (by decide), ?_⟩
          have a19 : -2147483648 ≤ (I 205 5) ∧ (I 205 5) < 2147483648 := hA.1 _ _
          have a20 : -2147483648 ≤ (I 205 6) ∧ (I 205 6) < 2147483648 := hA.1 _ _
          have n21 : -2147483648 ≤ (wr ((I 205 5) - (I 205 6))) ∧ (wr ((I 205 5) - (I 205 6))) < 2147483648 := wr_R _
          refine ⟨fun (c22 : (¬ ((wr ((I 205 5) - (I 205 6))) : Int) = 0)) => ?_, fun (c22 : (((wr ((I 205 5) - (I 205 6))) : Int) = 0)) => ?_⟩
          ·
            refine ⟨(show ¬ ((wr ((I 205 5) - (I 205 6))) : Int) = 0 from by first | omega | (simp only [wr, wl] at *; omega)), ?_⟩
            refine ⟨rfl, ?_⟩
            exact ⟨rfl, fun hv hA' => hQ _ _ hR hA' (hv _ rfl) (fun _ _ _ => rfl)⟩
          ·
            refine ⟨_, rfl, (by decide), (by decide), ?_⟩
            refine ⟨rfl, ?_⟩
            exact ⟨rfl, fun hv hA' => hQ _ _ (Rg.u hR (Pr_f rfl)) hA' (hv _ rfl) (fun ka ja hk => (uI_o (show ¬ (ka = 205 ∧ ja = 7) from by first | (intro e; obtain ⟨rfl, rfl⟩ := e; exact hk (by decide)) | omega)))⟩
        ·
          refine ⟨fun (c23 : ((v0 : Int) = 14)) => ?_, fun (c23 : (¬ ((v0 : Int) = 14))) => ?_⟩
          ·
            exact ⟨rfl, fun hv hA' => hQ _ _ hR hA' (hv _ rfl) (fun _ _ _ => rfl)⟩
          ·
            refine ⟨fun (c24 : ((v0 : Int) = 15)) => ?_, fun (c24 : (¬ ((v0 : Int) = 15))) => ?_⟩
            ·
              exact ⟨rfl, fun hv hA' => hQ _ _ hR hA' (hv _ rfl) (fun _ _ _ => rfl)⟩
            ·
              refine ⟨fun (c25 : ((v0 : Int) = 16)) => ?_, fun (c25 : (¬ ((v0 : Int) = 16))) => ?_⟩
              ·
                exact ⟨rfl, fun hv hA' => hQ _ _ hR hA' (hv _ rfl) (fun _ _ _ => rfl)⟩
              ·
                refine ⟨fun (c26 : ((v0 : Int) = 17)) => ?_, fun (c26 : (¬ ((v0 : Int) = 17))) => ?_⟩
                ·
                  exact ⟨rfl, fun hv hA' => hQ _ _ hR hA' (hv _ rfl) (fun _ _ _ => rfl)⟩
                ·
                  refine ⟨fun (c27 : ((v0 : Int) = 18)) => ?_, fun (c27 : (¬ ((v0 : Int) = 18))) => ?_⟩
                  ·
                    exact ⟨rfl, fun hv hA' => hQ _ _ hR hA' (hv _ rfl) (fun _ _ _ => rfl)⟩
                  ·
                    refine ⟨fun (c28 : ((v0 : Int) = 19)) => ?_, fun (c28 : (¬ ((v0 : Int) = 19))) => ?_⟩
                    ·
                      exact ⟨rfl, fun hv hA' => hQ _ _ hR hA' (hv _ rfl) (fun _ _ _ => rfl)⟩
                    ·
                      refine ⟨fun (c29 : ((v0 : Int) = 20)) => ?_, fun (c29 : (¬ ((v0 : Int) = 20))) => ?_⟩
                      ·
                        refine ⟨⟨_, rfl, (by decide)⟩, ?_⟩
                        refine hS _ _ _ _ _ _ hF hR (fun vr30 I31 hR32 hA33 hr34 hW35 => ?_)
                        have hr34 : -2147483648 ≤ vr30 ∧ vr30 < 2147483648 := hr34
                        exact ⟨rfl, fun hv hA' => hQ _ _ hR32 hA' (hv _ rfl) (fun ka ja hk => (hW35 ka ja (by omega)))⟩
                      ·
                        refine ⟨fun (c36 : ((v0 : Int) = 21)) => ?_, fun (c36 : (¬ ((v0 : Int) = 21))) => ?_⟩
                        ·
                          refine ⟨⟨_, rfl, (by decide)⟩, ?_⟩
                          refine hS _ _ _ _ _ _ hF hR (fun vr37 I38 hR39 hA40 hr41 hW42 => ?_)
                          have hr41 : -2147483648 ≤ vr37 ∧ vr37 < 2147483648 := hr41
                          refine ⟨_, rfl, (by decide), ?_⟩
                          exact ⟨rfl, fun hv hA' => hQ _ _ hR39 hA' (hv _ rfl) (fun ka ja hk => (hW42 ka ja (by omega)))⟩
                        ·
                          refine ⟨fun (c43 : ((v0 : Int) = 22)) => ?_, fun (c43 : (¬ ((v0 : Int) = 22))) => ?_⟩
                          ·
                            exact ⟨rfl, fun hv hA' => hQ _ _ hR hA' (hv _ rfl) (fun _ _ _ => rfl)⟩
                          ·
                            refine ⟨fun (c44 : ((v0 : Int) = 23)) => ?_, fun (c44 : (¬ ((v0 : Int) = 23))) => ?_⟩
                            ·
                              exact ⟨rfl, fun hv hA' => hQ _ _ hR hA' (hv _ rfl) (fun _ _ _ => rfl)⟩
                            ·
                              refine ⟨fun (c45 : ((v0 : Int) = 24)) => ?_, fun (c45 : (¬ ((v0 : Int) = 24))) => ?_⟩
                              ·
                                exact ⟨rfl, fun hv hA' => hQ _ _ hR hA' (hv _ rfl) (fun _ _ _ => rfl)⟩
                              ·
                                refine ⟨fun (c46 : ((v0 : Int) = 25)) => ?_, fun (c46 : (¬ ((v0 : Int) = 25))) => ?_⟩
                                ·
                                  exact ⟨rfl, fun hv hA' => hQ _ _ hR hA' (hv _ rfl) (fun _ _ _ => rfl)⟩
                                ·
                                  refine ⟨fun (c47 : ((v0 : Int) = 26)) => ?_, fun (c47 : (¬ ((v0 : Int) = 26))) => ?_⟩
                                  ·
                                    exact ⟨rfl, fun hv hA' => hQ _ _ hR hA' (hv _ rfl) (fun _ _ _ => rfl)⟩
                                  ·
                                    refine ⟨fun (c48 : ((v0 : Int) = 27)) => ?_, fun (c48 : (¬ ((v0 : Int) = 27))) => ?_⟩
                                    ·
                                      exact ⟨rfl, fun hv hA' => hQ _ _ hR hA' (hv _ rfl) (fun _ _ _ => rfl)⟩
                                    ·
                                      refine ⟨fun (c49 : ((v0 : Int) = 28)) => ?_, fun (c49 : (¬ ((v0 : Int) = 28))) => ?_⟩
                                      ·
                                        exact ⟨rfl, fun hv hA' => hQ _ _ hR hA' (hv _ rfl) (fun _ _ _ => rfl)⟩
                                      ·
                                        refine ⟨fun (c50 : ((v0 : Int) = 29)) => ?_, fun (c50 : (¬ ((v0 : Int) = 29))) => ?_⟩
                                        ·
                                          exact ⟨rfl, fun hv hA' => hQ _ _ hR hA' (hv _ rfl) (fun _ _ _ => rfl)⟩
                                        ·
                                          refine ⟨fun (c51 : ((v0 : Int) = 30)) => ?_, fun (c51 : (¬ ((v0 : Int) = 30))) => ?_⟩
                                          ·
                                            refine ⟨⟨_, rfl, (by decide)⟩, ?_⟩
                                            refine hS _ _ _ _ _ _ hF hR (fun vr52 I53 hR54 hA55 hr56 hW57 => ?_)
                                            have hr56 : -2147483648 ≤ vr52 ∧ vr52 < 2147483648 := hr56
                                            refine ⟨(by decide), ?_⟩
                                            exact ⟨rfl, fun hv hA' => hQ _ _ hR54 hA' (hv _ rfl) (fun ka ja hk => (hW57 ka ja (by omega)))⟩
                                          ·
                                            refine ⟨fun (c58 : ((v0 : Int) = 31)) => ?_, fun (c58 : (¬ ((v0 : Int) = 31))) => ?_⟩
                                            ·
                                              refine ⟨⟨_, rfl, (by decide)⟩, ?_⟩
                                              refine hS _ _ _ _ _ _ hF hR (fun vr59 I60 hR61 hA62 hr63 hW64 => ?_)
                                              have hr63 : -2147483648 ≤ vr59 ∧ vr59 < 2147483648 := hr63
                                              refine ⟨_, rfl, (by decide), ?_⟩
                                              refine ⟨⟨_, rfl, (by decide)⟩, ?_⟩
                                              have a65 : -2147483648 ≤ (I60 205 4) ∧ (I60 205 4) < 2147483648 := hA62.1 _ _
                                              refine hS _ _ _ _ _ _ hF hR61 (fun vr66 I67 hR68 hA69 hr70 hW71 => ?_)
                                              have hr70 : -2147483648 ≤ vr66 ∧ vr66 < 2147483648 := hr70
                                              exact ⟨rfl, fun hv hA' => hQ _ _ hR68 hA' (hv _ rfl) (fun ka ja hk => ((hW71 ka ja (by omega))).trans ((hW64 ka ja (by omega))))⟩
                                            ·
                                              refine ⟨fun (c72 : ((v0 : Int) = 32)) => ?_, fun (c72 : (¬ ((v0 : Int) = 32))) => ?_⟩
                                              ·
                                                exact ⟨rfl, fun hv hA' => hQ _ _ hR hA' (hv _ rfl) (fun _ _ _ => rfl)⟩
                                              ·
                                                refine ⟨fun (c73 : ((v0 : Int) = 33)) => ?_, fun (c73 : (¬ ((v0 : Int) = 33))) => ?_⟩
                                                ·
                                                  exact ⟨rfl, fun hv hA' => hQ _ _ hR hA' (hv _ rfl) (fun _ _ _ => rfl)⟩
                                                ·
                                                  refine ⟨fun (c74 : ((v0 : Int) = 34)) => ?_, fun (c74 : (¬ ((v0 : Int) = 34))) => ?_⟩
                                                  ·
                                                    exact ⟨rfl, fun hv hA' => hQ _ _ hR hA' (hv _ rfl) (fun _ _ _ => rfl)⟩
                                                  ·
                                                    refine ⟨fun (c75 : ((v0 : Int) = 35)) => ?_, fun (c75 : (¬ ((v0 : Int) = 35))) => ?_⟩
                                                    ·
                                                      exact ⟨rfl, fun hv hA' => hQ _ _ hR hA' (hv _ rfl) (fun _ _ _ => rfl)⟩
                                                    ·
                                                      refine ⟨fun (c76 : ((v0 : Int) = 36)) => ?_, fun (c76 : (¬ ((v0 : Int) = 36))) => ?_⟩
                                                      ·
                                                        exact ⟨rfl, fun hv hA' => hQ _ _ hR hA' (hv _ rfl) (fun _ _ _ => rfl)⟩
                                                      ·
                                                        refine ⟨fun (c77 : ((v0 : Int) = 37)) => ?_, fun (c77 : (¬ ((v0 : Int) = 37))) => ?_⟩
                                                        ·
                                                          exact ⟨rfl, fun hv hA' => hQ _ _ hR hA' (hv _ rfl) (fun _ _ _ => rfl)⟩
                                                        ·
                                                          refine ⟨fun (c78 : ((v0 : Int) = 38)) => ?_, fun (c78 : (¬ ((v0 : Int) = 38))) => ?_⟩
                                                          ·
                                                            exact ⟨rfl, fun hv hA' => hQ _ _ hR hA' (hv _ rfl) (fun _ _ _ => rfl)⟩
                                                          ·
                                                            refine ⟨fun (c79 : ((v0 : Int) = 39)) => ?_, fun (c79 : (¬ ((v0 : Int) = 39))) => ?_⟩
                                                            ·
                                                              exact ⟨rfl, fun hv hA' => hQ _ _ hR hA' (hv _ rfl) (fun _ _ _ => rfl)⟩
                                                            ·
                                                              refine ⟨fun (c80 : ((v0 : Int) = 40)) => ?_, fun (c80 : (¬ ((v0 : Int) = 40))) => ?_⟩
                                                              ·
                                                                refine ⟨⟨_, rfl, (by decide)⟩, ?_⟩
                                                                refine hS _ _ _ _ _ _ hF hR (fun vr81 I82 hR83 hA84 hr85 hW86 => ?_)
                                                                have hr85 : -2147483648 ≤ vr81 ∧ vr81 < 2147483648 := hr85
                                                                exact ⟨rfl, fun hv hA' => hQ _ _ hR83 hA' (hv _ rfl) (fun ka ja hk => (hW86 ka ja (by omega)))⟩
                                                              ·
                                                                refine ⟨fun (c87 : ((v0 : Int) = 41)) => ?_, fun (c87 : (¬ ((v0 : Int) = 41))) => ?_⟩
                                                                ·
                                                                  refine ⟨⟨_, rfl, (by decide)⟩, ?_⟩
                                                                  refine hS _ _ _ _ _ _ hF hR (fun vr88 I89 hR90 hA91 hr92 hW93 => ?_)
                                                                  have hr92 : -2147483648 ≤ vr88 ∧ vr88 < 2147483648 := hr92
                                                                  refine ⟨_, rfl, (by decide), ?_⟩
                                                                  refine ⟨⟨_, rfl, (by decide)⟩, ?_⟩
                                                                  have a94 : -2147483648 ≤ (I89 205 4) ∧ (I89 205 4) < 2147483648 := hA91.1 _ _
                                                                  refine hS _ _ _ _ _ _ hF hR90 (fun vr95 I96 hR97 hA98 hr99 hW100 => ?_)
                                                                  have hr99 : -2147483648 ≤ vr95 ∧ vr95 < 2147483648 := hr99
                                                                  exact ⟨rfl, fun hv hA' => hQ _ _ hR97 hA' (hv _ rfl) (fun ka ja hk => ((hW100 ka ja (by omega))).trans ((hW93 ka ja (by omega))))⟩
                                                                ·
                                                                  refine ⟨fun (c101 : ((v0 : Int) = 42)) => ?_, fun (c101 : (¬ ((v0 : Int) = 42))) => ?_⟩
                                                                  ·
                                                                    exact ⟨rfl, fun hv hA' => hQ _ _ hR hA' (hv _ rfl) (fun _ _ _ => rfl)⟩
                                                                  ·
                                                                    refine ⟨fun (c102 : ((v0 : Int) = 43)) => ?_, fun (c102 : (¬ ((v0 : Int) = 43))) => ?_⟩
                                                                    ·
                                                                      exact ⟨rfl, fun hv hA' => hQ _ _ hR hA' (hv _ rfl) (fun _ _ _ => rfl)⟩
                                                                    ·
                                                                      refine ⟨fun (c103 : ((v0 : Int) = 44)) => ?_, fun (c103 : (¬ ((v0 : Int) = 44))) => ?_⟩
                                                                      ·
                                                                        exact ⟨rfl, fun hv hA' => hQ _ _ hR hA' (hv _ rfl) (fun _ _ _ => rfl)⟩
                                                                      ·
                                                                        refine ⟨fun (c104 : ((v0 : Int) = 45)) => ?_, fun (c104 : (¬ ((v0 : Int) = 45))) => ?_⟩
                                                                        ·
                                                                          exact ⟨rfl, fun hv hA' => hQ _ _ hR hA' (hv _ rfl) (fun _ _ _ => rfl)⟩
                                                                        ·
                                                                          refine ⟨fun (c105 : ((v0 : Int) = 46)) => ?_, fun (c105 : (¬ ((v0 : Int) = 46))) => ?_⟩
                                                                          ·
                                                                            exact ⟨rfl, fun hv hA' => hQ _ _ hR hA' (hv _ rfl) (fun _ _ _ => rfl)⟩
                                                                          ·
                                                                            refine ⟨fun (c106 : ((v0 : Int) = 47)) => ?_, fun (c106 : (¬ ((v0 : Int) = 47))) => ?_⟩
                                                                            ·
                                                                              exact ⟨rfl, fun hv hA' => hQ _ _ hR hA' (hv _ rfl) (fun _ _ _ => rfl)⟩
                                                                            ·
                                                                              refine ⟨fun (c107 : ((v0 : Int) = 48)) => ?_, fun (c107 : (¬ ((v0 : Int) = 48))) => ?_⟩
                                                                              ·
                                                                                exact ⟨rfl, fun hv hA' => hQ _ _ hR hA' (hv _ rfl) (fun _ _ _ => rfl)⟩
                                                                              ·
                                                                                refine ⟨fun (c108 : ((v0 : Int) = 49)) => ?_, fun (c108 : (¬ ((v0 : Int) = 49))) => ?_⟩
                                                                                ·
                                                                                  exact ⟨rfl, fun hv hA' => hQ _ _ hR hA' (hv _ rfl) (fun _ _ _ => rfl)⟩
                                                                                ·
                                                                                  refine ⟨fun (c109 : ((v0 : Int) = 50)) => ?_, fun (c109 : (¬ ((v0 : Int) = 50))) => ?_⟩
                                                                                  ·
                                                                                    refine ⟨⟨_, rfl, (by decide)⟩, ?_⟩
                                                                                    refine hS _ _ _ _ _ _ hF hR (fun vr110 I111 hR112 hA113 hr114 hW115 => ?_)
                                                                                    have hr114 : -2147483648 ≤ vr110 ∧ vr110 < 2147483648 := hr114
                                                                                    exact ⟨rfl, fun hv hA' => hQ _ _ hR112 hA' (hv _ rfl) (fun ka ja hk => (hW115 ka ja (by omega)))⟩
                                                                                  ·
                                                                                    refine ⟨fun (c116 : ((v0 : Int) = 51)) => ?_, fun (c116 : (¬ ((v0 : Int) = 51))) => ?_⟩
                                                                                    ·
                                                                                      exact ⟨rfl, fun hv hA' => hQ _ _ hR hA' (hv _ rfl) (fun _ _ _ => rfl)⟩
                                                                                    ·
                                                                                      refine ⟨fun (c117 : ((v0 : Int) = 52)) => ?_, fun (c117 : (¬ ((v0 : Int) = 52))) => ?_⟩
                                                                                      ·
                                                                                        exact ⟨rfl, fun hv hA' => hQ _ _ hR hA' (hv _ rfl) (fun _ _ _ => rfl)⟩
                                                                                      ·
                                                                                        refine ⟨fun (c118 : ((v0 : Int) = 53)) => ?_, fun (c118 : (¬ ((v0 : Int) = 53))) => ?_⟩
                                                                                        ·
                                                                                          exact ⟨rfl, fun hv hA' => hQ _ _ hR hA' (hv _ rfl) (fun _ _ _ => rfl)⟩
                                                                                        ·
                                                                                          refine ⟨fun (c119 : ((v0 : Int) = 54)) => ?_, fun (c119 : (¬ ((v0 : Int) = 54))) => ?_⟩
                                                                                          ·
                                                                                            exact ⟨rfl, fun hv hA' => hQ _ _ hR hA' (hv _ rfl) (fun _ _ _ => rfl)⟩
                                                                                          ·
                                                                                            refine ⟨fun (c120 : ((v0 : Int) = 55)) => ?_, fun (c120 : (¬ ((v0 : Int) = 55))) => ?_⟩
                                                                                            ·
                                                                                              exact ⟨rfl, fun hv hA' => hQ _ _ hR hA' (hv _ rfl) (fun _ _ _ => rfl)⟩
                                                                                            ·
                                                                                              refine ⟨fun (c121 : ((v0 : Int) = 56)) => ?_, fun (c121 : (¬ ((v0 : Int) = 56))) => ?_⟩
                                                                                              ·
                                                                                                exact ⟨rfl, fun hv hA' => hQ _ _ hR hA' (hv _ rfl) (fun _ _ _ => rfl)⟩
                                                                                              ·
                                                                                                refine ⟨fun (c122 : ((v0 : Int) = 57)) => ?_, fun (c122 : (¬ ((v0 : Int) = 57))) => ?_⟩
                                                                                                ·
                                                                                                  exact ⟨rfl, fun hv hA' => hQ _ _ hR hA' (hv _ rfl) (fun _ _ _ => rfl)⟩
                                                                                                ·
                                                                                                  refine ⟨fun (c123 : ((v0 : Int) = 58)) => ?_, fun (c123 : (¬ ((v0 : Int) = 58))) => ?_⟩
                                                                                                  ·
                                                                                                    exact ⟨rfl, fun hv hA' => hQ _ _ hR hA' (hv _ rfl) (fun _ _ _ => rfl)⟩
                                                                                                  ·
                                                                                                    refine ⟨fun (c124 : ((v0 : Int) = 59)) => ?_, fun (c124 : (¬ ((v0 : Int) = 59))) => ?_⟩
                                                                                                    ·
                                                                                                      exact ⟨rfl, fun hv hA' => hQ _ _ hR hA' (hv _ rfl) (fun _ _ _ => rfl)⟩
                                                                                                    ·
                                                                                                      refine ⟨fun (c125 : ((v0 : Int) = 60)) => ?_, fun (c125 : (¬ ((v0 : Int) = 60))) => ?_⟩
                                                                                                      ·
                                                                                                        refine ⟨⟨_, rfl, (by decide)⟩, ?_⟩
                                                                                                        have n126 : -2147483648 ≤ (wr (v1 - 1)) ∧ (wr (v1 - 1)) < 2147483648 := wr_R _
                                                                                                        refine hS _ _ _ _ _ _ hF hR (fun vr127 I128 hR129 hA130 hr131 hW132 => ?_)
                                                                                                        have hr131 : -2147483648 ≤ vr127 ∧ vr127 < 2147483648 := hr131
                                                                                                        exact ⟨rfl, fun hv hA' => hQ _ _ hR129 hA' (hv _ rfl) (fun ka ja hk => (hW132 ka ja (by omega)))⟩
                                                                                                      ·
                                                                                                        refine ⟨fun (c133 : ((v0 : Int) = 61)) => ?_, fun (c133 : (¬ ((v0 : Int) = 61))) => ?_⟩
                                                                                                        ·
                                                                                                          refine ⟨_, rfl, (by decide), ?_⟩
                                                                                                          refine ⟨⟨_, rfl, (by decide)⟩, ?_⟩
                                                                                                          have a134 : -2147483648 ≤ (I 205 4) ∧ (I 205 4) < 2147483648 := hA.1 _ _
                                                                                                          refine hS _ _ _ _ _ _ hF hR (fun vr135 I136 hR137 hA138 hr139 hW140 => ?_)
                                                                                                          have hr139 : -2147483648 ≤ vr135 ∧ vr135 < 2147483648 := hr139
                                                                                                          refine ⟨⟨_, rfl, (by decide)⟩, ?_⟩
                                                                                                          refine hS _ _ _ _ _ _ hF hR137 (fun vr141 I142 hR143 hA144 hr145 hW146 => ?_)
                                                                                                          have hr145 : -2147483648 ≤ vr141 ∧ vr141 < 2147483648 := hr145
                                                                                                          exact ⟨rfl, fun hv hA' => hQ _ _ hR143 hA' (hv _ rfl) (fun ka ja hk => ((hW146 ka ja (by omega))).trans ((hW140 ka ja (by omega))))⟩
                                                                                                        ·
                                                                                                          exact ⟨rfl, fun hv hA' => hQ _ _ hR hA' (hv _ rfl) (fun _ _ _ => rfl)⟩
theorem c_say_l (hF : FS F) (hR : Rg I) {v0 v1 v2 v3 : Int} (hW : v3 ≤ 40 → WorkOK G d (wr (v3 + 1))) (hQ : ∀ (r : Int) (I' : pI), Rg I' → (∀ k j, ¬ (k = 205 ∨ k = 206) → I' k j = I k j) → Q (some (vi r)) F I') : ∀ (mz : Nat) (a i : Int) (J : pI), Rg J → (∀ k j, ¬ (k = 205 ∨ k = 206) → J k j = I k j) → ((0 : Int) ≤ i) → ((i : Int) ≤ 6) → (6 - i).toNat < mz → GoN G (d + 1) kX10_say NP NP 6 [some (vr 205), some (vi v0), some (vi v1), some (vi v2), some (vi v3), some (vi a), some (vi i)] [] F J Q := by
  intro mz
  induction mz with
  | zero => intro a i J hJ hV _ _ h; exact absurd h (Nat.not_lt_zero _)
  | succ mz ih =>
    intro a i J hJ hV c100 c101 hm
    refine GoN_in (fun hok hA => ?_)
    have iiv0 : -2147483648 ≤ v0 ∧ v0 < 2147483648 := hok 1 _ rfl
    have iiv1 : -2147483648 ≤ v1 ∧ v1 < 2147483648 := hok 2 _ rfl
    have iiv2 : -2147483648 ≤ v2 ∧ v2 < 2147483648 := hok 3 _ rfl
    have iiv3 : -2147483648 ≤ v3 ∧ v3 < 2147483648 := hok 4 _ rfl
    have iia : -2147483648 ≤ a ∧ a < 2147483648 := hok 5 _ rfl
    have iii : -2147483648 ≤ i ∧ i < 2147483648 := hok 6 _ rfl
    refine Go_wp (by decide) ckX10_say [6] ?_
    refine ⟨fun (c1 : ((6 : Int) ≤ i)) => ?_, fun (c1 : (¬ ((6 : Int) ≤ i))) => ?_⟩
    ·
      refine Call_wp (lv := [some (vi a), some (vi v1), none]) (by decide) ckX10_bodyOf [] rfl rfl ?_
      refine ⟨fun (c2 : ((a : Int) < 0)) => ?_, fun (c2 : (¬ ((a : Int) < 0))) => ?_⟩
      ·
        refine ⟨rfl, ?_⟩
        refine ⟨fun _ => ?_, fun c => absurd (show ((0 : Int) = 0) from by decide) c⟩
        exact ⟨rfl, hQ _ _ hJ (fun ka ja hk => (hV ka ja (by omega)))⟩
      ·
        have n3 : -2147483648 ≤ (wr (a * 4)) ∧ (wr (a * 4)) < 2147483648 := wr_R _
        have n4 : -2147483648 ≤ (wr ((wr (a * 4)) + v1)) ∧ (wr ((wr (a * 4)) + v1)) < 2147483648 := wr_R _
        refine ⟨fun (c5 : (((wr ((wr (a * 4)) + v1)) : Int) < 0)) => ?_, fun (c5 : (¬ (((wr ((wr (a * 4)) + v1)) : Int) < 0))) => ?_⟩
        ·
          refine ⟨rfl, ?_⟩
          refine ⟨fun _ => ?_, fun c => absurd (show ((0 : Int) = 0) from by decide) c⟩
          exact ⟨rfl, hQ _ _ hJ (fun ka ja hk => (hV ka ja (by omega)))⟩
        ·
          refine Or.inr (Or.inl ⟨rfl, ?_⟩)
          refine ⟨fun (c6 : ((24 : Int) ≤ (wr ((wr (a * 4)) + v1)))) => ?_, fun (c6 : (¬ ((24 : Int) ≤ (wr ((wr (a * 4)) + v1))))) => ?_⟩
          ·
            refine ⟨rfl, ?_⟩
            refine ⟨fun _ => ?_, fun c => absurd (show ((0 : Int) = 0) from by decide) c⟩
            exact ⟨rfl, hQ _ _ hJ (fun ka ja hk => (hV ka ja (by omega)))⟩
          ·
            refine Or.inr ⟨rfl, (show (0 : Int) ≤ (wr ((wr (a * 4)) + v1)) from by first | with_reducible assumption | omega | (simp only [wr, wl] at *; omega)), (show (wr ((wr (a * 4)) + v1)) < (24 : Int) from by first | with_reducible assumption | omega | (simp only [wr, wl] at *; omega)), ?_⟩
            refine ⟨rfl, ?_⟩
            refine ⟨fun (c7 : (((bodiesT.getD (Int.toNat (wr ((wr (a * 4)) + v1))) 0) : Int) = 0)) => ?_, fun (c7 : (¬ (((bodiesT.getD (Int.toNat (wr ((wr (a * 4)) + v1))) 0) : Int) = 0))) => ?_⟩
            ·
              exact ⟨rfl, hQ _ _ hJ (fun ka ja hk => (hV ka ja (by omega)))⟩
            ·
              refine ⟨fun (c8 : ((v3 : Int) ≤ 40)) => ?_, fun (c8 : (¬ ((v3 : Int) ≤ 40))) => ?_⟩
              ·
                refine ⟨_, rfl, (by decide), ?_⟩
                have a9 : -2147483648 ≤ (J 205 1) ∧ (J 205 1) < 2147483648 := hA.1 _ _
                refine ⟨fun (c10 : (((J 205 1) : Int) < 0)) => ?_, fun (c10 : (¬ (((J 205 1) : Int) < 0))) => ?_⟩
                ·
                  refine ⟨⟨_, rfl, (by decide)⟩, ?_⟩
                  have n11 : (wr (v3 + 1)) = v3 + 1 := wr_id (show -2147483648 ≤ (v3 + 1 : Int) ∧ (v3 + 1 : Int) < 2147483648 from by omega)
                  refine (hW (by omega)) _ _ _ _ _ hF hJ (fun vr12 I13 hR14 hA15 hr16 hW17 => ?_)
                  have hr16 : -2147483648 ≤ vr12 ∧ vr12 < 2147483648 := hr16
                  exact ⟨rfl, hQ _ _ hR14 (fun ka ja hk => ((hW17 ka ja (by omega))).trans ((hV ka ja (by omega))))⟩
                ·
                  refine ⟨_, rfl, (by decide), ?_⟩
                  refine ⟨fun (c18 : ((30 : Int) ≤ (J 205 1))) => ?_, fun (c18 : (¬ ((30 : Int) ≤ (J 205 1)))) => ?_⟩
                  ·
                    refine ⟨⟨_, rfl, (by decide)⟩, ?_⟩
                    have n19 : (wr (v3 + 1)) = v3 + 1 := wr_id (show -2147483648 ≤ (v3 + 1 : Int) ∧ (v3 + 1 : Int) < 2147483648 from by omega)
                    refine (hW (by omega)) _ _ _ _ _ hF hJ (fun vr20 I21 hR22 hA23 hr24 hW25 => ?_)
                    have hr24 : -2147483648 ≤ vr20 ∧ vr20 < 2147483648 := hr24
                    exact ⟨rfl, hQ _ _ hR22 (fun ka ja hk => ((hW25 ka ja (by omega))).trans ((hV ka ja (by omega))))⟩
                  ·
                    refine ⟨_, rfl, (by decide), ?_⟩
                    refine fun w0 hw0 => ?_; obtain rfl : w0 = some 206 := hw0.symm.trans (FS.g hF rfl)
                    refine ⟨_, rfl, (by decide), ?_⟩
                    refine ⟨_, rfl, (by decide), (show (0 : Int) ≤ (J 205 1) from by first | with_reducible assumption | omega | (simp only [wr, wl] at *; omega)), (show (J 205 1) < (30 : Int) from by first | with_reducible assumption | omega | (simp only [wr, wl] at *; omega)), ?_⟩
                    refine ⟨_, rfl, (by decide), ?_⟩
                    refine ⟨_, rfl, (by decide), ?_⟩
                    refine ⟨⟨_, rfl, (by decide)⟩, ?_⟩
                    have n26 : (wr (v3 + 1)) = v3 + 1 := wr_id (show -2147483648 ≤ (v3 + 1 : Int) ∧ (v3 + 1 : Int) < 2147483648 from by omega)
                    refine (hW (by omega)) _ _ _ _ _ hF (Rg.u (Rg.u hJ (Pr_p (k := 206) rfl _ _)) (Pr_f rfl)) (fun vr27 I28 hR29 hA30 hr31 hW32 => ?_)
                    have hr31 : -2147483648 ≤ vr27 ∧ vr27 < 2147483648 := hr31
                    exact ⟨rfl, hQ _ _ hR29 (fun ka ja hk => ((hW32 ka ja (by omega))).trans (((uI_o (show ¬ (ka = 205 ∧ ja = 1) from by first | (intro e; obtain ⟨rfl, rfl⟩ := e; exact hk (by decide)) | omega))).trans (((uI_o (show ¬ (ka = 206 ∧ ja = (Int.toNat (J 205 1))) from by first | (intro e; obtain ⟨rfl, _⟩ := e; exact hk (by decide)) | omega))).trans ((hV ka ja (by omega))))))⟩
              ·
                exact ⟨rfl, hQ _ _ hJ (fun ka ja hk => (hV ka ja (by omega)))⟩
    ·
      refine Call_wp (lv := [some (vi a), some (vi v1), none]) (by decide) ckX10_bodyOf [] rfl rfl ?_
      refine ⟨fun (c33 : ((a : Int) < 0)) => ?_, fun (c33 : (¬ ((a : Int) < 0))) => ?_⟩
      ·
        refine ⟨rfl, ?_⟩
        refine ⟨fun c => absurd (show ((0 : Int) = 0) from by decide) c, fun _ => ?_⟩
        refine c_above  hF hJ (fun vr34 hr35 => ?_)
        have hr35 : -2147483648 ≤ vr34 ∧ vr34 < 2147483648 := hr35
        have n36 : (wr (i + 1)) = i + 1 := wr_id (show -2147483648 ≤ (i + 1 : Int) ∧ (i + 1 : Int) < 2147483648 from by omega)
        exact ih vr34 (wr (i + 1)) J hJ (fun ka ja hk => (hV ka ja (by omega))) (show (0 : Int) ≤ (wr (i + 1)) from by first | with_reducible assumption | omega | (simp only [wr, wl] at *; omega)) (show ((wr (i + 1)) : Int) ≤ 6 from by first | with_reducible assumption | omega | (simp only [wr, wl] at *; omega)) (show (6 - (wr (i + 1))).toNat < mz from by omega)
      ·
        have n37 : -2147483648 ≤ (wr (a * 4)) ∧ (wr (a * 4)) < 2147483648 := wr_R _
        have n38 : -2147483648 ≤ (wr ((wr (a * 4)) + v1)) ∧ (wr ((wr (a * 4)) + v1)) < 2147483648 := wr_R _
        refine ⟨fun (c39 : (((wr ((wr (a * 4)) + v1)) : Int) < 0)) => ?_, fun (c39 : (¬ (((wr ((wr (a * 4)) + v1)) : Int) < 0))) => ?_⟩
        ·
          refine ⟨rfl, ?_⟩
          refine ⟨fun c => absurd (show ((0 : Int) = 0) from by decide) c, fun _ => ?_⟩
          refine c_above  hF hJ (fun vr40 hr41 => ?_)
          have hr41 : -2147483648 ≤ vr40 ∧ vr40 < 2147483648 := hr41
          have n42 : (wr (i + 1)) = i + 1 := wr_id (show -2147483648 ≤ (i + 1 : Int) ∧ (i + 1 : Int) < 2147483648 from by omega)
          exact ih vr40 (wr (i + 1)) J hJ (fun ka ja hk => (hV ka ja (by omega))) (show (0 : Int) ≤ (wr (i + 1)) from by first | with_reducible assumption | omega | (simp only [wr, wl] at *; omega)) (show ((wr (i + 1)) : Int) ≤ 6 from by first | with_reducible assumption | omega | (simp only [wr, wl] at *; omega)) (show (6 - (wr (i + 1))).toNat < mz from by omega)
        ·
          refine Or.inr (Or.inl ⟨rfl, ?_⟩)
          refine ⟨fun (c43 : ((24 : Int) ≤ (wr ((wr (a * 4)) + v1)))) => ?_, fun (c43 : (¬ ((24 : Int) ≤ (wr ((wr (a * 4)) + v1))))) => ?_⟩
          ·
            refine ⟨rfl, ?_⟩
            refine ⟨fun c => absurd (show ((0 : Int) = 0) from by decide) c, fun _ => ?_⟩
            refine c_above  hF hJ (fun vr44 hr45 => ?_)
            have hr45 : -2147483648 ≤ vr44 ∧ vr44 < 2147483648 := hr45
            have n46 : (wr (i + 1)) = i + 1 := wr_id (show -2147483648 ≤ (i + 1 : Int) ∧ (i + 1 : Int) < 2147483648 from by omega)
            exact ih vr44 (wr (i + 1)) J hJ (fun ka ja hk => (hV ka ja (by omega))) (show (0 : Int) ≤ (wr (i + 1)) from by first | with_reducible assumption | omega | (simp only [wr, wl] at *; omega)) (show ((wr (i + 1)) : Int) ≤ 6 from by first | with_reducible assumption | omega | (simp only [wr, wl] at *; omega)) (show (6 - (wr (i + 1))).toNat < mz from by omega)
          ·
            refine Or.inr ⟨rfl, (show (0 : Int) ≤ (wr ((wr (a * 4)) + v1)) from by first | with_reducible assumption | omega | (simp only [wr, wl] at *; omega)), (show (wr ((wr (a * 4)) + v1)) < (24 : Int) from by first | with_reducible assumption | omega | (simp only [wr, wl] at *; omega)), ?_⟩
            refine ⟨rfl, ?_⟩
            refine ⟨fun (c47 : (¬ ((bodiesT.getD (Int.toNat (wr ((wr (a * 4)) + v1))) 0) : Int) = 0)) => ?_, fun (c47 : (((bodiesT.getD (Int.toNat (wr ((wr (a * 4)) + v1))) 0) : Int) = 0)) => ?_⟩
            ·
              refine Call_wp (lv := [some (vi a), some (vi v1), none]) (by decide) ckX10_bodyOf [] rfl rfl ?_
              refine ⟨fun c => absurd c (show (¬ ((a : Int) < 0)) from by first | omega | (simp only [wr, wl] at *; omega)), fun _ => ?_⟩
              refine ⟨fun c => absurd c (show (¬ (((wr ((wr (a * 4)) + v1)) : Int) < 0)) from by first | omega | (simp only [wr, wl] at *; omega)), fun _ => ?_⟩
              refine Or.inr (Or.inl ⟨rfl, ?_⟩)
              refine ⟨fun c => absurd c (show (¬ ((24 : Int) ≤ (wr ((wr (a * 4)) + v1)))) from by first | omega | (simp only [wr, wl] at *; omega)), fun _ => ?_⟩
              refine Or.inr ⟨rfl, (show (0 : Int) ≤ (wr ((wr (a * 4)) + v1)) from by first | with_reducible assumption | omega | (simp only [wr, wl] at *; omega)), (show (wr ((wr (a * 4)) + v1)) < (24 : Int) from by first | with_reducible assumption | omega | (simp only [wr, wl] at *; omega)), ?_⟩
              refine ⟨rfl, ?_⟩
              refine ⟨fun c => absurd c (show (¬ (((bodiesT.getD (Int.toNat (wr ((wr (a * 4)) + v1))) 0) : Int) = 0)) from by first | omega | (simp only [wr, wl] at *; omega)), fun _ => ?_⟩
              refine ⟨fun (c48 : ((v3 : Int) ≤ 40)) => ?_, fun (c48 : (¬ ((v3 : Int) ≤ 40))) => ?_⟩
              ·
                refine ⟨_, rfl, (by decide), ?_⟩
                have a49 : -2147483648 ≤ (J 205 1) ∧ (J 205 1) < 2147483648 := hA.1 _ _
                refine ⟨fun (c50 : (((J 205 1) : Int) < 0)) => ?_, fun (c50 : (¬ (((J 205 1) : Int) < 0))) => ?_⟩
                ·
                  refine ⟨⟨_, rfl, (by decide)⟩, ?_⟩
                  have n51 : (wr (v3 + 1)) = v3 + 1 := wr_id (show -2147483648 ≤ (v3 + 1 : Int) ∧ (v3 + 1 : Int) < 2147483648 from by omega)
                  refine (hW (by omega)) _ _ _ _ _ hF hJ (fun vr52 I53 hR54 hA55 hr56 hW57 => ?_)
                  have hr56 : -2147483648 ≤ vr52 ∧ vr52 < 2147483648 := hr56
                  exact ⟨rfl, hQ _ _ hR54 (fun ka ja hk => ((hW57 ka ja (by omega))).trans ((hV ka ja (by omega))))⟩
                ·
                  refine ⟨_, rfl, (by decide), ?_⟩
                  refine ⟨fun (c58 : ((30 : Int) ≤ (J 205 1))) => ?_, fun (c58 : (¬ ((30 : Int) ≤ (J 205 1)))) => ?_⟩
                  ·
                    refine ⟨⟨_, rfl, (by decide)⟩, ?_⟩
                    have n59 : (wr (v3 + 1)) = v3 + 1 := wr_id (show -2147483648 ≤ (v3 + 1 : Int) ∧ (v3 + 1 : Int) < 2147483648 from by omega)
                    refine (hW (by omega)) _ _ _ _ _ hF hJ (fun vr60 I61 hR62 hA63 hr64 hW65 => ?_)
                    have hr64 : -2147483648 ≤ vr60 ∧ vr60 < 2147483648 := hr64
                    exact ⟨rfl, hQ _ _ hR62 (fun ka ja hk => ((hW65 ka ja (by omega))).trans ((hV ka ja (by omega))))⟩
                  ·
                    refine ⟨_, rfl, (by decide), ?_⟩
                    refine fun w0 hw0 => ?_; obtain rfl : w0 = some 206 := hw0.symm.trans (FS.g hF rfl)
                    refine ⟨_, rfl, (by decide), ?_⟩
                    refine ⟨_, rfl, (by decide), (show (0 : Int) ≤ (J 205 1) from by first | with_reducible assumption | omega | (simp only [wr, wl] at *; omega)), (show (J 205 1) < (30 : Int) from by first | with_reducible assumption | omega | (simp only [wr, wl] at *; omega)), ?_⟩
                    refine ⟨_, rfl, (by decide), ?_⟩
                    refine ⟨_, rfl, (by decide), ?_⟩
                    refine ⟨⟨_, rfl, (by decide)⟩, ?_⟩
                    have n66 : (wr (v3 + 1)) = v3 + 1 := wr_id (show -2147483648 ≤ (v3 + 1 : Int) ∧ (v3 + 1 : Int) < 2147483648 from by omega)
                    refine (hW (by omega)) _ _ _ _ _ hF (Rg.u (Rg.u hJ (Pr_p (k := 206) rfl _ _)) (Pr_f rfl)) (fun vr67 I68 hR69 hA70 hr71 hW72 => ?_)
                    have hr71 : -2147483648 ≤ vr67 ∧ vr67 < 2147483648 := hr71
                    exact ⟨rfl, hQ _ _ hR69 (fun ka ja hk => ((hW72 ka ja (by omega))).trans (((uI_o (show ¬ (ka = 205 ∧ ja = 1) from by first | (intro e; obtain ⟨rfl, rfl⟩ := e; exact hk (by decide)) | omega))).trans (((uI_o (show ¬ (ka = 206 ∧ ja = (Int.toNat (J 205 1))) from by first | (intro e; obtain ⟨rfl, _⟩ := e; exact hk (by decide)) | omega))).trans ((hV ka ja (by omega))))))⟩
              ·
                exact ⟨rfl, hQ _ _ hJ (fun ka ja hk => (hV ka ja (by omega)))⟩
            ·
              refine c_above  hF hJ (fun vr73 hr74 => ?_)
              have hr74 : -2147483648 ≤ vr73 ∧ vr73 < 2147483648 := hr74
              have n75 : (wr (i + 1)) = i + 1 := wr_id (show -2147483648 ≤ (i + 1 : Int) ∧ (i + 1 : Int) < 2147483648 from by omega)
              exact ih vr73 (wr (i + 1)) J hJ (fun ka ja hk => (hV ka ja (by omega))) (show (0 : Int) ≤ (wr (i + 1)) from by first | with_reducible assumption | omega | (simp only [wr, wl] at *; omega)) (show ((wr (i + 1)) : Int) ≤ 6 from by first | with_reducible assumption | omega | (simp only [wr, wl] at *; omega)) (show (6 - (wr (i + 1))).toNat < mz from by omega)
theorem c_say1 (hF : FS F) (hR : Rg I) {v0 v1 v2 v3 : Int} (hW : v3 ≤ 40 → WorkOK G d (wr (v3 + 1))) (hQ : ∀ (r : Int) (I' : pI), Rg I' → AR I' → iR r → (∀ k j, ¬ (k = 205 ∨ k = 206) → I' k j = I k j) → Q (some (vi r)) F I') : CallN G (d + 1) kX10_say [vr 205, vi v0, vi v1, vi v2, vi v3] NP F I Q := by
  refine CallN_in (fun hok hA => CallN_out ?_)
  have iv0 : -2147483648 ≤ v0 ∧ v0 < 2147483648 := hok (vi v0) (by simp)
  have iv1 : -2147483648 ≤ v1 ∧ v1 < 2147483648 := hok (vi v1) (by simp)
  have iv2 : -2147483648 ≤ v2 ∧ v2 < 2147483648 := hok (vi v2) (by simp)
  have iv3 : -2147483648 ≤ v3 ∧ v3 < 2147483648 := hok (vi v3) (by simp)
  refine Call_wp (lv := [some (vr 205), some (vi v0), some (vi v1), some (vi v2), some (vi v3), none, none]) (by decide) ckX10_say [6] rfl rfl ?_
  refine c_say_l hF hR hW (fun r I' g1 g2 hv hA' => hQ _ _ g1 hA' (hv _ rfl) g2) _ v0 0 I hR (fun _ _ _ => rfl) (show (0 : Int) ≤ (0 : Int) from Int.le_refl _) (show ((0 : Int) : Int) ≤ 6 from by first | with_reducible assumption | omega | (simp only [wr, wl] at *; omega)) (Nat.lt_succ_self _)
theorem c_sayD : ∀ (m D : Nat) (e : Int), 0 ≤ e → e ≤ 41 → 41 - e ≤ m → 8 * m + 8 ≤ D → SayOK G D e := by
  intro m
  induction m with
  | zero =>
    intro D e h0 h1 h2 h3 F I Q v0 v1 v2 hF hR hQ
    obtain ⟨d, rfl⟩ : ∃ d, D = d + 1 := ⟨D - 1, by omega⟩
    exact c_say1 hF hR (fun h => absurd h (by omega)) hQ
  | succ m ih =>
    intro D e h0 h1 h2 h3 F I Q v0 v1 v2 hF hR hQ
    obtain ⟨d, rfl⟩ : ∃ d, D = d + 1 + 1 := ⟨D - 1 - 1, by omega⟩
    refine c_say1 hF hR (fun h => ?_) hQ
    intro F I Q v0 v1 hF hR hQ
    rw [show wr (e + 1) = e + 1 by unfold wr; omega]
    exact c_work hF hR (ih d (e + 1) (by omega) (by omega) (by omega) (by omega)) hQ
theorem c_say (hF : FS F) (hR : Rg I) {v0 v1 v2 : Int} (hQ : ∀ (r : Int) (I' : pI), Rg I' → AR I' → iR r → (∀ k j, ¬ (k = 205 ∨ k = 206) → I' k j = I k j) → Q (some (vi r)) F I') : CallN G (d + 400) kX10_say [vr 205, vi v0, vi v1, vi v2, vi 0] NP F I Q :=
  c_sayD 41 (d + 400) 0 (by omega) (by omega) (by omega) (by omega) F I Q v0 v1 v2 hF hR hQ
theorem c_ask (hF : FS F) (hR : Rg I) {v0 v1 v2 : Int} {q : Nat} (hp : PP F q) (hQ : ∀ (r : Int) (I' : pI), Rg I' → AR I' → iR r → (∀ k j, ¬ (k = 205 ∨ k = 206 ∨ k = 207) → I' k j = I k j) → Q (some (vi r)) F I') : CallN G (d + 401) kX10_ask [vr 205, vr q, vi v0, vi v1, vi v2] NP F I Q := by
  refine CallN_in (fun hok hA => CallN_out ?_)
  have iv0 : -2147483648 ≤ v0 ∧ v0 < 2147483648 := hok (vi v0) (by simp)
  have iv1 : -2147483648 ≤ v1 ∧ v1 < 2147483648 := hok (vi v1) (by simp)
  have iv2 : -2147483648 ≤ v2 ∧ v2 < 2147483648 := hok (vi v2) (by simp)
  refine Call_wp (lv := [some (vr 205), some (vr q), some (vi v0), some (vi v1), some (vi v2), none]) (by decide) ckX10_ask [] rfl rfl ?_
  refine ⟨_, hp.1.1, (by have := hp.2; show _ < 254; omega), ?_⟩
  refine ⟨_, rfl, (by decide), ?_⟩
  refine ⟨_, hp.1.1, (by have := hp.2; show _ < 254; omega), ?_⟩
  have u1 : ((uI I 205 4 (I q 0)) q 2) = (I q 2) := uI_o (fun e => absurd e.1 (lay_ne hp.1.1 (show lay 205 = (10, 8) from rfl) (by decide)))
  have a2 : -2147483648 ≤ (I q 2) ∧ (I q 2) < 2147483648 := hA.1 _ _
  refine ⟨_, rfl, (by decide), ?_⟩
  refine ⟨_, rfl, (by decide), ?_⟩
  refine ⟨_, rfl, (by decide), (by decide), ?_⟩
  refine ⟨_, rfl, (by decide), ?_⟩
  refine ⟨_, rfl, (by decide), ?_⟩
  refine ⟨⟨_, rfl, (by decide)⟩, ?_⟩
  have a3 : -2147483648 ≤ (I q 0) ∧ (I q 0) < 2147483648 := hA.1 _ _
  refine c_say  hF (Rg.u (Rg.u (Rg.u (Rg.u (Rg.u hR (Pr_f rfl)) (Pr_f rfl)) (Pr_f rfl)) (Pr_f rfl)) (Pr_f rfl)) (fun vr4 I5 hR6 hA7 hr9 hW8 => ?_)
  have hr9 : -2147483648 ≤ vr4 ∧ vr4 < 2147483648 := hr9
  refine ⟨_, rfl, (by decide), ?_⟩
  have a10 : -2147483648 ≤ (I5 205 7) ∧ (I5 205 7) < 2147483648 := hA7.1 _ _
  refine ⟨fun (c11 : (¬ ((I5 205 7) : Int) = 0)) => ?_, fun (c11 : (((I5 205 7) : Int) = 0)) => ?_⟩
  ·
    exact ⟨rfl, fun hv hA' => hQ _ _ hR6 hA' (hv _ rfl) (fun ka ja hk => ((hW8 ka ja (by omega))).trans (((uI_o (show ¬ (ka = 205 ∧ ja = 1) from by first | (intro e; obtain ⟨rfl, rfl⟩ := e; exact hk (by decide)) | omega))).trans (((uI_o (show ¬ (ka = 205 ∧ ja = 7) from by first | (intro e; obtain ⟨rfl, rfl⟩ := e; exact hk (by decide)) | omega))).trans (((uI_o (show ¬ (ka = 205 ∧ ja = 6) from by first | (intro e; obtain ⟨rfl, rfl⟩ := e; exact hk (by decide)) | omega))).trans (((uI_o (show ¬ (ka = 205 ∧ ja = 5) from by first | (intro e; obtain ⟨rfl, rfl⟩ := e; exact hk (by decide)) | omega))).trans ((uI_o (show ¬ (ka = 205 ∧ ja = 4) from by first | (intro e; obtain ⟨rfl, rfl⟩ := e; exact hk (by decide)) | omega))))))))⟩
  ·
    refine ⟨_, rfl, (by decide), ?_⟩
    refine fun w0 hw0 => ?_; obtain rfl : w0 = some 206 := hw0.symm.trans (FS.g hF rfl)
    refine ⟨_, rfl, (by decide), ?_⟩
    refine fun w0 hw0 => ?_; obtain rfl : w0 = some 207 := hw0.symm.trans (FS.g hF rfl)
    refine ⟨_, _, _, (by decide), rfl, rfl, (by decide), (by decide), (by decide), (by decide), (by decide), (by decide), (by decide), (by decide), (by omega), ?_⟩
    refine ⟨_, rfl, (by decide), ?_⟩
    refine ⟨_, rfl, (by decide), ?_⟩
    exact ⟨rfl, fun hv hA' => hQ _ _ (Rg.u (Rg.c hR6 (Pr_p (k := 207) rfl)) (Pr_f rfl)) hA' (hv _ rfl) (fun ka ja hk => ((uI_o (show ¬ (ka = 205 ∧ ja = 3) from by first | (intro e; obtain ⟨rfl, rfl⟩ := e; exact hk (by decide)) | omega))).trans (((cI_o (show ¬ ka = 207 from by omega))).trans (((hW8 ka ja (by omega))).trans (((uI_o (show ¬ (ka = 205 ∧ ja = 1) from by first | (intro e; obtain ⟨rfl, rfl⟩ := e; exact hk (by decide)) | omega))).trans (((uI_o (show ¬ (ka = 205 ∧ ja = 7) from by first | (intro e; obtain ⟨rfl, rfl⟩ := e; exact hk (by decide)) | omega))).trans (((uI_o (show ¬ (ka = 205 ∧ ja = 6) from by first | (intro e; obtain ⟨rfl, rfl⟩ := e; exact hk (by decide)) | omega))).trans (((uI_o (show ¬ (ka = 205 ∧ ja = 5) from by first | (intro e; obtain ⟨rfl, rfl⟩ := e; exact hk (by decide)) | omega))).trans ((uI_o (show ¬ (ka = 205 ∧ ja = 4) from by first | (intro e; obtain ⟨rfl, rfl⟩ := e; exact hk (by decide)) | omega))))))))))⟩
end CV
