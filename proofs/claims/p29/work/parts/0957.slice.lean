/-! what both sides keep alike, part by part; images. Own work (scripts laid by wip/pm/gen34.py). -/
section SL
variable {G : pG} {d : Nat} {F : pF} {I : pI} {Q : Option pV → pF → pI → Prop}
/-- n numbers of the class's place k from field o on are those of the reference's row from b on, each s further -/
def LA (k o n b s : Nat) (I : pI) : Prop := ∀ j, j < n → I k (j + o) = I 236 (b + s * j)
def LB (k o n b s : Nat) (I : pI) : Prop := I 0 2 = 0 ∨ ∀ j, j < n → I (k + 101) (j + o) = I 237 (b + s * j)
def LI (I : pI) : Prop := I 0 2 = I 235 2
theorem LA_f {k o n b s : Nat} {I J : pI} (h : LA k o n b s I) (h1 : ∀ j, j < n → J k (j + o) = I k (j + o)) (h2 : ∀ j, j < n → J 236 (b + s * j) = I 236 (b + s * j)) : LA k o n b s J := fun j hj => (h1 j hj).trans ((h j hj).trans (h2 j hj).symm)
theorem LB_f {k o n b s : Nat} {I J : pI} (h : LB k o n b s I) (h0 : J 0 2 = I 0 2) (h1 : ∀ j, j < n → J (k + 101) (j + o) = I (k + 101) (j + o)) (h2 : ∀ j, j < n → J 237 (b + s * j) = I 237 (b + s * j)) : LB k o n b s J :=
  h.elim (fun e => Or.inl (h0.trans e)) (fun h => Or.inr (fun j hj => (h1 j hj).trans ((h j hj).trans (h2 j hj).symm)))
theorem LB_i {k o n b s : Nat} {I J : pI} (h : LA k o n b s I) (h1 : ∀ j, j < n → J (k + 101) (j + o) = I k (j + o)) (h2 : ∀ j, j < n → J 237 (b + s * j) = I 236 (b + s * j)) : LB k o n b s J := Or.inr (fun j hj => (h1 j hj).trans ((h j hj).trans (h2 j hj).symm))
theorem LA_r {k o n b s : Nat} {I J : pI} (h : LB k o n b s I) (hi : ¬ I 0 2 = 0) (h1 : ∀ j, j < n → J k (j + o) = I (k + 101) (j + o)) (h2 : ∀ j, j < n → J 236 (b + s * j) = I 237 (b + s * j)) : LA k o n b s J :=
  fun j hj => (h1 j hj).trans ((h.resolve_left hi j hj).trans (h2 j hj).symm)
theorem LA_of {k o n b s : Nat} {I : pI} (h : (List.range n).all (fun j => I k (j + o) == I 236 (b + s * j)) = true) : LA k o n b s I := fun j hj => by
  have a := List.all_eq_true.mp h j (List.mem_range.mpr hj)
  simpa using a
theorem CP_u {J I : pI} {v : Int} (h : CP 102 1 J I) : CP 102 1 (uI J 0 2 v) I := by
  obtain ⟨h0, h1, h2, h3, h4, h5, h6, h7, h8, h9, h10, h11, h12, h13⟩ := h
  exact ⟨fun j hj => (uI_o (fun e => absurd e.1 (by decide))).trans (h0 j hj), fun j hj => (uI_o (fun e => absurd e.1 (by decide))).trans (h1 j hj), fun j hj => (uI_o (fun e => absurd e.1 (by decide))).trans (h2 j hj), fun j hj => (uI_o (fun e => absurd e.1 (by decide))).trans (h3 j hj), fun j hj => (uI_o (fun e => absurd e.1 (by decide))).trans (h4 j hj), fun j hj => (uI_o (fun e => absurd e.1 (by decide))).trans (h5 j hj), fun j hj => (uI_o (fun e => absurd e.1 (by decide))).trans (h6 j hj), fun j hj => (uI_o (fun e => absurd e.1 (by decide))).trans (h7 j hj), fun j hj => (uI_o (fun e => absurd e.1 (by decide))).trans (h8 j hj), fun j hj => (uI_o (fun e => absurd e.1 (by decide))).trans (h9 j hj), fun j hj => (uI_o (fun e => absurd e.1 (by decide))).trans (h10 j hj), fun j hj => (uI_o (fun e => absurd e.1 (by decide))).trans (h11 j hj), fun j hj => (uI_o (fun e => absurd e.1 (by decide))).trans (h12 j hj), fun j hj => (uI_o (fun e => absurd e.1 (by decide))).trans (h13 j hj)⟩
theorem r_image2 (hF : FS F) (hR : Rg I) (hQ : ∀ (r : Int) (I' : pI), Rg I' → AR I' → iR r → (∀ k j, ¬ (k = 237 ∨ (k = 235 ∧ j = 2)) → I' k j = I k j) → (∀ j, j < 1340 → I' 237 j = I 236 j) → r = wr ((I 235 2) + 1) → I' 235 2 = wr ((I 235 2) + 1) → Q (some (vi r)) F I') : CallN G (d + 1) kX12_image [vr 235] NP F I Q := by
  refine CallN_in (fun hok hA => CallN_out ?_)
  refine Call_wp (lv := [some (vr 235)]) (by decide) ckX12_image [] rfl rfl ?_
  refine ⟨_, rfl, (by decide), ?_⟩
  refine fun w0 hw0 => ?_; obtain rfl : w0 = some 236 := hw0.symm.trans (FS.g hF rfl)
  refine ⟨_, rfl, (by decide), ?_⟩
  refine fun w0 hw0 => ?_; obtain rfl : w0 = some 237 := hw0.symm.trans (FS.g hF rfl)
  refine r_copy237 hF (fun I1 g2 g3 => ?_)
  refine ⟨_, rfl, (by decide), ?_⟩
  have u4 : (I1 235 2) = (I 235 2) := g3 _ _ (by first | omega | decide)
  have a5 : -2147483648 ≤ (I 235 2) ∧ (I 235 2) < 2147483648 := hA.1 _ _
  refine ⟨_, rfl, (by decide), ?_⟩
  refine ⟨_, rfl, (by decide), ?_⟩
  exact ⟨rfl, fun hv hA' => hQ _ _ (Rg_image hR g2 g3) hA' (hv _ rfl) (fun k j hk => ((uI_o (by omega))).trans (g3 k j (by omega))) (fun j hj => (uI_o (fun e => absurd e.1 (by decide))).trans (g2 j hj)) (show (wr ((I1 235 2) + 1)) = wr ((I 235 2) + 1) from by first | omega | (simp only [wr, wl] at *; omega)) (show (wr ((I1 235 2) + 1)) = wr ((I 235 2) + 1) from by first | omega | (simp only [wr, wl] at *; omega))⟩
theorem r_restore2 (hF : FS F) (hR : Rg I) (hQ : ∀ (r : Int) (I' : pI), Rg I' → AR I' → iR r → (∀ k j, ¬ (k = 238 ∨ k = 236) → I' k j = I k j) → (I 235 2 = 0 → ∀ j, I' 236 j = I 236 j) → (¬ I 235 2 = 0 → ∀ j, j < 1340 → I' 236 j = I 237 j) → (I 235 2 = 0 → r = -1000002) → (¬ I 235 2 = 0 → r = I 237 0) → Q (some (vi r)) F I') : CallN G (d + 1) kX12_restore [vr 235] NP F I Q := by
  refine CallN_in (fun hok hA => CallN_out ?_)
  refine Call_wp (lv := [some (vr 235)]) (by decide) ckX12_restore [] rfl rfl ?_
  refine ⟨_, rfl, (by decide), ?_⟩
  have a1 : -2147483648 ≤ (I 235 2) ∧ (I 235 2) < 2147483648 := hA.1 _ _
  refine ⟨fun (c2 : (¬ ((I 235 2) : Int) = 0)) => ?_, fun (c2 : (((I 235 2) : Int) = 0)) => ?_⟩
  ·
    refine ⟨_, rfl, (by decide), ?_⟩
    refine fun w0 hw0 => ?_; obtain rfl : w0 = some 237 := hw0.symm.trans (FS.g hF rfl)
    refine ⟨_, rfl, (by decide), ?_⟩
    refine fun w0 hw0 => ?_; obtain rfl : w0 = some 236 := hw0.symm.trans (FS.g hF rfl)
    refine r_copy236 hF (fun I3 g4 g5 => ?_)
    refine ⟨_, rfl, (by decide), ?_⟩
    refine fun w0 hw0 => ?_; obtain rfl : w0 = some 236 := hw0.symm.trans (FS.g hF rfl)
    refine ⟨_, rfl, (by decide), (by decide), (by decide), ?_⟩
    exact ⟨rfl, fun hv hA' => hQ _ _ (Rg_restore hR (by omega) g4 g5) hA' (hv _ rfl) (fun k j hk => (g5 k j (by omega))) (fun h => absurd h (by omega)) (fun _ j hj => g4 j hj) (fun h => absurd h (by omega)) (fun _ => g4 0 (by decide))⟩
  ·
    refine ⟨⟨_, rfl, (by decide)⟩, ?_⟩
    refine s_X12_finding hF (v := (-1000002)) (by decide) ?_
    exact ⟨rfl, fun hv hA' => hQ _ _ (Rg.u hR (Pr_f rfl)) hA' (hv _ rfl) (fun ka ja hk => (uI_o (show ¬ (ka = 238 ∧ ja = 2) from by first | (intro e; obtain ⟨rfl, rfl⟩ := e; exact hk (by decide)) | omega))) (fun _ j => uI_o (fun e => absurd e.1 (by decide))) (fun h => absurd (by omega) h) (fun _ => rfl) (fun h => absurd (by omega) h)⟩
end SL
