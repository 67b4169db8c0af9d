/-! what run answers is the same on both sides. Own work. -/
theorem ld_e {I J : pI} {p : Nat} (h : PEQ I (20 + 5 * p) 236 (304 + 66 * p)) (h4 : ∀ j, J 236 j = I 236 j) : ldC I (20 + 5 * p) = ldR J p := by
  obtain ⟨⟨e0, e1, e2, e4⟩, f, g, k⟩ := h
  funext x
  unfold ldC ldR
  rw [h4, h4, h4, show 306 + 66 * p = 304 + 66 * p + 2 from by omega, show 307 + 66 * p = 304 + 66 * p + 3 from by omega, ← e0, ← e2, ← e4]
  refine fAns_c (by omega) (fun j hj => ?_)
  rw [h4, show 309 + 66 * p + j = 304 + 66 * p + 5 + j from by omega]
  exact f j hj
theorem pm_e {I J : pI} {p : Nat} (h : PEQ I (20 + 5 * p) 236 (304 + 66 * p)) (hl : ∀ j, j < 5 → I 4 j = I 236 (4 + j)) (h4 : ∀ j, J 236 j = I 236 j) : pmC I (20 + 5 * p) = pmR J p := by
  obtain ⟨⟨e0, e1, e2, e4⟩, f, g, k⟩ := h
  funext x
  match x with
  | 0 => show I 4 0 = J 236 4; rw [h4]; exact hl 0 (by decide)
  | 1 => show I 4 1 = J 236 5; rw [h4]; exact hl 1 (by decide)
  | 2 => show I 4 2 = J 236 6; rw [h4]; exact hl 2 (by decide)
  | 3 => show I 4 3 = J 236 7; rw [h4]; exact hl 3 (by decide)
  | 4 => show I 4 4 = J 236 8; rw [h4]; exact hl 4 (by decide)
  | 5 => show (if I (20 + 5 * p) 0 = 3 then (1 : Int) else 0) = if J 236 (304 + 66 * p) = 3 then 1 else 0; rw [h4, e0]
  | n + 6 => show 10 * (I (20 + 5 * p) 4 - 1) = 10 * (J 236 (307 + 66 * p) - 1); rw [h4, show 307 + 66 * p = 304 + 66 * p + 3 from by omega, e4]
theorem LGc_c {I : pI} (h : LGc I) : ∀ v : Nat, v < 4 → PC8 (1 + 89 + 3 * v) I := fun v hv => by
  obtain ⟨⟨e3, e4⟩, _, er, ek⟩ := h v hv
  rw [show 1 + 89 + 3 * v = 90 + 3 * v from by omega]
  refine ⟨by omega, fun k hk => ?_⟩
  have z := ek k (by omega)
  rw [z.1.1, z.1.2]
  exact ⟨z.2.1, z.2.2⟩
theorem LGc_m {I J : pI} (h : LGc I) (h4 : ∀ j, J 236 j = I 236 j) : ∀ v : Nat, v < 4 → PR8 v J := fun v hv => by
  obtain ⟨_, _, er, ek⟩ := h v hv
  unfold PR8
  rw [h4, h4, show 41 + 36 * v = 40 + 36 * v + 1 from by omega]
  refine ⟨er, fun k hk => ?_⟩
  have z := ek k hk
  rw [h4, h4, show 42 + 36 * v + 2 * k = 40 + 36 * v + 2 + 2 * k from by omega, show 43 + 36 * v + 2 * k = 40 + 36 * v + 3 + 2 * k from by omega]
  exact ⟨z.2.1, z.2.2⟩
/-- the runs of both sides are one -/
theorem rn_e {I J : pI} {v p : Nat} (hv : v < 4) (hp : PEQ I (20 + 5 * p) 236 (304 + 66 * p)) (hl : ∀ j, j < 5 → I 4 j = I 236 (4 + j)) (hg : LGc I) (h4 : ∀ j, J 236 j = I 236 j) :
    rnF (ldC I (1 + 19 + 5 * p)) (pmC I (1 + 19 + 5 * p)) (I ((1 + 89 + 3 * v) + 1)) (I ((1 + 89 + 3 * v) + 2)) (Int.toNat (I (1 + 89 + 3 * v) 3)) (Int.toNat (I (1 + 89 + 3 * v) 4)) = rnF (ldR J p) (pmR J p) (fun k => J 236 (42 + 36 * v + 2 * k)) (fun k => J 236 (43 + 36 * v + 2 * k)) (Int.toNat (J 236 (41 + 36 * v))) (Int.toNat (J 236 (40 + 36 * v))) ∧
    enF (ldC I (1 + 19 + 5 * p)) (pmC I (1 + 19 + 5 * p)) (I ((1 + 89 + 3 * v) + 1)) (I ((1 + 89 + 3 * v) + 2)) (Int.toNat (I (1 + 89 + 3 * v) 3)) = enF (ldR J p) (pmR J p) (fun k => J 236 (42 + 36 * v + 2 * k)) (fun k => J 236 (43 + 36 * v + 2 * k)) (Int.toNat (J 236 (41 + 36 * v))) := by
  obtain ⟨⟨e3, e4⟩, _, er, ek⟩ := hg v hv
  rw [show 1 + 19 + 5 * p = 20 + 5 * p from by omega, show 1 + 89 + 3 * v = 90 + 3 * v from by omega, ld_e hp h4, pm_e hp hl h4, e3, e4, h4 (41 + 36 * v), h4 (40 + 36 * v), show 41 + 36 * v = 40 + 36 * v + 1 from by omega]
  refine rnF_c (by omega) (fun j hj => ?_)
  have z := (ek j (by omega)).1
  show I (90 + 3 * v + 1) j = J 236 (42 + 36 * v + 2 * j) ∧ I (90 + 3 * v + 2) j = J 236 (43 + 36 * v + 2 * j)
  rw [h4, h4, show 42 + 36 * v + 2 * j = 40 + 36 * v + 2 + 2 * j from by omega, show 43 + 36 * v + 2 * j = 40 + 36 * v + 3 + 2 * j from by omega]
  exact z
theorem GCP_x {v : Nat} {I J K : pI} (h : GCP (1 + 89 + 3 * v) (102 + 89 + 3 * v) J I) (f : ∀ k j, 90 + 3 * v ≤ k → k ≤ 92 + 3 * v → K k j = J k j) : GCP (90 + 3 * v) (191 + 3 * v) K I := by
  rw [show 1 + 89 + 3 * v = 90 + 3 * v from by omega, show 102 + 89 + 3 * v = 191 + 3 * v from by omega] at h
  exact GCP_f h (fun k j h1 h2 => f k j h1 (by omega)) (fun _ _ _ _ => rfl)
theorem GCP_y {v : Nat} {I J K : pI} (h : GCP (102 + 89 + 3 * v) (1 + 89 + 3 * v) J I) (f : ∀ k j, 191 + 3 * v ≤ k → k ≤ 193 + 3 * v → K k j = J k j) : GCP (191 + 3 * v) (90 + 3 * v) K I := by
  rw [show 1 + 89 + 3 * v = 90 + 3 * v from by omega, show 102 + 89 + 3 * v = 191 + 3 * v from by omega] at h
  exact GCP_f h (fun k j h1 h2 => f k j h1 (by omega)) (fun _ _ _ _ => rfl)
theorem LGc_0 : LGc I00 := fun v hv => by
  have z : ∀ v : Fin 4, I00 236 (40 + 36 * v.val) = 0 := by decide +kernel
  have z := z ⟨v, hv⟩
  have c : v = 0 ∨ v = 1 ∨ v = 2 ∨ v = 3 := by omega
  have e : (I00 (90 + 3 * v) 3 = I00 236 (40 + 36 * v + 1) ∧ I00 (90 + 3 * v) 4 = I00 236 (40 + 36 * v)) ∧ I00 (90 + 3 * v) 0 = 0 ∧ (0 ≤ I00 236 (40 + 36 * v + 1) ∧ I00 236 (40 + 36 * v + 1) ≤ I00 236 (40 + 36 * v) ∧ I00 236 (40 + 36 * v) ≤ 17) := by
    rcases c with rfl | rfl | rfl | rfl <;> decide +kernel
  refine ⟨e.1, ⟨fun _ => z, fun y => absurd e.2.1 y⟩, e.2.2, fun k hk => ?_⟩
  rw [show I00 236 (40 + 36 * v) = 0 from z] at hk
  exact absurd hk (by omega)
