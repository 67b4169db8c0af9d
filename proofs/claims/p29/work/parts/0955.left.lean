/-! what the constructors leave: the fixed fields, the ranges. Own work (laid by wip/pm/gen33.py). -/
def rowS (k : Nat) : List (Option Nat) := dG (dG srT (k / 16)) (k % 16)
theorem dG_ge {α : Type} : ∀ {l : List (List α)} {i : Nat}, l.length ≤ i → dG l i = [] := by
  intro l
  induction l with
  | nil => intro i _; rfl
  | cons x t ih =>
    intro i h
    match i, h with
    | 0, h => simp at h
    | i + 1, h => exact ih (by simp at h; omega)
theorem dH_lt {α : Type} : ∀ {l : List α} {i : Nat} {v : α}, dH l i = some v → i < l.length := by
  intro l
  induction l with
  | nil => intro i v h; cases h
  | cons x t ih =>
    intro i v h
    match i, h with
    | 0, h => simp
    | i + 1, h => have := ih (i := i) h; simp; omega
theorem srT_len : srT.length = 16 := rfl
theorem rowS_lt {k : Nat} (h : rowS k ≠ []) : k < 256 := by
  by_cases e : k < 256
  · exact e
  · exfalso
    apply h
    unfold rowS
    rw [dG_ge (l := srT) (by rw [srT_len]; omega)]
    rfl
def eqS : Option Nat → Option Nat → Bool
  | some a, some b => Nat.beq a b
  | _, _ => false
def ckS (F : pF) (k : Nat) : Bool := (List.range (rowS k).length).all (fun j => match SR k j with | some v => eqS (F k j) (some v) | none => true)
theorem FS_of {F : pF} (h : (List.range 256).all (ckS F) = true) : FS F := by
  intro k j v hs
  have h1 : ∃ w, dH (rowS k) j = some w := by
    unfold SR at hs
    show ∃ w, dH (dG (dG srT (k / 16)) (k % 16)) j = some w
    cases hq : dH (dG (dG srT (k / 16)) (k % 16)) j with
    | none => rw [hq] at hs; cases hs
    | some w => exact ⟨w, rfl⟩
  obtain ⟨w, hw⟩ := h1
  have hj := dH_lt hw
  have hk : k < 256 := rowS_lt (fun e => by rw [e] at hw; cases hw)
  have a := List.all_eq_true.mp h k (List.mem_range.mpr hk)
  have b := List.all_eq_true.mp a j (List.mem_range.mpr hj)
  rw [hs] at b
  simp only at b
  cases hq : F k j with
  | none => rw [hq] at b; cases b
  | some u =>
    rw [hq] at b
    rw [Nat.eq_of_beq_eq_true (show Nat.beq u v = true from b)]
def F00 : pF := F_X12_init_235 (zF (F_X11_init_0 (zF (fun _ _ => none) 0)) 235)
def I00 : pI := I_X12_init_235 (zI (I_X11_init_0 (zI (fun _ _ => 0) 0)) 235)
set_option maxRecDepth 100000 in
theorem F00_ck : (List.range 256).all (ckS F00) = true := by decide +kernel
theorem F00_S : FS F00 := FS_of F00_ck
def decPm (j : Nat) (v : Int) : Decidable (Pm j v) := inferInstanceAs (Decidable ((j = 0 → v = 99999) ∧ (j = 1 → v = 999) ∧ (j = 2 → v = 99999) ∧ (j = 3 → v = 24) ∧ (j = 4 → v = 5)))
def decPz (z : Int) (j : Nat) (v : Int) : Decidable (Pz z j v) := inferInstanceAs (Decidable (if j < 16 then (if j = 0 then 0 ≤ v ∧ v ≤ 14 else if j = 1 then 0 ≤ v ∧ v ≤ 20 else if j = 2 then 0 ≤ v ∧ v ≤ 64 else if j = 3 then 0 ≤ v ∧ v ≤ 48 else if j = 7 then 0 ≤ v ∧ v ≤ 24 else if j = 8 then 0 ≤ v ∧ v ≤ 5 else True)
  else if j < 40 then (if j % 4 = 0 then 0 ≤ v ∧ (v = 0 ∨ v < ((j - 16) / 4 : Nat)) else if j % 4 = 2 then z ≤ v ∧ v ≤ 99 else True)
  else if j < 184 then (if (j - 40) % 36 < 2 then 0 ≤ v ∧ v ≤ 17 else if j % 2 = 1 then v ≤ 300000 else True)
  else if j < 304 then (if (j - 184) % 6 = 4 then 0 ≤ v ∧ v ≤ 5 else True)
  else if j < 1228 then (if (j - 304) % 66 = 0 then 0 ≤ v ∧ v ≤ 5 else if (j - 304) % 66 = 3 then 0 ≤ v ∧ v ≤ 12 else if (j - 304) % 66 = 4 then 0 ≤ v ∧ v ≤ 24 else True)
  else if j < 1292 then 0 ≤ v ∧ v ≤ 255 else True))
def decPx (j : Nat) (v : Int) : Decidable (Px j v) := inferInstanceAs (Decidable (if j = 6 then 0 ≤ v ∧ v ≤ 64 else if j = 7 then 0 ≤ v ∧ v ≤ 64 else if j = 9 then 0 ≤ v ∧ v ≤ 17 else if j = 11 then 0 ≤ v ∧ v ≤ 13 else if j = 12 then 0 ≤ v ∧ v ≤ 20000000 else if j = 16 then 0 ≤ v ∧ v ≤ 20000000 else if j = 18 then 0 ≤ v ∧ v ≤ 24 else if j = 22 then 0 ≤ v ∧ v ≤ 23 else if j = 23 then 0 ≤ v ∧ v ≤ 23 else if j = 27 then 0 ≤ v ∧ v ≤ 14 else if j = 31 then 0 ≤ v ∧ v ≤ 30 else if j = 32 then 0 ≤ v ∧ v ≤ 13 else True))
def decPr (k j : Nat) (v : Int) : Decidable (Pr k j v) :=
  have i1 : Decidable (Pm j v) := decPm j v
  have i2 : Decidable (Pz 1 j v) := decPz 1 j v
  have i3 : Decidable (Pz 0 j v) := decPz 0 j v
  have i4 : Decidable (Pz 1 (40 + j) v) := decPz 1 (40 + j) v
  have i5 : Decidable (Px j v) := decPx j v
  inferInstanceAs (Decidable (if 235 ≤ k then (if k = 236 then Pz 1 j v else if k = 237 then Pz 0 j v else if k = 251 then 0 ≤ v ∧ v ≤ 24 else if k = 235 then Px j v else if k = 241 then Pz 1 (40 + j) v else if k = 239 then Pm j v else True)
  else ((((lay k).1 = 5 ∧ j = 0) ∨ ((lay k).1 = 8 ∧ j = 7)) → 0 ≤ v ∧ v ≤ 1) ∧ ((lay k).1 = 7 ∧ j = 1 → 0 ≤ v ∧ v ≤ 24)))
def PrB (k j : Nat) (v : Int) : Bool := @decide (Pr k j v) (decPr k j v)
theorem PrB_e {k j : Nat} {v : Int} (h : PrB k j v = true) : Pr k j v := @of_decide_eq_true _ (decPr k j v) h
theorem layH_nil (i : Nat) : layH [] i = (999, 0) := by cases i <;> rfl
theorem lay_ge {k : Nat} (h : 256 ≤ k) : lay k = (999, 0) := by
  unfold lay
  rw [layG_ge layT (k / 16) (by have e : layT.length = 16 := rfl; rw [e]; omega), layH_nil]
def ckR (I : pI) (k : Nat) : Bool := (List.range (lay k).2).all (fun j => PrB k j (I k j))
theorem Rg_of {I : pI} (h : (List.range 256).all (ckR I) = true) (h2 : I 235 2 = 0) : Rg I := by
  refine ⟨fun k j hj => ?_, Or.inl h2⟩
  have hk : k < 256 := by
    by_cases e : k < 256
    · exact e
    · rw [lay_ge (by omega)] at hj; exact absurd hj (Nat.not_lt_zero _)
  have a := List.all_eq_true.mp h k (List.mem_range.mpr hk)
  exact PrB_e (List.all_eq_true.mp a j (List.mem_range.mpr hj))
set_option maxRecDepth 100000 in
theorem I00_ckR : (List.range 256).all (ckR I00) = true := by decide +kernel
theorem I00_R : Rg I00 := Rg_of I00_ckR rfl
