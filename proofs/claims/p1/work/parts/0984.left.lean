/-! what the constructors leave; the law's walk on a script of one call. Own work (laid by wip/pm/gen24.py). -/
def rowS (k : Nat) : List (Option Nat) := dG (dG srT (k / 16)) (k % 16)
def rowI (k : Nat) : List Int := dG (dG irT (k / 16)) (k % 16)
theorem dG_ge {α : Type} : ∀ {l : List (List α)} {i : Nat}, l.length ≤ i → dG l i = [] := by
  intro l
  induction l with
  | nil => intro i _; rfl
  | cons x t ih =>
    intro i h
    match i, h with
    | 0, h => simp at h
    | i + 1, h => exact ih (by simp at h; omega)
theorem dH_lt {α : Type} : ∀ {l : List α} {i : Nat} {v : α}, dH l i = some v → i < l.length := by
  intro l
  induction l with
  | nil => intro i v h; cases h
  | cons x t ih =>
    intro i v h
    match i, h with
    | 0, h => simp
    | i + 1, h => have := ih (i := i) h; simp; omega
theorem srT_len : srT.length = 16 := rfl
theorem irT_len : irT.length = 16 := rfl
theorem rowS_lt {k : Nat} (h : rowS k ≠ []) : k < 256 := by
  by_cases e : k < 256
  · exact e
  · exfalso
    apply h
    unfold rowS
    rw [dG_ge (l := srT) (by rw [srT_len]; omega)]
    rfl
theorem rowI_lt {k : Nat} (h : rowI k ≠ []) : k < 256 := by
  by_cases e : k < 256
  · exact e
  · exfalso
    apply h
    unfold rowI
    rw [dG_ge (l := irT) (by rw [irT_len]; omega)]
    rfl
def eqS : Option Nat → Option Nat → Bool
  | some a, some b => Nat.beq a b
  | _, _ => false
def ckS (F : pF) (k : Nat) : Bool := (List.range (rowS k).length).all (fun j => match SR k j with | some v => eqS (F k j) (some v) | none => true)
def ckI (I : pI) (k : Nat) : Bool := (List.range (rowI k).length).all (fun j => match IR k j with | some v => I k j == v | none => true)
theorem FS_of {F : pF} (h : (List.range 256).all (ckS F) = true) : FS F := by
  intro k j v hs
  have h1 : ∃ w, dH (rowS k) j = some w := by
    unfold SR at hs
    show ∃ w, dH (dG (dG srT (k / 16)) (k % 16)) j = some w
    cases hq : dH (dG (dG srT (k / 16)) (k % 16)) j with
    | none => rw [hq] at hs; cases hs
    | some w => exact ⟨w, rfl⟩
  obtain ⟨w, hw⟩ := h1
  have hj := dH_lt hw
  have hk : k < 256 := rowS_lt (fun e => by rw [e] at hw; cases hw)
  have a := List.all_eq_true.mp h k (List.mem_range.mpr hk)
  have b := List.all_eq_true.mp a j (List.mem_range.mpr hj)
  rw [hs] at b
  simp only at b
  cases hq : F k j with
  | none => rw [hq] at b; cases b
  | some u =>
    rw [hq] at b
    rw [Nat.eq_of_beq_eq_true (show Nat.beq u v = true from b)]
theorem FX_of {I : pI} (h : (List.range 256).all (ckI I) = true) : FX I := by
  intro k j v hs
  have hj : j < (rowI k).length := dH_lt (l := rowI k) hs
  have hk : k < 256 := rowI_lt (fun e => by rw [e] at hj; simp at hj)
  have a := List.all_eq_true.mp h k (List.mem_range.mpr hk)
  have b := List.all_eq_true.mp a j (List.mem_range.mpr hj)
  rw [hs] at b
  simpa using b
def F00 : pF := F_X12_init_235 (zF (F_X11_init_0 (zF (fun _ _ => none) 0)) 235)
def I00 : pI := I_X12_init_235 (zI (I_X11_init_0 (zI (fun _ _ => 0) 0)) 235)
set_option maxRecDepth 100000 in
theorem F00_ck : (List.range 256).all (ckS F00) = true := by decide +kernel
set_option maxRecDepth 100000 in
theorem I00_ck : (List.range 256).all (ckI I00) = true := by decide +kernel
theorem F00_S : FS F00 := FS_of F00_ck
theorem I00_X : FX I00 := FX_of I00_ck
