/-! what is known of the fresh objects; what one call answers. Own work (laid by wip/pm/gen15.py). -/
def irT : List (List (List Int)) := [
  [[0, 0, 0, 0, 0, 0, 0, 0, 0, 0, 0], [0, 0, 0, 0, 0, 0, 0, 0, 0, 0, 0, 0], [], [], [99999, 999, 99999, 0, 0], [], [], [], [0, 0, 0, 0, 0, 0], [1, 1, 1, 1, 1, 1], [1, 1, 1, 1, 1, 1], [0, 0, 0, 0, 0, 0], [0, 0, 0, 0, 0, 0, 0], [], [], []],
  [[], [], [], [], [], [], [], [], [], [], [], [], [], [], [], []],
  [[], [], [], [], [], [], [], [], [], [], [], [], [], [], [], []],
  [[], [], [], [], [], [], [], [], [], [], [], [], [], [], [], []],
  [[], [], [], [], [], [], [], [], [], [], [], [], [], [], [], []],
  [[], [], [], [], [], [], [], [], [], [], [0, 0, 0, 0, 0], [], [], [0, 0, 0, 0, 0], [], []],
  [[0, 0, 0, 0, 0], [], [], [0, 0, 0, 0, 0], [], [], [], [], [], [], [], [], [], [], [], []],
  [[], [], [], [], [], [], [], [], [], [], [], [], [], [], [], []],
  [[], [], [], [], [], [], [], [], [], [], [], [], [], [], [], []],
  [[], [], [], [], [], [], [], [], [], [], [], [], [], [], [], []],
  [[], [], [], [], [], [], [], [], [], [], [], [], [], [], [], []],
  [[], [], [], [], [], [], [], [], [], [], [], [], [], [], [], []],
  [[], [], [], [], [], [], [], [], [], [], [], [0, 0, 0, 0, 0, 0, 0], [], [0, 0, 0, 0, 0, 0, 0, 0], [], []],
  [[], [], [], [], [], [], [], [], [], [], [], [], [], [], [], []],
  [[], [], [], [0, 0, 0], [], [0, 0, 0], [], [0, 0, 0], [], [0, 0, 0], [], [0, 0, 0, 0, 0, 0, 0, 0, 0, 0, 0, 0, 0, 0, 0, 0, 0, 0, 0, 0, 0, 0, 0, 0, 0, 0, 0, 0, 0, 0, 0, 0, 0, 0, 0, 0, 0, 0], [0, 0, 0, 0, 99999, 999, 99999, 0, 0, 0, 0, 0, 0, 0, 0, 0, 0, 1, 1, 0, 0, 1, 1, 0, 0, 1, 1, 0, 0, 1, 1, 0, 0, 1, 1, 0, 0, 1, 1, 0, 0, 0, 0, 0, 0, 0, 0, 0, 0, 0, 0, 0, 0, 0, 0, 0, 0, 0, 0, 0, 0, 0, 0, 0, 0, 0, 0, 0, 0, 0, 0, 0, 0, 0, 0, 0, 0, 0, 0, 0, 0, 0, 0, 0, 0, 0, 0, 0, 0, 0, 0, 0, 0, 0, 0, 0, 0, 0, 0, 0, 0, 0, 0, 0, 0, 0, 0, 0, 0, 0, 0, 0, 0, 0, 0, 0, 0, 0, 0, 0, 0, 0, 0, 0, 0, 0, 0, 0, 0, 0, 0, 0, 0, 0, 0, 0, 0, 0, 0, 0, 0, 0, 0, 0, 0, 0, 0, 0, 0, 0, 0, 0, 0, 0, 0, 0, 0, 0, 0, 0, 0, 0, 0, 0, 0, 0, 0, 0, 0, 0, 0, 0, 0, 0, 0, 0, 0, 0, 0, 0, 0, 0, 0, 0, 0, 0, 0, 0, 0, 0, 0, 0, 0, 0, 0, 0, 0, 0, 0, 0], [], [0, 0, 0, 0, 0, 0, 0], [99999, 999, 99999, 24, 5]],
  [[], [], [], [], [], [], [], [], [], [], [0, 0, 0, 0], [0, 0, 0, 0], [], [], [], []]]
def IR (k j : Nat) : Option Int := dH (dG (dG irT (k / 16)) (k % 16)) j
def FX (I : pI) : Prop := ∀ k j v, IR k j = some v → I k j = v
theorem FX.i {I : pI} (h : FX I) {k j : Nat} {v : Int} (hs : IR k j = some v) : I k j = v := h k j v hs
/-- of the reference -/
def MS (I I' : pI) : Prop := ∀ k j, 235 ≤ k → I' k j = I k j
def FXm (I : pI) : Prop := ∀ k j v, 235 ≤ k → IR k j = some v → I k j = v
theorem MS.r {I : pI} : MS I I := fun _ _ _ => rfl
theorem MS.u {I I' : pI} {q b : Nat} {v : Int} (h : MS I I') (hq : q < 235) : MS I (uI I' q b v) := by
  intro k j hk
  unfold uI
  rw [if_neg (by omega)]
  exact h k j hk
theorem MS.c {I I' : pI} {q sp p dp n : Nat} (h : MS I I') (hq : p < 235) : MS I (cI I' q sp p dp n) := by
  intro k j hk
  unfold cI
  rw [if_neg (by omega)]
  exact h k j hk
theorem MS.t {I I' J : pI} (h : MS I I') (g : MS I' J) : MS I J := fun k j hk => (g k j hk).trans (h k j hk)
theorem FX.m {I I' : pI} (h : FX I) (g : MS I I') : FXm I' := fun k j v hk hs => (g k j hk).trans (h k j v hs)
theorem FXm.i {I : pI} (h : FXm I) {k j : Nat} {v : Int} (hs : IR k j = some v) (hk : Nat.ble 235 k = true) : I k j = v := h k j v (Nat.le_of_ble_eq_true hk) hs
theorem uJ_eq {I : pI} {q b : Nat} {v : Int} : uI I q b v q b = v := by unfold uI; rw [if_pos ⟨rfl, rfl⟩]
theorem uJ_ne {I : pI} {q b j : Nat} {v : Int} (h : ¬ j = b) : uI I q b v q j = I q j := by unfold uI; rw [if_neg (fun e => h e.2)]
def rowIs (k : Nat) (c : Int) : Nat → Nat → Bool
  | lo, 0 => true
  | lo, n + 1 => (match IR k lo with | some v => v == c | none => false) && rowIs k c (lo + 1) n
theorem rowIs_get {k : Nat} {c : Int} : ∀ (n lo : Nat), rowIs k c lo n = true → ∀ j, lo ≤ j → j < lo + n → IR k j = some c := by
  intro n
  induction n with
  | zero => intro lo _ j h1 h2; omega
  | succ n ih =>
    intro lo h j h1 h2
    unfold rowIs at h
    rw [Bool.and_eq_true] at h
    by_cases e : j = lo
    · subst e
      have := h.1
      cases hq : IR k j with
      | none => rw [hq] at this; cases this
      | some v => rw [hq] at this; simp only [beq_iff_eq] at this; rw [this]
    · exact ih (lo + 1) h.2 j (by omega) (by omega)
theorem FX_r {I : pI} (h : FX I) (k : Nat) (c : Int) (lo hi : Nat) (hr : rowIs k c lo (hi + 1 - lo) = true) (v : Int) (h1 : (lo : Int) ≤ v) (h2 : v ≤ hi) : I k v.toNat = c := h k _ c (rowIs_get _ _ hr _ (by omega) (by omega))
theorem FXm_r {I : pI} (h : FXm I) (k : Nat) (c : Int) (lo hi : Nat) (hr : rowIs k c lo (hi + 1 - lo) = true) (hk : Nat.ble 235 k = true) (v : Int) (h1 : (lo : Int) ≤ v) (h2 : v ≤ hi) : I k v.toNat = c := h k _ c (Nat.le_of_ble_eq_true hk) (rowIs_get _ _ hr _ (by omega) (by omega))
theorem FX_sh {I : pI} (h : FX I) {v : Int} (hv : 0 ≤ v ∧ v ≤ 3) : I (227 + 2 * v.toNat) 0 = 0 := by
  have : v.toNat = 0 ∨ v.toNat = 1 ∨ v.toNat = 2 ∨ v.toNat = 3 := by omega
  rcases this with e | e | e | e <;> rw [e] <;> exact h.i rfl
theorem lay_sh {v : Int} (hv : 0 ≤ v ∧ v ≤ 3) : lay (227 + 2 * v.toNat) = (7, 3) := by
  have : v.toNat = 0 ∨ v.toNat = 1 ∨ v.toNat = 2 ∨ v.toNat = 3 := by omega
  rcases this with e | e | e | e <;> rw [e] <;> rfl
theorem lay_sh1 {v : Int} (hv : 0 ≤ v ∧ v ≤ 3) : lay (227 + 2 * v.toNat + 1) = (100, 24) := by
  have : v.toNat = 0 ∨ v.toNat = 1 ∨ v.toNat = 2 ∨ v.toNat = 3 := by omega
  rcases this with e | e | e | e <;> rw [e] <;> rfl
theorem FS_shn {F : pF} (h : FS F) {v : Int} (hv : 0 ≤ v ∧ v ≤ 3) : F (227 + 2 * v.toNat) 2 = some (227 + 2 * v.toNat + 1) := by
  have : v.toNat = 0 ∨ v.toNat = 1 ∨ v.toNat = 2 ∨ v.toNat = 3 := by omega
  rcases this with e | e | e | e <;> rw [e] <;> exact h.g rfl
/-! the answers of one call on the fresh object -/
def lim0 (w : Int) : Int := if w = 0 then 99999 else if w = 1 then 999 else if w = 2 then 99999 else 0
def most0 (w : Int) : Int := if w = 0 then 99999 else if w = 1 then 999 else if w = 2 then 99999 else if w = 3 then 24 else 5
def fx_piece (k l s h n : Int) : Int := if (0 ≤ k ∧ k ≤ 5) ∧ (0 ≤ l ∧ l ≤ 3) ∧ (1 ≤ s ∧ s ≤ 99) ∧ (0 ≤ h ∧ h ≤ 3) ∧ (2 ≤ n ∧ n ≤ 12) then -1000002 else -1000001
def fx_limit (w v : Int) : Int := if (0 ≤ w ∧ w ≤ 4) ∧ (0 ≤ v ∧ v ≤ most0 w) then lim0 w else -1000001
def fx_feed (n : Int) : Int := if 1 ≤ n ∧ n ≤ 8 then n else -1000001
def fx_program (p : Int) : Int := if 0 ≤ p ∧ p ≤ 3 then -10 else -1000001
def fx_ran (p : Int) : Int := if 0 ≤ p ∧ p ≤ 3 then -1000002 else -1000001
def fx_curve (l s w : Int) : Int := if (0 ≤ l ∧ l ≤ 3) ∧ (0 ≤ s ∧ s ≤ 999) ∧ (0 ≤ w ∧ w ≤ 3) then (if w = 3 then 0 else -1000002) else -1000001
def fx_odd (l s w : Int) : Int := if (0 ≤ l ∧ l ≤ 3) ∧ (0 ≤ s ∧ s ≤ 3) ∧ (0 ≤ w ∧ w ≤ 100) then -1000002 else -1000001
def fx_sure (l s p t : Int) : Int := if (0 ≤ l ∧ l ≤ 3) ∧ (0 ≤ s ∧ s ≤ 3) ∧ (1 ≤ p ∧ p ≤ 9) ∧ (1 ≤ t ∧ t ≤ 9) then -1000002 else -1000001
def fx_prove (m o f w : Int) : Int := if (1 ≤ m ∧ m ≤ 5) ∧ (0 ≤ o ∧ o ≤ 5) ∧ (101 ≤ f ∧ f ≤ 9999) ∧ 1 ≤ f % 100 ∧ (0 ≤ w ∧ w ≤ 99) then (if m ≤ o then -1000003 else 1) else -1000001
def fx_led (m v w : Int) : Int := if (0 ≤ m ∧ m ≤ 5) ∧ (0 ≤ v ∧ v ≤ 99999) ∧ (0 ≤ w ∧ w ≤ 1) then (if w = 0 then v else 0) else -1000001
def fx_enter (l s w : Int) : Int := if (0 ≤ l ∧ l ≤ 3) ∧ (0 ≤ s ∧ s ≤ 3) ∧ (0 ≤ w ∧ w ≤ 5) then -1000002 else -1000001
def fx_book (l s : Int) : Int := if (0 ≤ l ∧ l ≤ 3) ∧ (0 ≤ s ∧ s ≤ 3) then -1000002 else -1000001
def fx_hangs (m : Int) : Int := if 0 ≤ m ∧ m ≤ 5 then 0 else -1000001
def fx_plates (s n l : Int) : Int := if (0 ≤ s ∧ s ≤ 3) ∧ (0 ≤ n ∧ n ≤ 10) ∧ (1 ≤ l ∧ l ≤ 999) then -1000002 else -1000001
def fx_sheet (s b n : Int) : Int := if (0 ≤ s ∧ s ≤ 3) ∧ (b = 0 ∨ b = 8 ∨ b = 16 ∨ b = 32) then (if b = 0 then 1 else if n < 0 then -1000003 else if 24 < n then -1000001 else 1) else -1000001
def fx_put (p : Int) : Int := if 0 ≤ p ∧ p ≤ 3 then -1000002 else -1000001
def fx_move (p q : Int) : Int := if (0 ≤ p ∧ p ≤ 3) ∧ (0 ≤ q ∧ q ≤ 3) then -1000002 else -1000001
def fx_trace (p q : Int) : Int := -1000001
def fx_count (p : Int) : Int := if 0 ≤ p ∧ p ≤ 7 then 0 else -1000001
def fx_told (p : Int) : Int := if 1 ≤ p ∧ p ≤ 6 then 0 else -1000001
theorem lim0_e {I : pI} (h : FX I) {v : Int} (hv : 0 ≤ v ∧ v ≤ 4) : I 4 v.toNat = lim0 v := by
  have : v = 0 ∨ v = 1 ∨ v = 2 ∨ v = 3 ∨ v = 4 := by omega
  rcases this with e | e | e | e | e <;> rw [e] <;> exact h.i rfl
theorem lim0_m {I : pI} (h : FXm I) {v : Int} (hv : 0 ≤ v ∧ v ≤ 4) : I 236 (v + 4).toNat = lim0 v := by
  have : v = 0 ∨ v = 1 ∨ v = 2 ∨ v = 3 ∨ v = 4 := by omega
  rcases this with e | e | e | e | e <;> rw [e] <;> exact h.i rfl rfl
theorem most0_m {I : pI} (h : FXm I) {v : Int} (hv : 0 ≤ v ∧ v ≤ 4) : I 239 v.toNat = most0 v := by
  have : v = 0 ∨ v = 1 ∨ v = 2 ∨ v = 3 ∨ v = 4 := by omega
  rcases this with e | e | e | e | e <;> rw [e] <;> exact h.i rfl rfl
theorem td100 (f : Int) : (0 ≤ f → Int.tdiv f 100 = f / 100 ∧ Int.tmod f 100 = f % 100) ∧ (f < 0 → Int.tdiv f 100 ≤ 0 ∧ Int.tmod f 100 ≤ 0) := by
  refine ⟨fun h => ⟨Int.tdiv_eq_ediv_of_nonneg h, Int.tmod_eq_emod_of_nonneg h⟩, fun h => ?_⟩
  have h1 := Int.neg_tdiv (a := f) (b := 100)
  have h2 := Int.neg_tmod (a := f) (b := 100)
  rw [Int.tdiv_eq_ediv_of_nonneg (by omega)] at h1
  rw [Int.tmod_eq_emod_of_nonneg (by omega)] at h2
  constructor <;> omega
