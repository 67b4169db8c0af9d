/-! the world behind the constructors: what stands where. Own work. -/
def srT : List (List (List (Option Nat))) := [
  [[some 1, some 102, none, some 203, some 204, some 205, some 208, some 218, some 220, some 223, some 226], [some 2, none, some 3, some 4, some 5, none, some 6, none, some 7, some 12, some 19], [some 20, some 25, some 30, some 35, some 40, some 45, some 50, some 55, some 60, some 65, some 70, some 75, some 80, some 85], [some 90, some 93, some 96, some 99], [], [], [], [some 8, some 9, some 10, some 11], [], [], [], [], [some 13, some 14, some 15, some 16, some 17, some 18], [], [], []],
  [[], [], [], [], [none, none, none, some 21, none, some 22], [], [some 23, some 24], [], [], [none, none, none, some 26, none, some 27], [], [some 28, some 29], [], [], [none, none, none, some 31, none, some 32], []],
  [[some 33, some 34], [], [], [none, none, none, some 36, none, some 37], [], [some 38, some 39], [], [], [none, none, none, some 41, none, some 42], [], [some 43, some 44], [], [], [none, none, none, some 46, none, some 47], [], [some 48, some 49]],
  [[], [], [none, none, none, some 51, none, some 52], [], [some 53, some 54], [], [], [none, none, none, some 56, none, some 57], [], [some 58, some 59], [], [], [none, none, none, some 61, none, some 62], [], [some 63, some 64], []],
  [[], [none, none, none, some 66, none, some 67], [], [some 68, some 69], [], [], [none, none, none, some 71, none, some 72], [], [some 73, some 74], [], [], [none, none, none, some 76, none, some 77], [], [some 78, some 79], [], []],
  [[none, none, none, some 81, none, some 82], [], [some 83, some 84], [], [], [none, none, none, some 86, none, some 87], [], [some 88, some 89], [], [], [none, some 91, some 92], [], [], [none, some 94, some 95], [], []],
  [[none, some 97, some 98], [], [], [none, some 100, some 101], [], [], [some 103, none, some 104, some 105, some 106, none, some 107, none, some 108, some 113, some 120], [some 121, some 126, some 131, some 136, some 141, some 146, some 151, some 156, some 161, some 166, some 171, some 176, some 181, some 186], [some 191, some 194, some 197, some 200], [], [], [], [some 109, some 110, some 111, some 112], [], [], []],
  [[], [some 114, some 115, some 116, some 117, some 118, some 119], [], [], [], [], [], [], [], [none, none, none, some 122, none, some 123], [], [some 124, some 125], [], [], [none, none, none, some 127, none, some 128], []],
  [[some 129, some 130], [], [], [none, none, none, some 132, none, some 133], [], [some 134, some 135], [], [], [none, none, none, some 137, none, some 138], [], [some 139, some 140], [], [], [none, none, none, some 142, none, some 143], [], [some 144, some 145]],
  [[], [], [none, none, none, some 147, none, some 148], [], [some 149, some 150], [], [], [none, none, none, some 152, none, some 153], [], [some 154, some 155], [], [], [none, none, none, some 157, none, some 158], [], [some 159, some 160], []],
  [[], [none, none, none, some 162, none, some 163], [], [some 164, some 165], [], [], [none, none, none, some 167, none, some 168], [], [some 169, some 170], [], [], [none, none, none, some 172, none, some 173], [], [some 174, some 175], [], []],
  [[none, none, none, some 177, none, some 178], [], [some 179, some 180], [], [], [none, none, none, some 182, none, some 183], [], [some 184, some 185], [], [], [none, none, none, some 187, none, some 188], [], [some 189, some 190], [], [], [none, some 192, some 193]],
  [[], [], [none, some 195, some 196], [], [], [none, some 198, some 199], [], [], [none, some 201, some 202], [], [], [], [some 227, some 229, some 231, some 233], [some 206, none, some 207], [], []],
  [[some 209, some 210], [], [some 211, some 212], [], [], [none, none, none, some 214, none, some 215], [], [some 216, some 217], [], [], [], [], [none, some 221, some 222], [], [], [some 224, some 225]],
  [[], [], [], [none, none, some 228], [], [none, none, some 230], [], [none, none, some 232], [], [none, none, some 234], [], [some 236, some 237, none, some 238, some 239, some 240, none, none, none, none, some 241, none, none, none, none, none, none, none, none, some 242, some 243, some 244, none, none, none, some 245, some 246, none, some 247, some 248, some 249, none, none, none, some 250, some 251, some 252, some 253], [], [], [], []],
  [[some 4115, some 4116, some 4117, some 4118, some 4119, some 4120], [], [], [], [], [], [], [], [], [], [], [], [], []]]
/-- the references that never change behind the constructors -/
def SR (k j : Nat) : Option Nat := (dH (dG (dG srT (k / 16)) (k % 16)) j).bind id
def FS (F : pF) : Prop := ∀ k j v, SR k j = some v → F k j = some v
theorem FS.g {F : pF} (h : FS F) {k j v : Nat} (hs : SR k j = some v) : F k j = some v := h k j v hs
theorem FS.u {F : pF} (h : FS F) {q b : Nat} {w : Option Nat} (hq : SR q b = none) : FS (uF F q b w) := by
  intro k j v hs
  unfold uF
  by_cases e : k = q ∧ j = b
  · obtain ⟨rfl, rfl⟩ := e
    rw [hq] at hs
    cases hs
  · rw [if_neg e]
    exact h k j v hs
/-- readings at the place r -/
def RO (F : pF) (r : Nat) : Prop := lay r = (6, 6) ∧ lay (r + 1) = (100, 24) ∧ lay (r + 2) = (100, 24) ∧ r + 2 < NP ∧ F r 0 = some (r + 1) ∧ F r 1 = some (r + 2)
/-- a piece at the place q -/
def PO (F : pF) (q : Nat) : Prop := lay q = (4, 6) ∧ lay (q + 1) = (100, 12) ∧ q + 4 < NP ∧ F q 3 = some (q + 1) ∧ F q 5 = some (q + 2) ∧ RO F (q + 2)
/-- a program at the place g -/
def GO (F : pF) (g : Nat) : Prop := lay g = (5, 5) ∧ lay (g + 1) = (100, 32) ∧ lay (g + 2) = (100, 32) ∧ g + 2 < NP ∧ F g 1 = some (g + 1) ∧ F g 2 = some (g + 2)
def rdC (I : pI) (r : Nat) : Int := I r 2
/-- the load of reading i, as the class reads it -/
def rdL (I : pI) (r : Nat) (i : Int) : Int := if 0 ≤ i ∧ i < I r 2 ∧ i < 24 then I (r + 2) i.toNat else -1
def rdS (I : pI) (r : Nat) (i : Int) : Int := if 0 ≤ i ∧ i < I r 2 ∧ i < 24 then I (r + 1) i.toNat else 0
section R
variable {G : pG} {d : Nat} {F : pF} {I : pI} {Q : Option pV → pF → pI → Prop}
theorem s_X6_stretchAt {r : Nat} (hR : RO F r) {i : Int} (hQ : Q (some (vi (rdS I r i))) F I) : CallN G d kX6_stretchAt [vr r, vi i] NP F I Q := by
  refine Call_wp (lv := [some (vr r), some (vi i)]) (by decide) ckX6_stretchAt [] rfl rfl ?_
  refine ⟨fun c1 => ?_, fun c1 => ?_⟩
  ·
    refine ⟨rfl, ?_⟩
    have e : rdS I r i = 0 := by unfold rdS; first | (rw [if_pos (by omega)]) | (rw [if_neg (by omega)])
    rw [e] at hQ
    exact hQ
  ·
    refine ⟨_, hR.1, (by have := hR.2.2.2.1; omega), ?_⟩
    refine ⟨fun c2 => ?_, fun c2 => ?_⟩
    ·
      refine ⟨rfl, ?_⟩
      have e : rdS I r i = 0 := by unfold rdS; first | (rw [if_pos (by omega)]) | (rw [if_neg (by omega)])
      rw [e] at hQ
      exact hQ
    ·
      refine ⟨fun c3 => ?_, fun c3 => ?_⟩
      ·
        refine ⟨rfl, ?_⟩
        have e : rdS I r i = 0 := by unfold rdS; first | (rw [if_pos (by omega)]) | (rw [if_neg (by omega)])
        rw [e] at hQ
        exact hQ
      ·
        refine ⟨_, hR.1, (by have := hR.2.2.2.1; omega), ?_⟩
        refine fun w0 hw0 => ?_; obtain rfl : w0 = some (r + 1) := hw0.symm.trans hR.2.2.2.2.1
        refine ⟨_, hR.2.1, (by have := hR.2.2.2.1; omega), (by omega), (by omega), ?_⟩
        refine ⟨rfl, ?_⟩
        have e : rdS I r i = (I (r + 1) (Int.toNat i)) := by unfold rdS; first | (rw [if_pos (by omega)]) | (rw [if_neg (by omega)])
        rw [e] at hQ
        exact hQ
theorem s_X6_loadAt {r : Nat} (hR : RO F r) {i : Int} (hQ : Q (some (vi (rdL I r i))) F I) : CallN G d kX6_loadAt [vr r, vi i] NP F I Q := by
  refine Call_wp (lv := [some (vr r), some (vi i)]) (by decide) ckX6_loadAt [] rfl rfl ?_
  refine ⟨fun c1 => ?_, fun c1 => ?_⟩
  ·
    refine ⟨rfl, ?_⟩
    have e : rdL I r i = (-1) := by unfold rdL; first | (rw [if_pos (by omega)]) | (rw [if_neg (by omega)])
    rw [e] at hQ
    exact hQ
  ·
    refine ⟨_, hR.1, (by have := hR.2.2.2.1; omega), ?_⟩
    refine ⟨fun c2 => ?_, fun c2 => ?_⟩
    ·
      refine ⟨rfl, ?_⟩
      have e : rdL I r i = (-1) := by unfold rdL; first | (rw [if_pos (by omega)]) | (rw [if_neg (by omega)])
      rw [e] at hQ
      exact hQ
    ·
      refine ⟨fun c3 => ?_, fun c3 => ?_⟩
      ·
        refine ⟨rfl, ?_⟩
        have e : rdL I r i = (-1) := by unfold rdL; first | (rw [if_pos (by omega)]) | (rw [if_neg (by omega)])
        rw [e] at hQ
        exact hQ
      ·
        refine ⟨_, hR.1, (by have := hR.2.2.2.1; omega), ?_⟩
        refine fun w0 hw0 => ?_; obtain rfl : w0 = some (r + 2) := hw0.symm.trans hR.2.2.2.2.2
        refine ⟨_, hR.2.2.1, (by have := hR.2.2.2.1; omega), (by omega), (by omega), ?_⟩
        refine ⟨rfl, ?_⟩
        have e : rdL I r i = (I (r + 2) (Int.toNat i)) := by unfold rdL; first | (rw [if_pos (by omega)]) | (rw [if_neg (by omega)])
        rw [e] at hQ
        exact hQ
end R
