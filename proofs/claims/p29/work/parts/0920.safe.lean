/-! what comes free at a method's entry, at a loop's head and behind a call; the ranges that both sides keep. Own work. -/
theorem uJ_eq {I : pI} {q b : Nat} {v : Int} : uI I q b v q b = v := by unfold uI; rw [if_pos ⟨rfl, rfl⟩]
theorem uJ_ne {I : pI} {q b j : Nat} {v : Int} (h : ¬ j = b) : uI I q b v q j = I q j := by unfold uI; rw [if_neg (fun e => h e.2)]
theorem lay_sh {v : Int} (hv : 0 ≤ v ∧ v ≤ 3) : lay (227 + 2 * v.toNat) = (7, 3) := by
  have : v.toNat = 0 ∨ v.toNat = 1 ∨ v.toNat = 2 ∨ v.toNat = 3 := by omega
  rcases this with e | e | e | e <;> rw [e] <;> rfl
theorem lay_sh1 {v : Int} (hv : 0 ≤ v ∧ v ≤ 3) : lay (227 + 2 * v.toNat + 1) = (100, 24) := by
  have : v.toNat = 0 ∨ v.toNat = 1 ∨ v.toNat = 2 ∨ v.toNat = 3 := by omega
  rcases this with e | e | e | e <;> rw [e] <;> rfl
theorem FS_shn {F : pF} (h : FS F) {v : Int} (hv : 0 ≤ v ∧ v ≤ 3) : F (227 + 2 * v.toNat) 2 = some (227 + 2 * v.toNat + 1) := by
  have : v.toNat = 0 ∨ v.toNat = 1 ∨ v.toNat = 2 ∨ v.toNat = 3 := by omega
  rcases this with e | e | e | e <;> rw [e] <;> exact h.g rfl
theorem lcm_le {x y : Int} : lcm x y ≤ 0 ↔ x ≤ y := by unfold lcm; (repeat' split) <;> omega
theorem lcm_ge {x y : Int} : 0 ≤ lcm x y ↔ y ≤ x := by unfold lcm; (repeat' split) <;> omega
theorem lcm_gt {x y : Int} : 0 < lcm x y ↔ y < x := by unfold lcm; (repeat' split) <;> omega
theorem lcm_eq {x y : Int} : lcm x y = 0 ↔ x = y := by unfold lcm; (repeat' split) <;> omega
theorem td100 (f : Int) : (0 ≤ f → Int.tdiv f 100 = f / 100 ∧ Int.tmod f 100 = f % 100) ∧ (f < 0 → Int.tdiv f 100 ≤ 0 ∧ Int.tmod f 100 ≤ 0) := by
  refine ⟨fun h => ⟨Int.tdiv_eq_ediv_of_nonneg h, Int.tmod_eq_emod_of_nonneg h⟩, fun h => ?_⟩
  have h1 := Int.neg_tdiv (a := f) (b := 100)
  have h2 := Int.neg_tmod (a := f) (b := 100)
  rw [Int.tdiv_eq_ediv_of_nonneg (by omega)] at h1
  rw [Int.tmod_eq_emod_of_nonneg (by omega)] at h2
  constructor <;> omega
theorem td_b {x c M : Int} (hc : 0 < c) (hM : 0 ≤ M) (h1 : -((M + 1) * c) < x) (h2 : x < (M + 1) * c) : -M ≤ Int.tdiv x c ∧ Int.tdiv x c ≤ M := by
  by_cases h : 0 ≤ x
  · rw [Int.tdiv_eq_ediv_of_nonneg h]
    have a := Int.ediv_nonneg h (Int.le_of_lt hc)
    have b := Int.ediv_lt_of_lt_mul hc h2
    omega
  · have e := Int.neg_tdiv (a := x) (b := c)
    rw [Int.tdiv_eq_ediv_of_nonneg (by omega)] at e
    have a := Int.ediv_nonneg (show 0 ≤ -x by omega) (Int.le_of_lt hc)
    have b := Int.ediv_lt_of_lt_mul hc (show -x < (M + 1) * c by omega)
    omega
theorem tm_b {x c : Int} (hc : 0 < c) : -c < Int.tmod x c ∧ Int.tmod x c < c := by
  by_cases h : 0 ≤ x
  · rw [Int.tmod_eq_emod_of_nonneg h]
    have a := Int.emod_nonneg x (show c ≠ 0 by omega)
    have b := Int.emod_lt_of_pos x hc
    omega
  · have e := Int.neg_tmod (a := x) (b := c)
    rw [Int.tmod_eq_emod_of_nonneg (by omega)] at e
    have a := Int.emod_nonneg (-x) (show c ≠ 0 by omega)
    have b := Int.emod_lt_of_pos (-x) hc
    omega
def AR (I : pI) : Prop := (∀ k j, iR (I k j)) ∧ ∀ k, (lay k).1 = 101 → ∀ j, -128 ≤ I k j ∧ I k j ≤ 127
section INOUT
variable {G : pG} {d k n0 n pc : Nat} {as : List pV} {lv : List (Option pV)} {st : List pV} {F : pF} {I : pI} {Q : Option pV → pF → pI → Prop}
theorem CallN_in (h : (∀ v ∈ as, okV v) → AR I → CallN G d k as n F I Q) : CallN G d k as n F I Q := by
  by_cases hI : AR I
  · exact ⟨fun hok => (h hok hI).elim fun g => g hok⟩
  · refine ⟨fun hok => ?_⟩
    intro p e ha hc hk s m args below hf hap hP hK
    exact absurd ⟨hP.2.2.2.2.2.1, hP.2.2.2.2.2.2⟩ hI
theorem CallN_out (h : CallN G d k as n F I (fun r F' I' => (∀ v, r = some v → okV v) → AR I' → Q r F' I')) : CallN G d k as n F I Q := by
  refine ⟨fun hok => Met.mono (fun a st o t g => ⟨?_, g.2⟩) (h.elim fun c => c hok)⟩
  obtain ⟨r, F', I', g1, g2, g3, g4⟩ := g.1
  exact ⟨r, F', I', g1, g2 g4 ⟨g3.2.2.2.1, g3.2.2.2.2⟩, g3, g4⟩
theorem GoN_in (h : (∀ (i : Nat) (v : pV), lv[i]? = some (some v) → okV v) → AR I → GoN G d k n0 n pc lv st F I Q) : GoN G d k n0 n pc lv st F I Q := by
  by_cases hI : AR I
  · by_cases hl : ∀ (i : Nat) (v : pV), lv[i]? = some (some v) → okV v
    · exact h hl hI
    · exact ⟨fun p e s m args below meth c H locs ls C hl' hs => absurd (fun i v hv => (hl'.2.2.2 i v hv).1) hl⟩
  · exact ⟨fun p e s m args below meth c H locs ls C hl hs => absurd ⟨C.wd.2.2.2.1, C.wd.2.2.2.2⟩ hI⟩
end INOUT
/-- a local that is forgotten -/
def LvLe (a b : List (Option pV)) : Prop := a.length = b.length ∧ ∀ (i : Nat) (v : pV), a[i]? = some (some v) → b[i]? = some (some v)
theorem LvLe.n : LvLe [] [] := ⟨rfl, fun _ _ h => h⟩
theorem LvLe.k {x : Option pV} {a b : List (Option pV)} (h : LvLe a b) : LvLe (x :: a) (x :: b) := by
  refine ⟨by simp [h.1], fun i v hv => ?_⟩
  match i, hv with
  | 0, hv => exact hv
  | i + 1, hv => exact h.2 i v (by simpa using hv)
theorem LvLe.d {x : Option pV} {a b : List (Option pV)} (h : LvLe a b) : LvLe (none :: a) (x :: b) := by
  refine ⟨by simp [h.1], fun i v hv => ?_⟩
  match i, hv with
  | 0, hv => simp at hv
  | i + 1, hv => exact h.2 i v (by simpa using hv)
theorem GoN_lv {G : pG} {d k n0 n pc : Nat} {lv lv' : List (Option pV)} {st : List pV} {F : pF} {I : pI} {Q : Option pV → pF → pI → Prop} (hl : LvLe lv' lv) (h : GoN G d k n0 n pc lv' st F I Q) : GoN G d k n0 n pc lv st F I Q :=
  ⟨fun p e s m args below meth c H locs ls C hs hst => (h.elim id) p e s m args below meth c H locs ls C ⟨hs.1, hs.2.1, hl.1.trans hs.2.2.1, fun i v hv => hs.2.2.2 i v (hl.2 i v hv)⟩ hst⟩
theorem lay_ne {q o : Nat} {a b : Nat × Nat} (ho : lay o = a) (hq : lay q = b) (h : a ≠ b) : ¬ o = q := fun e => h (by rw [← ho, ← hq, e])
theorem AR.u {I : pI} {q b : Nat} {x : Int} (h : AR I) (hx : iR x) (hq : (lay q).1 ≠ 101) : AR (uI I q b x) := by
  refine ⟨fun k j => ?_, fun k hk j => ?_⟩
  · unfold uI; split
    · exact hx
    · exact h.1 k j
  · unfold uI; split
    · next e => exact absurd (by rw [← e.1]; exact hk) hq
    · exact h.2 k hk j
/-- a number of the row that an image keeps, of the reference; z: the least that a divisor may be -/
def Pz (z : Int) (j : Nat) (v : Int) : Prop :=
  if j < 16 then (if j = 0 then 0 ≤ v ∧ v ≤ 14 else if j = 1 then 0 ≤ v ∧ v ≤ 20 else if j = 2 then 0 ≤ v ∧ v ≤ 64 else if j = 3 then 0 ≤ v ∧ v ≤ 48 else if j = 7 then 0 ≤ v ∧ v ≤ 24 else if j = 8 then 0 ≤ v ∧ v ≤ 5 else True)
  else if j < 40 then (if j % 4 = 0 then 0 ≤ v ∧ (v = 0 ∨ v < ((j - 16) / 4 : Nat)) else if j % 4 = 2 then z ≤ v ∧ v ≤ 99 else True)
  else if j < 184 then (if (j - 40) % 36 < 2 then 0 ≤ v ∧ v ≤ 17 else if j % 2 = 1 then v ≤ 300000 else True)
  else if j < 304 then (if (j - 184) % 6 = 4 then 0 ≤ v ∧ v ≤ 5 else True)
  else if j < 1228 then (if (j - 304) % 66 = 0 then 0 ≤ v ∧ v ≤ 5 else if (j - 304) % 66 = 3 then 0 ≤ v ∧ v ≤ 12 else if (j - 304) % 66 = 4 then 0 ≤ v ∧ v ≤ 24 else True)
  else if j < 1292 then 0 ≤ v ∧ v ≤ 255 else True
abbrev Pn (j : Nat) (v : Int) : Prop := Pz 1 j v
theorem Pz_eq {j : Nat} {v : Int} (c : ¬ (16 ≤ j ∧ j < 40 ∧ j % 4 = 2)) : Pz 0 j v = Pz 1 j v := by
  unfold Pz
  by_cases c1 : j < 16
  · rw [if_pos c1, if_pos c1]
  · rw [if_neg c1, if_neg c1]
    by_cases c2 : j < 40
    · rw [if_pos c2, if_pos c2]
      by_cases c3 : j % 4 = 0
      · rw [if_pos c3, if_pos c3]
      · rw [if_neg c3, if_neg c3, if_neg (by omega), if_neg (by omega)]
    · rw [if_neg c2, if_neg c2]
theorem Pz_n {j : Nat} {v : Int} (h : Pz 1 j v) : Pz 0 j v := by
  by_cases c : 16 ≤ j ∧ j < 40 ∧ j % 4 = 2
  · unfold Pz at h ⊢
    rw [if_neg (by omega), if_pos (by omega), if_neg (by omega), if_pos (by omega)] at h ⊢
    omega
  · rw [Pz_eq c]; exact h
theorem Pz_k {j : Nat} {v : Int} (h : Pz 0 j v) (hd : 16 ≤ j ∧ j < 40 ∧ j % 4 = 2 → 1 ≤ v) : Pz 1 j v := by
  by_cases c : 16 ≤ j ∧ j < 40 ∧ j % 4 = 2
  · have h1 := hd c
    unfold Pz at h ⊢
    rw [if_neg (by omega), if_pos (by omega), if_neg (by omega), if_pos (by omega)] at h ⊢
    omega
  · rw [← Pz_eq c]; exact h
theorem Pz_d {j : Nat} {v : Int} (h : Pz 1 j v) (hd : 16 ≤ j ∧ j < 40 ∧ j % 4 = 2) : 1 ≤ v := by
  unfold Pz at h
  rw [if_neg (by omega), if_pos (by omega), if_neg (by omega), if_pos (by omega)] at h
  omega
def Px (j : Nat) (v : Int) : Prop := if j = 6 then 0 ≤ v ∧ v ≤ 64 else if j = 7 then 0 ≤ v ∧ v ≤ 64 else if j = 9 then 0 ≤ v ∧ v ≤ 17 else if j = 11 then 0 ≤ v ∧ v ≤ 13 else if j = 12 then 0 ≤ v ∧ v ≤ 20000000 else if j = 16 then 0 ≤ v ∧ v ≤ 20000000 else if j = 18 then 0 ≤ v ∧ v ≤ 24 else if j = 22 then 0 ≤ v ∧ v ≤ 23 else if j = 23 then 0 ≤ v ∧ v ≤ 23 else if j = 27 then 0 ≤ v ∧ v ≤ 14 else if j = 31 then 0 ≤ v ∧ v ≤ 30 else if j = 32 then 0 ≤ v ∧ v ≤ 13 else True
/-- the greatest limits of the reference: never written -/
def Pm (j : Nat) (v : Int) : Prop := (j = 0 → v = 99999) ∧ (j = 1 → v = 999) ∧ (j = 2 → v = 99999) ∧ (j = 3 → v = 24) ∧ (j = 4 → v = 5)
def Pr (k j : Nat) (v : Int) : Prop :=
  if 235 ≤ k then (if k = 236 then Pz 1 j v else if k = 237 then Pz 0 j v else if k = 251 then 0 ≤ v ∧ v ≤ 24 else if k = 235 then Px j v else if k = 241 then Pz 1 (40 + j) v else if k = 239 then Pm j v else True)
  else ((((lay k).1 = 5 ∧ j = 0) ∨ ((lay k).1 = 8 ∧ j = 7)) → 0 ≤ v ∧ v ≤ 1) ∧ ((lay k).1 = 7 ∧ j = 1 → 0 ≤ v ∧ v ≤ 24)
/-- the divisors of what is kept, once there is an image -/
def KD (I : pI) : Prop := I 235 2 = 0 ∨ ∀ j, 16 ≤ j ∧ j < 40 ∧ j % 4 = 2 → 1 ≤ I 237 j
def Rg (I : pI) : Prop := (∀ k j, j < (lay k).2 → Pr k j (I k j)) ∧ KD I
/-- what may be written there -/
def Pw (k j : Nat) (v : Int) : Prop := Pr k j v ∧ k ≠ 237 ∧ ¬ (k = 235 ∧ j = 2)
theorem Rg.u {I : pI} {q b : Nat} {x : Int} (h : Rg I) (hx : Pw q b x) : Rg (uI I q b x) := by
  refine ⟨fun k j hj => ?_, ?_⟩
  · unfold uI
    split
    · next e => rw [e.1, e.2]; exact hx.1
    · exact h.1 k j hj
  · rcases h.2 with h2 | h2
    · refine Or.inl ?_
      unfold uI
      rw [if_neg (fun e => hx.2.2 ⟨e.1.symm, e.2.symm⟩)]
      exact h2
    · refine Or.inr (fun j hj => ?_)
      unfold uI
      rw [if_neg (fun e => hx.2.1 e.1.symm)]
      exact h2 j hj
theorem Rg.c {I : pI} {q sp p dp n : Nat} (h : Rg I) (hp : ∀ j v, Pw p j v) : Rg (cI I q sp p dp n) := by
  have h5 := hp 2 0
  refine ⟨fun k j hj => ?_, ?_⟩
  · unfold cI
    split
    · next e => rw [e.1]; exact (hp j _).1
    · exact h.1 k j hj
  · rcases h.2 with h2 | h2
    · refine Or.inl ?_
      unfold cI
      rw [if_neg (fun e => h5.2.2 ⟨e.1.symm, rfl⟩)]
      exact h2
    · refine Or.inr (fun j hj => ?_)
      unfold cI
      rw [if_neg (fun e => h5.2.1 e.1.symm)]
      exact h2 j hj
def xF (j : Nat) : Bool := j == 6 || j == 7 || j == 9 || j == 11 || j == 12 || j == 16 || j == 18 || j == 22 || j == 23 || j == 27 || j == 31 || j == 32
theorem Px_f {j : Nat} {v : Int} (h : xF j = false) : Px j v := by
  unfold xF at h
  simp only [Bool.or_eq_false_iff, beq_eq_false_iff_ne] at h
  unfold Px
  (repeat' split) <;> first | trivial | omega
/-- nothing is asked of this number -/
def frB (k j : Nat) : Bool := if 235 ≤ k then !(k == 236 || k == 237 || k == 251 || (k == 235 && (xF j || j == 2)) || k == 241 || k == 239) else !(((lay k).1 == 5 && j == 0) || ((lay k).1 == 8 && j == 7) || ((lay k).1 == 7 && j == 1))
theorem Pr_f {k j : Nat} {v : Int} (h : frB k j = true) : Pw k j v := by
  unfold frB at h
  unfold Pw Pr
  split
  · next hk =>
    rw [if_pos hk] at h
    simp only [Bool.not_eq_true', Bool.or_eq_false_iff, beq_eq_false_iff_ne, Bool.and_eq_false_iff] at h
    refine ⟨?_, by omega, by omega⟩
    rw [if_neg (by omega), if_neg (by omega), if_neg (by omega)]
    split
    · next e => exact Px_f (h.1.1.2.resolve_left (fun g => g e)).1
    · rw [if_neg (by omega), if_neg (by omega)]; trivial
  · next hk =>
    rw [if_neg hk] at h
    simp only [Bool.not_eq_true', Bool.or_eq_false_iff, beq_eq_false_iff_ne, Bool.and_eq_false_iff] at h
    refine ⟨⟨fun g => ?_, fun g => ?_⟩, by omega, by omega⟩ <;> omega
def frP (k : Nat) : Bool := if 235 ≤ k then !(k == 236 || k == 237 || k == 251 || k == 235 || k == 241 || k == 239) else !((lay k).1 == 5 || (lay k).1 == 8 || (lay k).1 == 7)
theorem Pr_p {k : Nat} (h : frP k = true) : ∀ j v, Pw k j v := by
  intro j v
  unfold frP at h
  unfold Pw Pr
  split
  · next hk =>
    rw [if_pos hk] at h
    simp only [Bool.not_eq_true', Bool.or_eq_false_iff, beq_eq_false_iff_ne] at h
    refine ⟨?_, by omega, by omega⟩
    rw [if_neg (by omega), if_neg (by omega), if_neg (by omega), if_neg (by omega), if_neg (by omega), if_neg (by omega)]
    trivial
  · next hk =>
    rw [if_neg hk] at h
    simp only [Bool.not_eq_true', Bool.or_eq_false_iff, beq_eq_false_iff_ne] at h
    refine ⟨⟨fun g => ?_, fun g => ?_⟩, by omega, by omega⟩ <;> omega
theorem Pr_l {k c m : Nat} (hl : lay k = (c, m)) (hk : k < 235) (j : Nat) (v : Int) (hc : (c ≠ 5 ∨ j ≠ 0) ∧ (c ≠ 8 ∨ j ≠ 7) ∧ (c ≠ 7 ∨ j ≠ 1)) : Pw k j v := by
  unfold Pw Pr
  rw [if_neg (by omega), hl]
  refine ⟨⟨fun g => ?_, fun g => ?_⟩, by omega, by omega⟩ <;> (simp only at g; omega)
theorem Pr_b {k j : Nat} {v : Int} (hk : k < 235) (hv : v = 0 ∨ v = 1) : Pw k j v := by
  unfold Pw Pr
  rw [if_neg (by omega)]
  refine ⟨⟨fun g => ?_, fun g => ?_⟩, by omega, by omega⟩ <;> omega
theorem Pr_h {k : Nat} {v : Int} (hl : lay k = (7, 3)) (hk : k < 235) (hv : 0 ≤ v ∧ v ≤ 24) : Pw k 1 v := by
  unfold Pw Pr
  rw [if_neg (by omega), hl]
  refine ⟨⟨fun g => ?_, fun g => ?_⟩, by omega, by omega⟩ <;> (simp only at g; omega)
theorem Pr_n {j : Nat} {v : Int} (hv : Pn j v) : Pw 236 j v := by
  unfold Pw Pr
  refine ⟨?_, by omega, by omega⟩
  rw [if_pos (by omega), if_pos rfl]
  exact hv
theorem Rg.n {I : pI} (h : Rg I) (j : Nat) (hj : j < 1340) : Pn j (I 236 j) := by
  have := h.1 236 j hj
  unfold Pr at this
  rw [if_pos (by omega), if_pos rfl] at this
  exact this
theorem Rg.k {I : pI} (h : Rg I) (j : Nat) (hj : j < 1340) : Pz 0 j (I 237 j) := by
  have := h.1 237 j hj
  unfold Pr at this
  rw [if_pos (by omega), if_neg (by omega), if_pos rfl] at this
  exact this
theorem Rg.b {I : pI} (h : Rg I) {k j c m : Nat} (hl : lay k = (c, m)) (hk : k < 235) (hc : ((c = 5 ∧ j = 0) ∨ (c = 8 ∧ j = 7)) ∧ j < m) : 0 ≤ I k j ∧ I k j ≤ 1 := by
  have := h.1 k j (by rw [hl]; exact hc.2)
  unfold Pr at this
  rw [if_neg (by omega), hl] at this
  exact this.1 hc.1
theorem Rg.h {I : pI} (h : Rg I) {k : Nat} (hl : lay k = (7, 3)) (hk : k < 235) : 0 ≤ I k 1 ∧ I k 1 ≤ 24 := by
  have := h.1 k 1 (by rw [hl]; decide)
  unfold Pr at this
  rw [if_neg (by omega), hl] at this
  exact this.2 ⟨rfl, rfl⟩
theorem Rg.s {I : pI} (h : Rg I) (j : Nat) (hj : j < 4) : 0 ≤ I 251 j ∧ I 251 j ≤ 24 := by
  have := h.1 251 j hj
  unfold Pr at this
  rw [if_pos (by omega), if_neg (by omega), if_neg (by omega), if_pos rfl] at this
  exact this
theorem Pr_s {j : Nat} {v : Int} (h : 0 ≤ v ∧ v ≤ 24) : Pw 251 j v := by
  unfold Pw Pr
  refine ⟨?_, by omega, by omega⟩
  rw [if_pos (by omega), if_neg (by omega), if_neg (by omega), if_pos rfl]
  exact h
theorem Pr_r {j : Nat} {v : Int} (h : Pn (40 + j) v) : Pw 241 j v := by
  unfold Pw Pr
  refine ⟨?_, by omega, by omega⟩
  rw [if_pos (by omega), if_neg (by omega), if_neg (by omega), if_neg (by omega), if_neg (by omega), if_pos rfl]
  exact h
theorem Pr_x {j : Nat} {v : Int} (hj : j ≠ 2) (h : Px j v) : Pw 235 j v := by
  unfold Pw Pr
  refine ⟨?_, by omega, by omega⟩
  rw [if_pos (by omega), if_neg (by omega), if_neg (by omega), if_neg (by omega), if_pos rfl]
  exact h
theorem Rg.x {I : pI} (h : Rg I) (j : Nat) (hj : j < 38) : Px j (I 235 j) := by
  have := h.1 235 j hj
  unfold Pr at this
  rw [if_pos (by omega), if_neg (by omega), if_neg (by omega), if_neg (by omega), if_pos rfl] at this
  exact this
theorem Rg.r {I : pI} (h : Rg I) (j : Nat) (hj : j < 36) : Pn (40 + j) (I 241 j) := by
  have := h.1 241 j hj
  unfold Pr at this
  rw [if_pos (by omega), if_neg (by omega), if_neg (by omega), if_neg (by omega), if_neg (by omega), if_pos rfl] at this
  exact this
theorem Rg.m {I : pI} (h : Rg I) (j : Nat) (hj : j < 5) : Pm j (I 239 j) := by
  have := h.1 239 j hj
  unfold Pr at this
  rw [if_pos (by omega), if_neg (by omega), if_neg (by omega), if_neg (by omega), if_neg (by omega), if_neg (by omega), if_pos rfl] at this
  exact this
theorem Rg.f6 {I : pI} (h : Rg I) : 0 ≤ I 235 6 ∧ I 235 6 ≤ 64 := h.x 6 (by decide)
theorem Pr_x6 {v : Int} (h : 0 ≤ v ∧ v ≤ 64) : Pw 235 6 v := Pr_x (by decide) h
theorem Rg.f7 {I : pI} (h : Rg I) : 0 ≤ I 235 7 ∧ I 235 7 ≤ 64 := h.x 7 (by decide)
theorem Pr_x7 {v : Int} (h : 0 ≤ v ∧ v ≤ 64) : Pw 235 7 v := Pr_x (by decide) h
theorem Rg.f9 {I : pI} (h : Rg I) : 0 ≤ I 235 9 ∧ I 235 9 ≤ 17 := h.x 9 (by decide)
theorem Pr_x9 {v : Int} (h : 0 ≤ v ∧ v ≤ 17) : Pw 235 9 v := Pr_x (by decide) h
theorem Rg.f11 {I : pI} (h : Rg I) : 0 ≤ I 235 11 ∧ I 235 11 ≤ 13 := h.x 11 (by decide)
theorem Pr_x11 {v : Int} (h : 0 ≤ v ∧ v ≤ 13) : Pw 235 11 v := Pr_x (by decide) h
theorem Rg.f12 {I : pI} (h : Rg I) : 0 ≤ I 235 12 ∧ I 235 12 ≤ 20000000 := h.x 12 (by decide)
theorem Pr_x12 {v : Int} (h : 0 ≤ v ∧ v ≤ 20000000) : Pw 235 12 v := Pr_x (by decide) h
theorem Rg.f16 {I : pI} (h : Rg I) : 0 ≤ I 235 16 ∧ I 235 16 ≤ 20000000 := h.x 16 (by decide)
theorem Pr_x16 {v : Int} (h : 0 ≤ v ∧ v ≤ 20000000) : Pw 235 16 v := Pr_x (by decide) h
theorem Rg.f18 {I : pI} (h : Rg I) : 0 ≤ I 235 18 ∧ I 235 18 ≤ 24 := h.x 18 (by decide)
theorem Pr_x18 {v : Int} (h : 0 ≤ v ∧ v ≤ 24) : Pw 235 18 v := Pr_x (by decide) h
theorem Rg.f22 {I : pI} (h : Rg I) : 0 ≤ I 235 22 ∧ I 235 22 ≤ 23 := h.x 22 (by decide)
theorem Pr_x22 {v : Int} (h : 0 ≤ v ∧ v ≤ 23) : Pw 235 22 v := Pr_x (by decide) h
theorem Rg.f23 {I : pI} (h : Rg I) : 0 ≤ I 235 23 ∧ I 235 23 ≤ 23 := h.x 23 (by decide)
theorem Pr_x23 {v : Int} (h : 0 ≤ v ∧ v ≤ 23) : Pw 235 23 v := Pr_x (by decide) h
theorem Rg.f27 {I : pI} (h : Rg I) : 0 ≤ I 235 27 ∧ I 235 27 ≤ 14 := h.x 27 (by decide)
theorem Pr_x27 {v : Int} (h : 0 ≤ v ∧ v ≤ 14) : Pw 235 27 v := Pr_x (by decide) h
theorem Rg.f31 {I : pI} (h : Rg I) : 0 ≤ I 235 31 ∧ I 235 31 ≤ 30 := h.x 31 (by decide)
theorem Pr_x31 {v : Int} (h : 0 ≤ v ∧ v ≤ 30) : Pw 235 31 v := Pr_x (by decide) h
theorem Rg.f32 {I : pI} (h : Rg I) : 0 ≤ I 235 32 ∧ I 235 32 ≤ 13 := h.x 32 (by decide)
theorem Pr_x32 {v : Int} (h : 0 ≤ v ∧ v ≤ 13) : Pw 235 32 v := Pr_x (by decide) h
theorem Rg.n0 {I : pI} (h : Rg I) : 0 ≤ I 236 0 ∧ I 236 0 ≤ 14 := h.n 0 (by decide)
theorem Rg.n1 {I : pI} (h : Rg I) : 0 ≤ I 236 1 ∧ I 236 1 ≤ 20 := h.n 1 (by decide)
theorem Rg.n2 {I : pI} (h : Rg I) : 0 ≤ I 236 2 ∧ I 236 2 ≤ 64 := h.n 2 (by decide)
theorem Rg.n3 {I : pI} (h : Rg I) : 0 ≤ I 236 3 ∧ I 236 3 ≤ 48 := h.n 3 (by decide)
theorem Rg.n7 {I : pI} (h : Rg I) : 0 ≤ I 236 7 ∧ I 236 7 ≤ 24 := h.n 7 (by decide)
theorem Rg.n8 {I : pI} (h : Rg I) : 0 ≤ I 236 8 ∧ I 236 8 ≤ 5 := h.n 8 (by decide)
theorem Pn_m0 {j p : Nat} {v : Int} (hp : p < 6) (hj : j = 16 + 4 * p) (h : Pn j v) : 0 ≤ v ∧ v ≤ 5 := by
  unfold Pn Pz at h
  rw [if_neg (by omega), if_pos (by omega), if_pos (by omega)] at h
  omega
theorem Pn_mc {j p : Nat} {v : Int} (hp : p < 6) (hj : j = 16 + 4 * p) (h : Pn j v) : v = 0 ∨ v < p := by
  unfold Pn Pz at h
  rw [if_neg (by omega), if_pos (by omega), if_pos (by omega)] at h
  omega
theorem Pn_m2 {j p : Nat} {v : Int} (hp : p < 6) (hj : j = 16 + 4 * p + 2) (h : Pn j v) : 1 ≤ v ∧ v ≤ 99 := by
  unfold Pn Pz at h
  rw [if_neg (by omega), if_pos (by omega), if_neg (by omega), if_pos (by omega)] at h
  exact h
theorem Pn_g0 {j p : Nat} {v : Int} (hp : p < 4) (hj : j = 40 + 36 * p) (h : Pn j v) : 0 ≤ v ∧ v ≤ 17 := by
  unfold Pn Pz at h
  rw [if_neg (by omega), if_neg (by omega), if_pos (by omega), if_pos (by omega)] at h
  exact h
theorem Pn_g1 {j p : Nat} {v : Int} (hp : p < 4) (hj : j = 40 + 36 * p + 1) (h : Pn j v) : 0 ≤ v ∧ v ≤ 17 := by
  unfold Pn Pz at h
  rw [if_neg (by omega), if_neg (by omega), if_pos (by omega), if_pos (by omega)] at h
  exact h
theorem Pn_ga2 {j p : Nat} {v : Int} (hp : p < 144) (hj : j = 40 + p ∧ p % 36 ≠ 1 ∧ p % 2 = 1) (h : Pn j v) : v ≤ 300000 := by
  unfold Pn Pz at h
  rw [if_neg (by omega), if_neg (by omega), if_pos (by omega), if_neg (by omega), if_pos (by omega)] at h
  exact h
theorem Pn_e4 {j p : Nat} {v : Int} (hp : p < 20) (hj : j = 184 + 6 * p + 4) (h : Pn j v) : 0 ≤ v ∧ v ≤ 5 := by
  unfold Pn Pz at h
  rw [if_neg (by omega), if_neg (by omega), if_neg (by omega), if_pos (by omega), if_pos (by omega)] at h
  exact h
theorem Pn_t {j : Nat} {v : Int} (hj : 1228 ≤ j ∧ j < 1292) (h : Pn j v) : 0 ≤ v ∧ v ≤ 255 := by
  unfold Pn Pz at h
  rw [if_neg (by omega), if_neg (by omega), if_neg (by omega), if_neg (by omega), if_neg (by omega), if_pos (by omega)] at h
  exact h
theorem Pn_p0 {j p : Nat} {v : Int} (hp : p < 14) (hj : j = 304 + 66 * p) (h : Pn j v) : 0 ≤ v ∧ v ≤ 5 := by
  unfold Pn Pz at h
  rw [if_neg (by omega), if_neg (by omega), if_neg (by omega), if_neg (by omega), if_pos (by omega), if_pos (by omega)] at h
  exact h
theorem Pn_p3 {j p : Nat} {v : Int} (hp : p < 14) (hj : j = 304 + 66 * p + 3) (h : Pn j v) : 0 ≤ v ∧ v ≤ 12 := by
  unfold Pn Pz at h
  rw [if_neg (by omega), if_neg (by omega), if_neg (by omega), if_neg (by omega), if_pos (by omega), if_neg (by omega), if_pos (by omega)] at h
  exact h
theorem Pn_p4 {j p : Nat} {v : Int} (hp : p < 14) (hj : j = 304 + 66 * p + 4) (h : Pn j v) : 0 ≤ v ∧ v ≤ 24 := by
  unfold Pn Pz at h
  rw [if_neg (by omega), if_neg (by omega), if_neg (by omega), if_neg (by omega), if_pos (by omega), if_neg (by omega), if_neg (by omega), if_pos (by omega)] at h
  exact h
set_option maxRecDepth 20000 in
theorem Pn_w {j : Nat} {v : Int} (h0 : j = 0 → 0 ≤ v ∧ v ≤ 14) (h1 : j = 1 → 0 ≤ v ∧ v ≤ 20) (h2 : j = 2 → 0 ≤ v ∧ v ≤ 64) (h3 : j = 3 → 0 ≤ v ∧ v ≤ 48) (h7 : j = 7 → 0 ≤ v ∧ v ≤ 24) (h8 : j = 8 → 0 ≤ v ∧ v ≤ 5)
    (m0 : 16 ≤ j → j < 40 → j % 4 = 0 → 0 ≤ v ∧ (v = 0 ∨ v < ((j - 16) / 4 : Nat))) (m2 : 16 ≤ j → j < 40 → j % 4 = 2 → 1 ≤ v ∧ v ≤ 99)
    (g0 : 40 ≤ j → j < 184 → (j - 40) % 36 < 2 → 0 ≤ v ∧ v ≤ 17) (g2 : 40 ≤ j → j < 184 → 2 ≤ (j - 40) % 36 → j % 2 = 1 → v ≤ 300000)
    (e4 : 184 ≤ j → j < 304 → (j - 184) % 6 = 4 → 0 ≤ v ∧ v ≤ 5)
    (p0 : 304 ≤ j → j < 1228 → (j - 304) % 66 = 0 → 0 ≤ v ∧ v ≤ 5) (p3 : 304 ≤ j → j < 1228 → (j - 304) % 66 = 3 → 0 ≤ v ∧ v ≤ 12) (p4 : 304 ≤ j → j < 1228 → (j - 304) % 66 = 4 → 0 ≤ v ∧ v ≤ 24)
    (t0 : 1228 ≤ j → j < 1292 → 0 ≤ v ∧ v ≤ 255) : Pn j v := by
  unfold Pn Pz
  by_cases b1 : j < 16
  · rw [if_pos b1]
    by_cases ch0 : j = 0
    · rw [if_pos ch0]; exact h0 ch0
    rw [if_neg ch0]
    by_cases ch1 : j = 1
    · rw [if_pos ch1]; exact h1 ch1
    rw [if_neg ch1]
    by_cases ch2 : j = 2
    · rw [if_pos ch2]; exact h2 ch2
    rw [if_neg ch2]
    by_cases ch3 : j = 3
    · rw [if_pos ch3]; exact h3 ch3
    rw [if_neg ch3]
    by_cases ch7 : j = 7
    · rw [if_pos ch7]; exact h7 ch7
    rw [if_neg ch7]
    by_cases ch8 : j = 8
    · rw [if_pos ch8]; exact h8 ch8
    rw [if_neg ch8]
    trivial
  rw [if_neg b1]
  by_cases b2 : j < 40
  · rw [if_pos b2]
    by_cases cm0 : j % 4 = 0
    · rw [if_pos cm0]; exact m0 (by omega) b2 cm0
    rw [if_neg cm0]
    by_cases cm2 : j % 4 = 2
    · rw [if_pos cm2]; exact m2 (by omega) b2 cm2
    rw [if_neg cm2]
    trivial
  rw [if_neg b2]
  by_cases b3 : j < 184
  · rw [if_pos b3]
    by_cases cg : (j - 40) % 36 < 2
    · rw [if_pos cg]; exact g0 (by omega) b3 cg
    rw [if_neg cg]
    by_cases ch : j % 2 = 1
    · rw [if_pos ch]; exact g2 (by omega) b3 (by omega) ch
    rw [if_neg ch]
    trivial
  rw [if_neg b3]
  by_cases b4 : j < 304
  · rw [if_pos b4]
    by_cases ce4 : (j - 184) % 6 = 4
    · rw [if_pos ce4]; exact e4 (by omega) b4 ce4
    rw [if_neg ce4]
    trivial
  rw [if_neg b4]
  by_cases b5 : j < 1228
  · rw [if_pos b5]
    by_cases cp0 : (j - 304) % 66 = 0
    · rw [if_pos cp0]; exact p0 (by omega) b5 cp0
    rw [if_neg cp0]
    by_cases cp3 : (j - 304) % 66 = 3
    · rw [if_pos cp3]; exact p3 (by omega) b5 cp3
    rw [if_neg cp3]
    by_cases cp4 : (j - 304) % 66 = 4
    · rw [if_pos cp4]; exact p4 (by omega) b5 cp4
    rw [if_neg cp4]
    trivial
  rw [if_neg b5]
  by_cases b6 : j < 1292
  · rw [if_pos b6]; exact t0 (by omega) b6
  rw [if_neg b6]
  trivial
theorem Pn_sh {p k : Nat} {v : Int} (hp : p < 4) (hk : k < 36) (h : Pn (40 + k) v) : Pn (40 + 36 * p + k) v := by
  unfold Pn Pz at h ⊢
  rw [if_neg (by omega), if_neg (by omega), if_pos (by omega)] at h ⊢
  by_cases c : k < 2
  · rw [if_pos (by omega)] at h ⊢; exact h
  · rw [if_neg (by omega)] at h ⊢
    by_cases c2 : k % 2 = 1
    · rw [if_pos (by omega)] at h ⊢; exact h
    · rw [if_neg (by omega)]; trivial
theorem uI_o {I : pI} {q b k j : Nat} {v : Int} (h : ¬ (k = q ∧ j = b)) : uI I q b v k j = I k j := by unfold uI; rw [if_neg h]
theorem cI_o {I : pI} {q sp p dp n k j : Nat} (h : ¬ k = p) : cI I q sp p dp n k j = I k j := by unfold cI; rw [if_neg (fun e => h e.1)]
/-- readings, pieces, programs, sheets of the class -/
def RP (F : pF) (r : Nat) : Prop := RO F r ∧ r + 2 < 235
def PP (F : pF) (q : Nat) : Prop := PO F q ∧ q + 4 < 235
def GP (F : pF) (g : Nat) : Prop := GO F g ∧ g + 2 < 235
def HP (F : pF) (q : Nat) : Prop := lay q = (7, 3) ∧ lay (q + 1) = (100, 24) ∧ q + 1 < 235 ∧ F q 2 = some (q + 1)
theorem PP.r {F : pF} {q : Nat} (h : PP F q) : RP F (q + 2) := ⟨h.1.2.2.2.2.2, by have := h.2; omega⟩
theorem HP_of {F : pF} (hF : FS F) {v : Int} (hv : 0 ≤ v ∧ v ≤ 3) : HP F (227 + 2 * v.toNat) := ⟨lay_sh hv, lay_sh1 hv, by omega, FS_shn hF hv⟩
theorem PP_n {F : pF} (hF : FS F) : ∀ i, i < 14 → PP F (20 + 5 * i) :=
  n14 (P := fun i => PP F (20 + 5 * i)) ⟨⟨rfl, rfl, by decide, hF.g rfl, hF.g rfl, rfl, rfl, rfl, by decide, hF.g rfl, hF.g rfl⟩, by decide⟩ ⟨⟨rfl, rfl, by decide, hF.g rfl, hF.g rfl, rfl, rfl, rfl, by decide, hF.g rfl, hF.g rfl⟩, by decide⟩ ⟨⟨rfl, rfl, by decide, hF.g rfl, hF.g rfl, rfl, rfl, rfl, by decide, hF.g rfl, hF.g rfl⟩, by decide⟩ ⟨⟨rfl, rfl, by decide, hF.g rfl, hF.g rfl, rfl, rfl, rfl, by decide, hF.g rfl, hF.g rfl⟩, by decide⟩ ⟨⟨rfl, rfl, by decide, hF.g rfl, hF.g rfl, rfl, rfl, rfl, by decide, hF.g rfl, hF.g rfl⟩, by decide⟩ ⟨⟨rfl, rfl, by decide, hF.g rfl, hF.g rfl, rfl, rfl, rfl, by decide, hF.g rfl, hF.g rfl⟩, by decide⟩ ⟨⟨rfl, rfl, by decide, hF.g rfl, hF.g rfl, rfl, rfl, rfl, by decide, hF.g rfl, hF.g rfl⟩, by decide⟩ ⟨⟨rfl, rfl, by decide, hF.g rfl, hF.g rfl, rfl, rfl, rfl, by decide, hF.g rfl, hF.g rfl⟩, by decide⟩ ⟨⟨rfl, rfl, by decide, hF.g rfl, hF.g rfl, rfl, rfl, rfl, by decide, hF.g rfl, hF.g rfl⟩, by decide⟩ ⟨⟨rfl, rfl, by decide, hF.g rfl, hF.g rfl, rfl, rfl, rfl, by decide, hF.g rfl, hF.g rfl⟩, by decide⟩ ⟨⟨rfl, rfl, by decide, hF.g rfl, hF.g rfl, rfl, rfl, rfl, by decide, hF.g rfl, hF.g rfl⟩, by decide⟩ ⟨⟨rfl, rfl, by decide, hF.g rfl, hF.g rfl, rfl, rfl, rfl, by decide, hF.g rfl, hF.g rfl⟩, by decide⟩ ⟨⟨rfl, rfl, by decide, hF.g rfl, hF.g rfl, rfl, rfl, rfl, by decide, hF.g rfl, hF.g rfl⟩, by decide⟩ ⟨⟨rfl, rfl, by decide, hF.g rfl, hF.g rfl, rfl, rfl, rfl, by decide, hF.g rfl, hF.g rfl⟩, by decide⟩
theorem PP_of {F : pF} (hF : FS F) {v : Int} (hv : 0 ≤ v ∧ v < 14) : PP F (1 + 19 + 5 * v.toNat) := PP_n hF v.toNat (by omega)
theorem GP_n {F : pF} (hF : FS F) : ∀ i, i < 4 → GP F (90 + 3 * i) :=
  n4 (P := fun i => GP F (90 + 3 * i)) ⟨⟨rfl, rfl, rfl, by decide, hF.g rfl, hF.g rfl⟩, by decide⟩ ⟨⟨rfl, rfl, rfl, by decide, hF.g rfl, hF.g rfl⟩, by decide⟩ ⟨⟨rfl, rfl, rfl, by decide, hF.g rfl, hF.g rfl⟩, by decide⟩ ⟨⟨rfl, rfl, rfl, by decide, hF.g rfl, hF.g rfl⟩, by decide⟩
theorem GP_of {F : pF} (hF : FS F) {v : Int} (hv : 0 ≤ v ∧ v < 4) : GP F (1 + 89 + 3 * v.toNat) := GP_n hF v.toNat (by omega)
theorem PP_n2 {F : pF} (hF : FS F) : ∀ i, i < 14 → PP F (121 + 5 * i) :=
  n14 (P := fun i => PP F (121 + 5 * i)) ⟨⟨rfl, rfl, by decide, hF.g rfl, hF.g rfl, rfl, rfl, rfl, by decide, hF.g rfl, hF.g rfl⟩, by decide⟩ ⟨⟨rfl, rfl, by decide, hF.g rfl, hF.g rfl, rfl, rfl, rfl, by decide, hF.g rfl, hF.g rfl⟩, by decide⟩ ⟨⟨rfl, rfl, by decide, hF.g rfl, hF.g rfl, rfl, rfl, rfl, by decide, hF.g rfl, hF.g rfl⟩, by decide⟩ ⟨⟨rfl, rfl, by decide, hF.g rfl, hF.g rfl, rfl, rfl, rfl, by decide, hF.g rfl, hF.g rfl⟩, by decide⟩ ⟨⟨rfl, rfl, by decide, hF.g rfl, hF.g rfl, rfl, rfl, rfl, by decide, hF.g rfl, hF.g rfl⟩, by decide⟩ ⟨⟨rfl, rfl, by decide, hF.g rfl, hF.g rfl, rfl, rfl, rfl, by decide, hF.g rfl, hF.g rfl⟩, by decide⟩ ⟨⟨rfl, rfl, by decide, hF.g rfl, hF.g rfl, rfl, rfl, rfl, by decide, hF.g rfl, hF.g rfl⟩, by decide⟩ ⟨⟨rfl, rfl, by decide, hF.g rfl, hF.g rfl, rfl, rfl, rfl, by decide, hF.g rfl, hF.g rfl⟩, by decide⟩ ⟨⟨rfl, rfl, by decide, hF.g rfl, hF.g rfl, rfl, rfl, rfl, by decide, hF.g rfl, hF.g rfl⟩, by decide⟩ ⟨⟨rfl, rfl, by decide, hF.g rfl, hF.g rfl, rfl, rfl, rfl, by decide, hF.g rfl, hF.g rfl⟩, by decide⟩ ⟨⟨rfl, rfl, by decide, hF.g rfl, hF.g rfl, rfl, rfl, rfl, by decide, hF.g rfl, hF.g rfl⟩, by decide⟩ ⟨⟨rfl, rfl, by decide, hF.g rfl, hF.g rfl, rfl, rfl, rfl, by decide, hF.g rfl, hF.g rfl⟩, by decide⟩ ⟨⟨rfl, rfl, by decide, hF.g rfl, hF.g rfl, rfl, rfl, rfl, by decide, hF.g rfl, hF.g rfl⟩, by decide⟩ ⟨⟨rfl, rfl, by decide, hF.g rfl, hF.g rfl, rfl, rfl, rfl, by decide, hF.g rfl, hF.g rfl⟩, by decide⟩
theorem PP_of2 {F : pF} (hF : FS F) {v : Int} (hv : 0 ≤ v ∧ v < 14) : PP F (102 + 19 + 5 * v.toNat) := PP_n2 hF v.toNat (by omega)
theorem GP_n2 {F : pF} (hF : FS F) : ∀ i, i < 4 → GP F (191 + 3 * i) :=
  n4 (P := fun i => GP F (191 + 3 * i)) ⟨⟨rfl, rfl, rfl, by decide, hF.g rfl, hF.g rfl⟩, by decide⟩ ⟨⟨rfl, rfl, rfl, by decide, hF.g rfl, hF.g rfl⟩, by decide⟩ ⟨⟨rfl, rfl, rfl, by decide, hF.g rfl, hF.g rfl⟩, by decide⟩ ⟨⟨rfl, rfl, rfl, by decide, hF.g rfl, hF.g rfl⟩, by decide⟩
theorem GP_of2 {F : pF} (hF : FS F) {v : Int} (hv : 0 ≤ v ∧ v < 4) : GP F (102 + 89 + 3 * v.toNat) := GP_n2 hF v.toNat (by omega)
theorem GP_d {F : pF} (hF : FS F) : GP F 220 := ⟨⟨rfl, rfl, rfl, by decide, hF.g rfl, hF.g rfl⟩, by decide⟩
theorem RP_m {F : pF} (hF : FS F) : RP F 210 := ⟨⟨rfl, rfl, rfl, by decide, hF.g rfl, hF.g rfl⟩, by decide⟩
theorem FS.p {F : pF} (h : FS F) {w : Option Nat} : FS (uF F 208 2 w) := FS.u h rfl
theorem FS.x {F : pF} (h : FS F) {w : Option Nat} : FS (uF F 218 0 w) := FS.u h rfl
theorem uF_o {F : pF} {q b k j : Nat} {w : Option Nat} (h : ¬ (k = q ∧ j = b)) : uF F q b w k j = F k j := by unfold uF; rw [if_neg h]
theorem RP.u {F : pF} {r : Nat} {w : Option Nat} (h : RP F r) : RP (uF F 208 2 w) r := ⟨⟨h.1.1, h.1.2.1, h.1.2.2.1, h.1.2.2.2.1, (uF_o (by omega)).trans h.1.2.2.2.2.1, (uF_o (by omega)).trans h.1.2.2.2.2.2⟩, h.2⟩
theorem PP.u {F : pF} {q : Nat} {w : Option Nat} (h : PP F q) : PP (uF F 208 2 w) q := ⟨⟨h.1.1, h.1.2.1, h.1.2.2.1, (uF_o (by omega)).trans h.1.2.2.2.1, (uF_o (by omega)).trans h.1.2.2.2.2.1, (RP.u h.r).1⟩, h.2⟩
theorem GP.u {F : pF} {g : Nat} {w : Option Nat} (h : GP F g) : GP (uF F 208 2 w) g := ⟨⟨h.1.1, h.1.2.1, h.1.2.2.1, h.1.2.2.2.1, (uF_o (by omega)).trans h.1.2.2.2.2.1, (uF_o (fun e => lay_ne (q := 208) h.1.1 rfl (by decide) e.1)).trans h.1.2.2.2.2.2⟩, h.2⟩
theorem RP.x {F : pF} {r : Nat} {w : Option Nat} (h : RP F r) : RP (uF F 218 0 w) r := ⟨⟨h.1.1, h.1.2.1, h.1.2.2.1, h.1.2.2.2.1, (uF_o (fun e => lay_ne (q := 218) h.1.1 rfl (by decide) e.1)).trans h.1.2.2.2.2.1, (uF_o (by omega)).trans h.1.2.2.2.2.2⟩, h.2⟩
theorem PP.x {F : pF} {q : Nat} {w : Option Nat} (h : PP F q) : PP (uF F 218 0 w) q := ⟨⟨h.1.1, h.1.2.1, h.1.2.2.1, (uF_o (by omega)).trans h.1.2.2.2.1, (uF_o (by omega)).trans h.1.2.2.2.2.1, (RP.x h.r).1⟩, h.2⟩
theorem GP.x {F : pF} {g : Nat} {w : Option Nat} (h : GP F g) : GP (uF F 218 0 w) g := ⟨⟨h.1.1, h.1.2.1, h.1.2.2.1, h.1.2.2.2.1, (uF_o (by omega)).trans h.1.2.2.2.2.1, (uF_o (by omega)).trans h.1.2.2.2.2.2⟩, h.2⟩
theorem Pr_any {j : Nat} {x : Int} (hj : j = 2) : Pr 235 j x := by
  subst hj
  unfold Pr
  rw [if_pos (by omega), if_neg (by omega), if_neg (by omega), if_neg (by omega), if_pos rfl]
  exact Px_f rfl
theorem Rg_image {I J : pI} {x : Int} (h : Rg I) (g1 : ∀ j, j < 1340 → J 237 j = I 236 j) (g2 : ∀ k j, k ≠ 237 → J k j = I k j) : Rg (uI J 235 2 x) := by
  refine ⟨fun k j hj => ?_, Or.inr (fun j hj => ?_)⟩
  · by_cases e : k = 235 ∧ j = 2
    · obtain ⟨rfl, rfl⟩ := e
      exact Pr_any rfl
    · rw [uI_o e]
      by_cases e2 : k = 237
      · subst e2
        rw [g1 j hj]
        unfold Pr
        rw [if_pos (by omega), if_neg (by omega), if_pos rfl]
        exact Pz_n (h.n j hj)
      · rw [g2 k j e2]
        exact h.1 k j hj
  · rw [uI_o (fun e => absurd e.1 (by decide)), g1 j (by omega)]
    exact Pz_d (h.n j (by omega)) hj
theorem Rg_restore {I J : pI} (h : Rg I) (hi : I 235 2 ≠ 0) (g1 : ∀ j, j < 1340 → J 236 j = I 237 j) (g2 : ∀ k j, k ≠ 236 → J k j = I k j) : Rg J := by
  refine ⟨fun k j hj => ?_, Or.inr (fun j hj => ?_)⟩
  · by_cases e2 : k = 236
    · subst e2
      rw [g1 j hj]
      unfold Pr
      rw [if_pos (by omega), if_pos rfl]
      exact Pz_k (h.k j hj) (fun hd => h.2.resolve_left hi j hd)
    · rw [g2 k j e2]
      exact h.1 k j hj
  · rw [g2 237 j (by decide)]
    exact h.2.resolve_left hi j hj
