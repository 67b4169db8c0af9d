/-! the cells of the world, seen as rows of the walking machine. Own work. -/
def tyF (c : Nat) : Nat → FieldType := match c with
  | 0 => tyX0
  | 1 => tyX1
  | 2 => tyX2
  | 3 => tyX3
  | 4 => tyX4
  | 5 => tyX5
  | 6 => tyX6
  | 7 => tyX7
  | 8 => tyX8
  | 9 => tyX9
  | 10 => tyX10
  | 11 => tyX11
  | _ => tyX12
theorem cl_get {c : Nat} (h : c < 13) : vwCl[c]? = some (clC c, clT c, clN c) := by
  have h1 : c < vwCl.length := h
  show vwCl[c]? = some (clQ c)
  unfold clQ
  rw [List.getD_eq_getElem?_getD, List.getElem?_eq_getElem h1]
  rfl
theorem c13 {P : Nat → Prop} (h0 : P 0) (h1 : P 1) (h2 : P 2) (h3 : P 3) (h4 : P 4) (h5 : P 5) (h6 : P 6) (h7 : P 7) (h8 : P 8) (h9 : P 9) (h10 : P 10) (h11 : P 11) (h12 : P 12) : ∀ c, c < 13 → P c := by
  intro c h
  match c, h with
  | 0, _ => exact h0
  | 1, _ => exact h1
  | 2, _ => exact h2
  | 3, _ => exact h3
  | 4, _ => exact h4
  | 5, _ => exact h5
  | 6, _ => exact h6
  | 7, _ => exact h7
  | 8, _ => exact h8
  | 9, _ => exact h9
  | 10, _ => exact h10
  | 11, _ => exact h11
  | 12, _ => exact h12
  | c + 13, h => omega
theorem cl_ty : ∀ c, c < 13 → ∀ k, k < clN c → parseFieldDescriptor (clT c k).2.2.1 = some (tyF c k) :=
  c13 tyX0_ok tyX1_ok tyX2_ok tyX3_ok tyX4_ok tyX5_ok tyX6_ok tyX7_ok tyX8_ok tyX9_ok tyX10_ok tyX11_ok tyX12_ok
theorem cl_nm : ∀ c, c < 13 → ∀ a, a < clN c → ∀ b, b < clN c → a ≠ b → (clT c a).2.1 ≠ (clT c b).2.1 :=
  c13 nmX0 nmX1 nmX2 nmX3 nmX4 nmX5 nmX6 nmX7 nmX8 nmX9 nmX10 nmX11 nmX12
theorem cl_in : ∀ c, c < 13 → ∀ w ∈ u_ws (clC c) (clT c) (clN c), w ∈ goods :=
  c13 cl_in0 cl_in1 cl_in2 cl_in3 cl_in4 cl_in5 cl_in6 cl_in7 cl_in8 cl_in9 cl_in10 cl_in11 cl_in12
theorem layG_ge : ∀ (l : List (List (Nat × Nat))) (i : Nat), l.length ≤ i → layG l i = []
  | [], _, _ => rfl
  | _ :: t, 0, h => by simp at h
  | _ :: t, i + 1, h => layG_ge t i (by simpa using h)
theorem lay_big {q : Nat} (h : 256 ≤ q) : lay q = (999, 0) := by
  unfold lay
  rw [layG_ge layT (q / 16) (by show 16 ≤ q / 16; omega)]
  rfl
theorem lay_all : ∀ q, q < 256 → (lay q).1 < 13 → (lay q).2 = clN (lay q).1 := by decide +kernel
theorem lay_cl {q a m : Nat} (h : lay q = (a, m)) (ha : a < 13) : m = clN a := by
  by_cases hq : q < 256
  · have := lay_all q hq (by rw [h]; exact ha)
    rw [h] at this
    exact this
  · rw [lay_big (by omega)] at h
    cases h
    omega
theorem wL_len (G : pG) (n : Nat) (F : pF) (I : pI) : (wL G n F I).length = n := by simp [wL]
theorem wL_at (G : pG) {n q : Nat} (F : pF) (I : pI) (h : q < n) : (wL G n F I)[q]? = some (gH G + q, cE G F I q) := by
  unfold wL
  rw [List.getElem?_map, List.getElem?_range h]
  rfl
theorem wL_lt {G : pG} {n i : Nat} {F : pF} {I : pI} {p : Nat × va_E} (h : (wL G n F I)[i]? = some p) : i < n ∧ p = (gH G + i, cE G F I i) := by
  have h1 : i < n := by
    have := (List.getElem?_eq_some_iff.mp h).1
    rwa [wL_len] at this
  rw [wL_at G F I h1] at h
  exact ⟨h1, (Option.some.inj h).symm⟩
theorem wL_D (G : pG) (n : Nat) (F : pF) (I : pI) : va_D (A0 G) (wL G n F I) := by
  refine ⟨fun i j p q hi hj hpq => ?_, fun k q hk => ?_⟩
  · obtain ⟨-, rfl⟩ := wL_lt hi
    obtain ⟨-, rfl⟩ := wL_lt hj
    simp at hpq
    exact hpq
  · obtain ⟨-, rfl⟩ := wL_lt hk
    exact Nat.le_add_right _ _
theorem wL_set {G : pG} {n q : Nat} {F F' : pF} {I I' : pI} {e : va_E} (he : cE G F' I' q = e) (ho : ∀ k, k ≠ q → cE G F' I' k = cE G F I k) : (wL G n F I).set q (gH G + q, e) = wL G n F' I' := by
  apply List.ext_getElem?
  intro i
  rw [List.getElem?_set, wL_len]
  by_cases hi : i < n
  · rw [wL_at G F' I' hi, wL_at G F I hi]
    by_cases hq : q = i
    · subst hq
      rw [if_pos rfl, if_pos hi, he]
    · rw [if_neg hq, ho i (fun z => hq z.symm)]
  · have h1 : ∀ F I, (wL G n F I)[i]? = none := fun F I => List.getElem?_eq_none (by rw [wL_len]; omega)
    rw [h1, h1]
    split
    · rw [if_neg (by omega)]
    · rfl
theorem wL_push (G : pG) (n : Nat) (F : pF) (I : pI) : wL G (n + 1) F I = wL G n F I ++ [(gH G + n, cE G F I n)] := by
  unfold wL
  rw [List.range_succ, List.map_append]
  rfl
theorem cE_obj {G : pG} {F : pF} {I : pI} {q c m : Nat} (h : lay q = (c, m)) (hc : c < 13) : cE G F I q = .inr (c, (List.range m).map (fV G F I q c)) := by
  unfold cE
  rw [h, if_pos (by show c < 100; omega)]
theorem cE_i {G : pG} {F : pF} {I : pI} {q m : Nat} (h : lay q = (100, m)) : cE G F I q = .inl (gC G 100, (m, .inl (fun j => Int32.ofInt (I q j)))) := by
  unfold cE
  rw [h, if_neg (Nat.not_lt.mpr (by show 100 ≤ _; exact Nat.le_of_ble_eq_true rfl)), if_pos (show _ < 200 from Nat.lt_of_lt_of_le (Nat.lt_succ_self _) (Nat.le_of_ble_eq_true rfl))]
theorem cE_b {G : pG} {F : pF} {I : pI} {q m : Nat} (h : lay q = (101, m)) : cE G F I q = .inl (gC G 101, (m, .inl (fun j => Int32.ofInt (I q j)))) := by
  unfold cE
  rw [h, if_neg (Nat.not_lt.mpr (by show 100 ≤ _; exact Nat.le_of_ble_eq_true rfl)), if_pos (show _ < 200 from Nat.lt_of_lt_of_le (Nat.lt_succ_self _) (Nat.le_of_ble_eq_true rfl))]
theorem cE_r {G : pG} {F : pF} {I : pI} {q t m : Nat} (h : lay q = (t, m)) (ht : 200 ≤ t) : cE G F I q = .inl (gC G t, (m, .inr (.inr (.inr (.inr (fun j => (F q j).map (ad G))))))) := by
  unfold cE
  rw [h, if_neg (by show ¬ t < 100; omega), if_neg (by show ¬ t < 200; omega)]
theorem fV_ne {G : pG} {F F' : pF} {I I' : pI} {q c j : Nat} (hF : F' q j = F q j) (hI : I' q j = I q j) : fV G F' I' q c j = fV G F I q c j := by unfold fV; rw [hF, hI]
theorem cE_ne {G : pG} {F F' : pF} {I I' : pI} {q : Nat} (hF : ∀ j, F' q j = F q j) (hI : ∀ j, I' q j = I q j) : cE G F' I' q = cE G F I q := by
  have h1 : F' q = F q := funext hF
  have h2 : I' q = I q := funext hI
  unfold cE
  have h3 : ∀ c, fV G F' I' q c = fV G F I q c := fun c => funext fun j => fV_ne (hF j) (hI j)
  rw [h1, h2, h3]
theorem set_map {m b : Nat} {f g : Nat → Value} {v : Value} (hb : g b = v) (ho : ∀ j, j ≠ b → g j = f j) : ((List.range m).map f).set b v = (List.range m).map g := by
  apply List.ext_getElem?
  intro i
  rw [List.getElem?_set]
  simp only [List.length_map, List.length_range, List.getElem?_map]
  by_cases hi : i < m
  · rw [List.getElem?_range hi]
    by_cases hq : b = i
    · subst hq
      simp [hi, hb]
    · simp [hq, ho i (fun z => hq z.symm)]
  · rw [List.getElem?_eq_none (by simp; omega)]
    split
    · rw [if_neg (by omega)]; rfl
    · rfl
theorem ad_w (G : pG) {q : Nat} (h : q < EXT) : ad G q = gH G + q := by unfold ad; rw [if_pos h]
theorem uI_ne {I : pI} {q b k : Nat} {x : Int} (h : k ≠ q) (j : Nat) : uI I q b x k j = I k j := by unfold uI; rw [if_neg (fun z => h z.1)]
theorem uF_ne {F : pF} {q b k : Nat} {x : Option Nat} (h : k ≠ q) (j : Nat) : uF F q b x k j = F k j := by unfold uF; rw [if_neg (fun z => h z.1)]
theorem uI_eq (I : pI) (q b : Nat) (x : Int) : uI I q b x q b = x := by unfold uI; rw [if_pos ⟨rfl, rfl⟩]
theorem uF_eq (F : pF) (q b : Nat) (x : Option Nat) : uF F q b x q b = x := by unfold uF; rw [if_pos ⟨rfl, rfl⟩]
theorem uI_nj {I : pI} {q b j : Nat} {x : Int} (h : j ≠ b) (k : Nat) : uI I q b x k j = I k j := by unfold uI; rw [if_neg (fun z => h z.2)]
theorem uF_nj {F : pF} {q b j : Nat} {x : Option Nat} (h : j ≠ b) (k : Nat) : uF F q b x k j = F k j := by unfold uF; rw [if_neg (fun z => h z.2)]
theorem uI_R {I : pI} (h : ∀ k j, iR (I k j)) {x : Int} (hx : iR x) (q b : Nat) : ∀ k j, iR (uI I q b x k j) := by
  intro k j
  unfold uI
  split
  · exact hx
  · exact h k j
/-- how large the heap is at most, from the walk itself -/
theorem W_sz {p : Program} {l : Launch} {e : Env} {R : Room} {s : State} {m : MethodId} {args : Array Value} {below : List Frame} {meth : Method} {c : Code} {H : Heap} {locs : List Loc} {cells slots : Nat} {Q : State → Prop} {g : JFrame}
    (h : H.size ≤ s.heap.size + cells → W p l e R s m args below meth c H locs cells slots Q g) : W p l e R s m args below meth c H locs cells slots Q g := by
  intro T hT X
  subst hT
  exact h X.heapSize T rfl X
/-- the size of the world's heap -/
theorem sz_of {G : pG} {n0 n : Nat} {F : pF} {I : pI} {s : State} {H : Heap} {locs : List Loc} (h0 : s.heap.size = gH G + n0) (hn : n0 ≤ n) (hP : va_P (gD G) vwCl (wL G n F I) H) (hS : va_S (A0 G) s.heap H locs) (hz : H.size ≤ s.heap.size + (n - n0)) : H.size = gH G + n := by
  have h1 := hS.1
  by_cases q : n = n0
  · omega
  · have h2 := (hP (n - 1) _ (wL_at G F I (by omega))).lt
    simp at h2
    omega
