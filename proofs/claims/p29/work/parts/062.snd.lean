/-! what the machine does at an instruction that touches no cell, for the walking machine. Own work (rows laid by wip/pm/gen6.py). -/
theorem ok_c {a : pV} {r : List pV} (h : okV a) (hr : ∀ v ∈ r, okV v) : ∀ v ∈ a :: r, okV v := List.forall_mem_cons.mpr ⟨h, hr⟩
theorem ok_h {a : pV} {r : List pV} (h : ∀ v ∈ a :: r, okV v) : okV a := (List.forall_mem_cons.mp h).1
theorem ok_t {a : pV} {r : List pV} (h : ∀ v ∈ a :: r, okV v) : ∀ v ∈ r, okV v := (List.forall_mem_cons.mp h).2
theorem lg_get : ∀ {lv : List (Option pV)} {a : Nat} {v : pV}, lg lv a = some v → lv[a]? = some (some v)
  | [], _, _, h => by simp [lg] at h
  | x :: _, 0, v, h => by simp [lg] at h; simp [h]
  | _ :: t, i + 1, v, h => by simp [lg] at h; simpa using lg_get h
def asc (G : pG) (lv : List (Option pV)) : List (Nat × Value) := (List.range lv.length).filterMap (fun i => match lv[i]? with
  | some (some w) => some (i, tr G w)
  | _ => none)
theorem mem_asc {G : pG} {lv : List (Option pV)} {i : Nat} {u : Value} : (i, u) ∈ asc G lv ↔ ∃ w, lv[i]? = some (some w) ∧ u = tr G w := by
  unfold asc
  rw [List.mem_filterMap]
  constructor
  · rintro ⟨j, -, hj⟩
    split at hj
    next w hw => cases hj; exact ⟨w, hw, rfl⟩
    next => cases hj
  · rintro ⟨w, hw, rfl⟩
    refine ⟨i, List.mem_range.mpr (List.getElem?_eq_some_iff.mp hw).1, ?_⟩
    rw [hw]
theorem Hs.has {G : pG} {k : Nat} {ls : Array Slot} {lv : List (Option pV)} (h : Hs G k ls lv) : lv_has ls (mL k) (asc G lv) := by
  refine ⟨h.1, h.2.1, fun q hq => ?_⟩
  obtain ⟨i, u⟩ := q
  obtain ⟨w, hw, rfl⟩ := mem_asc.mp hq
  exact (h.2.2.2 i w hw).2
theorem ctg_tr (G : pG) (w : pV) : (tr G w).category = ctg w := by
  cases w with
  | inl r => cases r <;> rfl
  | inr z => cases z <;> rfl
theorem ls1_spec : ∀ {lv : List (Option pV)} {a : Nat} {v : pV} {k : List (Option pV) → Prop}, ls1 lv a v k → ∃ lv', k lv' ∧ lv'.length = lv.length ∧
    ∀ (i : Nat) (w : pV), lv'[i]? = some (some w) → (i = a ∧ w = v) ∨ (i ≠ a ∧ lv[i]? = some (some w) ∧ ¬ (i + 1 = a ∧ ctg w = 2))
  | [], _, _, k, h => ⟨[], h, rfl, fun i w hw => by simp at hw⟩
  | x :: t, 0, v, k, h => ⟨some v :: t, h, rfl, fun i w hw => by
      cases i with
      | zero => simp at hw; exact Or.inl ⟨rfl, hw.symm⟩
      | succ i => exact Or.inr ⟨by omega, by simpa using hw, by omega⟩⟩
  | x :: t, 1, v, k, h => by
      have key : ∀ (y : Option pV) (hy : ∀ w, y = some w → x = some w ∧ ctg w = 1), ls1 t 0 v (fun t' => k (y :: t')) → ∃ lv', k lv' ∧ lv'.length = (x :: t).length ∧
          ∀ (i : Nat) (w : pV), lv'[i]? = some (some w) → (i = 1 ∧ w = v) ∨ (i ≠ 1 ∧ (x :: t)[i]? = some (some w) ∧ ¬ (i + 1 = 1 ∧ ctg w = 2)) := by
        intro y hy h
        obtain ⟨t', h1, h2, h3⟩ := ls1_spec h
        refine ⟨y :: t', h1, by simp [h2], fun i w hw => ?_⟩
        cases i with
        | zero =>
          simp at hw
          obtain ⟨e1, e2⟩ := hy w hw
          exact Or.inr ⟨by omega, by simp [e1], by omega⟩
        | succ i =>
          rcases h3 i w (by simpa using hw) with ⟨e1, e2⟩ | ⟨e1, e2, e3⟩
          · exact Or.inl ⟨by omega, e2⟩
          · exact Or.inr ⟨by omega, by simpa using e2, by omega⟩
      cases x with
      | none => exact key none (fun w e => by cases e) h
      | some y =>
        cases y with
        | inl r => exact key (some (.inl r)) (fun w e => by cases e; exact ⟨rfl, rfl⟩) h
        | inr y =>
          cases y with
          | inl z => exact key (some (.inr (.inl z))) (fun w e => by cases e; exact ⟨rfl, rfl⟩) h
          | inr z => exact key none (fun w e => by cases e) h
  | x :: t, j + 2, v, k, h => by
      obtain ⟨t', h1, h2, h3⟩ := ls1_spec (lv := t) (a := j + 1) (v := v) (k := fun t' => k (x :: t')) h
      refine ⟨x :: t', h1, by simp [h2], fun i w hw => ?_⟩
      cases i with
      | zero => exact Or.inr ⟨by omega, by simpa using hw, by omega⟩
      | succ i =>
        rcases h3 i w (by simpa using hw) with ⟨e1, e2⟩ | ⟨e1, e2, e3⟩
        · exact Or.inl ⟨by omega, e2⟩
        · exact Or.inr ⟨by omega, by simpa using e2, by omega⟩
theorem ls2_spec : ∀ {lv : List (Option pV)} {a : Nat} {v : pV} {k : List (Option pV) → Prop}, ls2 lv a v k → ∃ lv', k lv' ∧ lv'.length = lv.length ∧
    ∀ (i : Nat) (w : pV), lv'[i]? = some (some w) → (i = a ∧ w = v) ∨ (i ≠ a ∧ i ≠ a + 1 ∧ lv[i]? = some (some w) ∧ ¬ (i + 1 = a ∧ ctg w = 2))
  | [], _, _, k, h => ⟨[], h, rfl, fun i w hw => by simp at hw⟩
  | [x], 0, v, k, h => ⟨[some v], h, rfl, fun i w hw => by
      cases i with
      | zero => simp at hw; exact Or.inl ⟨rfl, hw.symm⟩
      | succ i => simp at hw⟩
  | x :: y :: t, 0, v, k, h => ⟨some v :: none :: t, h, rfl, fun i w hw => by
      cases i with
      | zero => simp at hw; exact Or.inl ⟨rfl, hw.symm⟩
      | succ i =>
        cases i with
        | zero => simp at hw
        | succ i => exact Or.inr ⟨by omega, by omega, by simpa using hw, by omega⟩⟩
  | x :: t, 1, v, k, h => by
      have key : ∀ (y : Option pV) (hy : ∀ w, y = some w → x = some w ∧ ctg w = 1), ls2 t 0 v (fun t' => k (y :: t')) → ∃ lv', k lv' ∧ lv'.length = (x :: t).length ∧
          ∀ (i : Nat) (w : pV), lv'[i]? = some (some w) → (i = 1 ∧ w = v) ∨ (i ≠ 1 ∧ i ≠ 1 + 1 ∧ (x :: t)[i]? = some (some w) ∧ ¬ (i + 1 = 1 ∧ ctg w = 2)) := by
        intro y hy h
        obtain ⟨t', h1, h2, h3⟩ := ls2_spec h
        refine ⟨y :: t', h1, by simp [h2], fun i w hw => ?_⟩
        cases i with
        | zero =>
          simp at hw
          obtain ⟨e1, e2⟩ := hy w hw
          exact Or.inr ⟨by omega, by omega, by simp [e1], by omega⟩
        | succ i =>
          rcases h3 i w (by simpa using hw) with ⟨e1, e2⟩ | ⟨e1, e0, e2, e3⟩
          · exact Or.inl ⟨by omega, e2⟩
          · exact Or.inr ⟨by omega, by omega, by simpa using e2, by omega⟩
      cases x with
      | none => exact key none (fun w e => by cases e) h
      | some y =>
        cases y with
        | inl r => exact key (some (.inl r)) (fun w e => by cases e; exact ⟨rfl, rfl⟩) h
        | inr y =>
          cases y with
          | inl z => exact key (some (.inr (.inl z))) (fun w e => by cases e; exact ⟨rfl, rfl⟩) h
          | inr z => exact key none (fun w e => by cases e) h
  | x :: t, j + 2, v, k, h => by
      obtain ⟨t', h1, h2, h3⟩ := ls2_spec (lv := t) (a := j + 1) (v := v) (k := fun t' => k (x :: t')) h
      refine ⟨x :: t', h1, by simp [h2], fun i w hw => ?_⟩
      cases i with
      | zero => exact Or.inr ⟨by omega, by omega, by simpa using hw, by omega⟩
      | succ i =>
        rcases h3 i w (by simpa using hw) with ⟨e1, e2⟩ | ⟨e1, e0, e2, e3⟩
        · exact Or.inl ⟨by omega, e2⟩
        · exact Or.inr ⟨by omega, by omega, by simpa using e2, by omega⟩
/-- the locals behind a store of one word -/
theorem Hs.set1 {G : pG} {k a : Nat} {ls ls' : Array Slot} {lv lv' : List (Option pV)} {v : pV} (h : Hs G k ls lv) (hv : okV v) (hlen : lv'.length = lv.length)
    (hl : lv_has ls' (mL k) ((a, tr G v) :: (asc G lv).filter (fun q => !(q.1 == a) && !(q.1 + 1 == a && q.2.category == 2))))
    (hs : ∀ (i : Nat) (w : pV), lv'[i]? = some (some w) → (i = a ∧ w = v) ∨ (i ≠ a ∧ lv[i]? = some (some w) ∧ ¬ (i + 1 = a ∧ ctg w = 2))) : Hs G k ls' lv' := by
  refine ⟨hl.1, hl.2.1, by rw [hlen]; exact h.2.2.1, fun i w hw => ?_⟩
  rcases hs i w hw with ⟨rfl, rfl⟩ | ⟨e1, e2, e3⟩
  · exact ⟨hv, hl.2.2 (i, tr G w) List.mem_cons_self⟩
  · refine ⟨(h.2.2.2 i w e2).1, hl.2.2 (i, tr G w) (List.mem_cons_of_mem _ (List.mem_filter.mpr ⟨mem_asc.mpr ⟨w, e2, rfl⟩, ?_⟩))⟩
    rw [ctg_tr]
    simp only [Bool.and_eq_true, Bool.not_eq_true', beq_eq_false_iff_ne, ne_eq, Bool.and_eq_false_iff]
    refine ⟨e1, ?_⟩
    by_cases q : i + 1 = a
    · exact Or.inr (fun z => e3 ⟨q, z⟩)
    · exact Or.inl q
theorem Hs.set2 {G : pG} {k a : Nat} {ls ls' : Array Slot} {lv lv' : List (Option pV)} {v : pV} (h : Hs G k ls lv) (hv : okV v) (hlen : lv'.length = lv.length)
    (hl : lv_has ls' (mL k) ((a, tr G v) :: (asc G lv).filter (fun q => !(q.1 == a) && (!(q.1 == a + 1) && !(q.1 + 1 == a && q.2.category == 2)))))
    (hs : ∀ (i : Nat) (w : pV), lv'[i]? = some (some w) → (i = a ∧ w = v) ∨ (i ≠ a ∧ i ≠ a + 1 ∧ lv[i]? = some (some w) ∧ ¬ (i + 1 = a ∧ ctg w = 2))) : Hs G k ls' lv' := by
  refine ⟨hl.1, hl.2.1, by rw [hlen]; exact h.2.2.1, fun i w hw => ?_⟩
  rcases hs i w hw with ⟨rfl, rfl⟩ | ⟨e1, e0, e2, e3⟩
  · exact ⟨hv, hl.2.2 (i, tr G w) List.mem_cons_self⟩
  · refine ⟨(h.2.2.2 i w e2).1, hl.2.2 (i, tr G w) (List.mem_cons_of_mem _ (List.mem_filter.mpr ⟨mem_asc.mpr ⟨w, e2, rfl⟩, ?_⟩))⟩
    rw [ctg_tr]
    simp only [Bool.and_eq_true, Bool.not_eq_true', beq_eq_false_iff_ne, ne_eq, Bool.and_eq_false_iff]
    refine ⟨e1, e0, ?_⟩
    by_cases q : i + 1 = a
    · exact Or.inr (fun z => e3 ⟨q, z⟩)
    · exact Or.inl q
section PURE
variable {G : pG} {d k n0 n pc nx a : Nat} {lv : List (Option pV)} {r : List pV} {F : pF} {I : pI} {Q : Option pV → pF → pI → Prop} {x y : Int} {v : pV}

theorem g_iconst {i : Int} (hd : decode (mB k) pc = .ok (.iconst i, 1)) (hn : nx = pc + 1) (hv : Int32.ofInt i = Int32.ofInt x) (hx : iR x) (h : Go G d k n0 n nx lv (.inr (.inl x) :: r) F I Q) : Go G d k n0 n pc lv (r) F I Q := by
  intro p e s m args below meth c H locs ls C hl hs
  subst hn
  exact lv_iconst C.1 C.2.1 hd hv (h p e s m args below meth c H locs ls C hl (ok_c hx hs))
theorem g_bipush {i : Int} (hd : decode (mB k) pc = .ok (.bipush i, 2)) (hn : nx = pc + 2) (hv : (Int8.ofInt i).toInt32 = Int32.ofInt x) (hx : iR x) (h : Go G d k n0 n nx lv (.inr (.inl x) :: r) F I Q) : Go G d k n0 n pc lv (r) F I Q := by
  intro p e s m args below meth c H locs ls C hl hs
  subst hn
  exact lv_bipush C.1 C.2.1 hd hv (h p e s m args below meth c H locs ls C hl (ok_c hx hs))
theorem g_sipush {i : Int} (hd : decode (mB k) pc = .ok (.sipush i, 3)) (hn : nx = pc + 3) (hv : (Int16.ofInt i).toInt32 = Int32.ofInt x) (hx : iR x) (h : Go G d k n0 n nx lv (.inr (.inl x) :: r) F I Q) : Go G d k n0 n pc lv (r) F I Q := by
  intro p e s m args below meth c H locs ls C hl hs
  subst hn
  exact lv_sipush C.1 C.2.1 hd hv (h p e s m args below meth c H locs ls C hl (ok_c hx hs))
theorem g_lconst {i : Fin 2} (hd : decode (mB k) pc = .ok (.lconst i, 1)) (hn : nx = pc + 1) (hv : Int64.ofNat (i : Nat) = Int64.ofInt x) (hx : lR x) (h : Go G d k n0 n nx lv (.inr (.inr x) :: r) F I Q) : Go G d k n0 n pc lv (r) F I Q := by
  intro p e s m args below meth c H locs ls C hl hs
  subst hn
  exact lv_lconst C.1 C.2.1 hd hv (h p e s m args below meth c H locs ls C hl (ok_c hx hs))
theorem g_null (hd : decode (mB k) pc = .ok (.aconst_null, 1)) (hn : nx = pc + 1) (h : Go G d k n0 n nx lv (.inl none :: r) F I Q) : Go G d k n0 n pc lv (r) F I Q := by
  intro p e s m args below meth c H locs ls C hl hs
  subst hn
  exact lv_null C.1 C.2.1 hd (h p e s m args below meth c H locs ls C hl (ok_c trivial hs))
theorem g_iload_n {i : Fin 4} (hd : decode (mB k) pc = .ok (.iload_n i, 1)) (hn : nx = pc + 1) (hi : (i : Nat) = a) (hg : lg lv a = some (.inr (.inl x))) (h : Go G d k n0 n nx lv (.inr (.inl x) :: r) F I Q) : Go G d k n0 n pc lv (r) F I Q := by
  intro p e s m args below meth c H locs ls C hl hs
  subst hn
  obtain ⟨h1, h2⟩ := hl.2.2.2 a _ (lg_get hg)
  exact lv_iload_n C.1 C.2.1 hd hi h2 (h p e s m args below meth c H locs ls C hl (ok_c h1 hs))
theorem g_iload (hd : decode (mB k) pc = .ok (.iload a, 2)) (hn : nx = pc + 2) (hg : lg lv a = some (.inr (.inl x))) (h : Go G d k n0 n nx lv (.inr (.inl x) :: r) F I Q) : Go G d k n0 n pc lv (r) F I Q := by
  intro p e s m args below meth c H locs ls C hl hs
  subst hn
  obtain ⟨h1, h2⟩ := hl.2.2.2 a _ (lg_get hg)
  exact lv_iload C.1 C.2.1 hd h2 (h p e s m args below meth c H locs ls C hl (ok_c h1 hs))
theorem g_lload_n {i : Fin 4} (hd : decode (mB k) pc = .ok (.lload_n i, 1)) (hn : nx = pc + 1) (hi : (i : Nat) = a) (hg : lg lv a = some (.inr (.inr x))) (h : Go G d k n0 n nx lv (.inr (.inr x) :: r) F I Q) : Go G d k n0 n pc lv (r) F I Q := by
  intro p e s m args below meth c H locs ls C hl hs
  subst hn
  obtain ⟨h1, h2⟩ := hl.2.2.2 a _ (lg_get hg)
  exact lv_lload_n C.1 C.2.1 hd hi h2 (h p e s m args below meth c H locs ls C hl (ok_c h1 hs))
theorem g_lload (hd : decode (mB k) pc = .ok (.lload a, 2)) (hn : nx = pc + 2) (hg : lg lv a = some (.inr (.inr x))) (h : Go G d k n0 n nx lv (.inr (.inr x) :: r) F I Q) : Go G d k n0 n pc lv (r) F I Q := by
  intro p e s m args below meth c H locs ls C hl hs
  subst hn
  obtain ⟨h1, h2⟩ := hl.2.2.2 a _ (lg_get hg)
  exact lv_lload C.1 C.2.1 hd h2 (h p e s m args below meth c H locs ls C hl (ok_c h1 hs))
theorem g_aload_n {w : Option Nat} {i : Fin 4} (hd : decode (mB k) pc = .ok (.aload_n i, 1)) (hn : nx = pc + 1) (hi : (i : Nat) = a) (hg : lg lv a = some (.inl w)) (h : Go G d k n0 n nx lv (.inl w :: r) F I Q) : Go G d k n0 n pc lv (r) F I Q := by
  intro p e s m args below meth c H locs ls C hl hs
  subst hn
  obtain ⟨h1, h2⟩ := hl.2.2.2 a _ (lg_get hg)
  have h3 := h p e s m args below meth c H locs ls C hl (ok_c h1 hs)
  cases w with
  | none => exact lv_aload_nN C.1 C.2.1 hd hi h2 h3
  | some w => exact lv_aload_n C.1 C.2.1 hd hi h2 h3
theorem g_aload {w : Option Nat} (hd : decode (mB k) pc = .ok (.aload a, 2)) (hn : nx = pc + 2) (hg : lg lv a = some (.inl w)) (h : Go G d k n0 n nx lv (.inl w :: r) F I Q) : Go G d k n0 n pc lv (r) F I Q := by
  intro p e s m args below meth c H locs ls C hl hs
  subst hn
  obtain ⟨h1, h2⟩ := hl.2.2.2 a _ (lg_get hg)
  have h3 := h p e s m args below meth c H locs ls C hl (ok_c h1 hs)
  cases w with
  | none => exact lv_aloadN C.1 C.2.1 hd h2 h3
  | some w => exact lv_aload C.1 C.2.1 hd h2 h3
theorem g_istore_n {i : Fin 4} (hd : decode (mB k) pc = .ok (.istore_n i, 1)) (hn : nx = pc + 1) (hi : (i : Nat) = a) (ha : a < mL k) (h : ls1 lv a (.inr (.inl x)) (fun lv' => Go G d k n0 n nx lv' r F I Q)) : Go G d k n0 n pc lv (.inr (.inl x) :: r) F I Q := by
  intro p e s m args below meth c H locs ls C hl hs
  subst hn
  obtain ⟨lv', h1, h2, h3⟩ := ls1_spec h
  exact lv_istore_n (lv' := _) C.1 C.2.1 hd hi hl.has ha rfl (fun ls' hh => h1 p e s m args below meth c H locs ls' C (hl.set1 (ok_h hs) h2 hh h3) (ok_t hs))
theorem g_istore (hd : decode (mB k) pc = .ok (.istore a, 2)) (hn : nx = pc + 2) (ha : a < mL k) (h : ls1 lv a (.inr (.inl x)) (fun lv' => Go G d k n0 n nx lv' r F I Q)) : Go G d k n0 n pc lv (.inr (.inl x) :: r) F I Q := by
  intro p e s m args below meth c H locs ls C hl hs
  subst hn
  obtain ⟨lv', h1, h2, h3⟩ := ls1_spec h
  exact lv_istore (lv' := _) C.1 C.2.1 hd hl.has ha rfl (fun ls' hh => h1 p e s m args below meth c H locs ls' C (hl.set1 (ok_h hs) h2 hh h3) (ok_t hs))
theorem g_lstore_n {i : Fin 4} (hd : decode (mB k) pc = .ok (.lstore_n i, 1)) (hn : nx = pc + 1) (hi : (i : Nat) = a) (ha : a + 1 < mL k) (h : ls2 lv a (.inr (.inr x)) (fun lv' => Go G d k n0 n nx lv' r F I Q)) : Go G d k n0 n pc lv (.inr (.inr x) :: r) F I Q := by
  intro p e s m args below meth c H locs ls C hl hs
  subst hn
  obtain ⟨lv', h1, h2, h3⟩ := ls2_spec h
  exact lv_lstore_n (lv' := _) C.1 C.2.1 hd hi hl.has ha rfl (fun ls' hh => h1 p e s m args below meth c H locs ls' C (hl.set2 (ok_h hs) h2 hh h3) (ok_t hs))
theorem g_lstore (hd : decode (mB k) pc = .ok (.lstore a, 2)) (hn : nx = pc + 2) (ha : a + 1 < mL k) (h : ls2 lv a (.inr (.inr x)) (fun lv' => Go G d k n0 n nx lv' r F I Q)) : Go G d k n0 n pc lv (.inr (.inr x) :: r) F I Q := by
  intro p e s m args below meth c H locs ls C hl hs
  subst hn
  obtain ⟨lv', h1, h2, h3⟩ := ls2_spec h
  exact lv_lstore (lv' := _) C.1 C.2.1 hd hl.has ha rfl (fun ls' hh => h1 p e s m args below meth c H locs ls' C (hl.set2 (ok_h hs) h2 hh h3) (ok_t hs))
theorem g_astore_n {w : Option Nat} {i : Fin 4} (hd : decode (mB k) pc = .ok (.astore_n i, 1)) (hn : nx = pc + 1) (hi : (i : Nat) = a) (ha : a < mL k) (h : ls1 lv a (.inl w) (fun lv' => Go G d k n0 n nx lv' r F I Q)) : Go G d k n0 n pc lv (.inl w :: r) F I Q := by
  intro p e s m args below meth c H locs ls C hl hs
  subst hn
  obtain ⟨lv', h1, h2, h3⟩ := ls1_spec h
  cases w with
  | none => exact lv_astore_nN (lv' := _) C.1 C.2.1 hd hi hl.has ha rfl (fun ls' hh => h1 p e s m args below meth c H locs ls' C (hl.set1 (v := .inl none) trivial h2 hh h3) (ok_t hs))
  | some w => exact lv_astore_n (lv' := _) C.1 C.2.1 hd hi hl.has ha rfl (fun ls' hh => h1 p e s m args below meth c H locs ls' C (hl.set1 (v := .inl (some w)) trivial h2 hh h3) (ok_t hs))
theorem g_astore {w : Option Nat} (hd : decode (mB k) pc = .ok (.astore a, 2)) (hn : nx = pc + 2) (ha : a < mL k) (h : ls1 lv a (.inl w) (fun lv' => Go G d k n0 n nx lv' r F I Q)) : Go G d k n0 n pc lv (.inl w :: r) F I Q := by
  intro p e s m args below meth c H locs ls C hl hs
  subst hn
  obtain ⟨lv', h1, h2, h3⟩ := ls1_spec h
  cases w with
  | none => exact lv_astoreN (lv' := _) C.1 C.2.1 hd hl.has ha rfl (fun ls' hh => h1 p e s m args below meth c H locs ls' C (hl.set1 (v := .inl none) trivial h2 hh h3) (ok_t hs))
  | some w => exact lv_astore (lv' := _) C.1 C.2.1 hd hl.has ha rfl (fun ls' hh => h1 p e s m args below meth c H locs ls' C (hl.set1 (v := .inl (some w)) trivial h2 hh h3) (ok_t hs))
theorem g_iinc {z : Int} (hd : decode (mB k) pc = .ok (.iinc a z, 3)) (hn : nx = pc + 3) (ha : a < mL k) (hg : lg lv a = some (.inr (.inl x))) (h : ls1 lv a (.inr (.inl (wr (x + z)))) (fun lv' => Go G d k n0 n nx lv' r F I Q)) : Go G d k n0 n pc lv (r) F I Q := by
  intro p e s m args below meth c H locs ls C hl hs
  subst hn
  obtain ⟨lv', h1, h2, h3⟩ := ls1_spec h
  obtain ⟨j, hj⟩ := List.getElem?_of_mem (mem_asc.mpr ⟨_, lg_get hg, rfl⟩ : (a, tr G (.inr (.inl x))) ∈ asc G lv)
  exact lv_iinc (lv' := _) C.1 C.2.1 hd hl.has hj (n_add x z) ha rfl (fun ls' hh => h1 p e s m args below meth c H locs ls' C (hl.set1 (v := .inr (.inl (wr (x + z)))) (wr_R _) h2 hh h3) hs)
theorem g_iadd (hd : decode (mB k) pc = .ok (.iadd, 1)) (hn : nx = pc + 1) (h : Go G d k n0 n nx lv (.inr (.inl (wr (x + y))) :: r) F I Q) : Go G d k n0 n pc lv (.inr (.inl y) :: .inr (.inl x) :: r) F I Q := by
  intro p e s m args below meth c H locs ls C hl hs
  subst hn
  refine lv_iadd C.1 C.2.1 hd ?_
  rw [n_add]
  exact h p e s m args below meth c H locs ls C hl (ok_c (wr_R _) (ok_t (ok_t hs)))
theorem g_isub (hd : decode (mB k) pc = .ok (.isub, 1)) (hn : nx = pc + 1) (h : Go G d k n0 n nx lv (.inr (.inl (wr (x - y))) :: r) F I Q) : Go G d k n0 n pc lv (.inr (.inl y) :: .inr (.inl x) :: r) F I Q := by
  intro p e s m args below meth c H locs ls C hl hs
  subst hn
  refine lv_isub C.1 C.2.1 hd ?_
  rw [n_sub]
  exact h p e s m args below meth c H locs ls C hl (ok_c (wr_R _) (ok_t (ok_t hs)))
theorem g_imul (hd : decode (mB k) pc = .ok (.imul, 1)) (hn : nx = pc + 1) (h : Go G d k n0 n nx lv (.inr (.inl (wr (x * y))) :: r) F I Q) : Go G d k n0 n pc lv (.inr (.inl y) :: .inr (.inl x) :: r) F I Q := by
  intro p e s m args below meth c H locs ls C hl hs
  subst hn
  refine lv_imul C.1 C.2.1 hd ?_
  rw [n_mul]
  exact h p e s m args below meth c H locs ls C hl (ok_c (wr_R _) (ok_t (ok_t hs)))
theorem g_iand (hd : decode (mB k) pc = .ok (.iand, 1)) (hn : nx = pc + 1) (h : Go G d k n0 n nx lv (.inr (.inl (bI x y)) :: r) F I Q) : Go G d k n0 n pc lv (.inr (.inl y) :: .inr (.inl x) :: r) F I Q := by
  intro p e s m args below meth c H locs ls C hl hs
  subst hn
  refine lv_iand C.1 C.2.1 hd ?_
  rw [bi_b]
  exact h p e s m args below meth c H locs ls C hl (ok_c (toInt_R _) (ok_t (ok_t hs)))
theorem g_ior (hd : decode (mB k) pc = .ok (.ior, 1)) (hn : nx = pc + 1) (h : Go G d k n0 n nx lv (.inr (.inl (oI x y)) :: r) F I Q) : Go G d k n0 n pc lv (.inr (.inl y) :: .inr (.inl x) :: r) F I Q := by
  intro p e s m args below meth c H locs ls C hl hs
  subst hn
  refine lv_ior C.1 C.2.1 hd ?_
  rw [bi_o]
  exact h p e s m args below meth c H locs ls C hl (ok_c (toInt_R _) (ok_t (ok_t hs)))
theorem g_ixor (hd : decode (mB k) pc = .ok (.ixor, 1)) (hn : nx = pc + 1) (h : Go G d k n0 n nx lv (.inr (.inl (xI x y)) :: r) F I Q) : Go G d k n0 n pc lv (.inr (.inl y) :: .inr (.inl x) :: r) F I Q := by
  intro p e s m args below meth c H locs ls C hl hs
  subst hn
  refine lv_ixor C.1 C.2.1 hd ?_
  rw [bi_x]
  exact h p e s m args below meth c H locs ls C hl (ok_c (toInt_R _) (ok_t (ok_t hs)))
theorem g_ishl (hd : decode (mB k) pc = .ok (.ishl, 1)) (hn : nx = pc + 1) (h : Go G d k n0 n nx lv (.inr (.inl (slI x y)) :: r) F I Q) : Go G d k n0 n pc lv (.inr (.inl y) :: .inr (.inl x) :: r) F I Q := by
  intro p e s m args below meth c H locs ls C hl hs
  subst hn
  refine lv_ishl C.1 C.2.1 hd ?_
  rw [bi_sl]
  exact h p e s m args below meth c H locs ls C hl (ok_c (toInt_R _) (ok_t (ok_t hs)))
theorem g_ishr (hd : decode (mB k) pc = .ok (.ishr, 1)) (hn : nx = pc + 1) (h : Go G d k n0 n nx lv (.inr (.inl (srI x y)) :: r) F I Q) : Go G d k n0 n pc lv (.inr (.inl y) :: .inr (.inl x) :: r) F I Q := by
  intro p e s m args below meth c H locs ls C hl hs
  subst hn
  refine lv_ishr C.1 C.2.1 hd ?_
  rw [bi_sr]
  exact h p e s m args below meth c H locs ls C hl (ok_c (toInt_R _) (ok_t (ok_t hs)))
theorem g_iushr (hd : decode (mB k) pc = .ok (.iushr, 1)) (hn : nx = pc + 1) (h : Go G d k n0 n nx lv (.inr (.inl (suI x y)) :: r) F I Q) : Go G d k n0 n pc lv (.inr (.inl y) :: .inr (.inl x) :: r) F I Q := by
  intro p e s m args below meth c H locs ls C hl hs
  subst hn
  exact lv_iushr C.1 C.2.1 hd (bi_su x y) (h p e s m args below meth c H locs ls C hl (ok_c (toInt_R _) (ok_t (ok_t hs))))
theorem g_idiv (hd : decode (mB k) pc = .ok (.idiv, 1)) (hn : nx = pc + 1) (hy : y ≠ 0) (h : Go G d k n0 n nx lv (.inr (.inl (wr (x.tdiv y))) :: r) F I Q) : Go G d k n0 n pc lv (.inr (.inl y) :: .inr (.inl x) :: r) F I Q := by
  intro p e s m args below meth c H locs ls C hl hs
  subst hn
  refine lv_idiv C.1 C.2.1 hd (n_nz (ok_h hs) hy) ?_
  rw [n_div (ok_h (ok_t hs)) (ok_h hs)]
  exact h p e s m args below meth c H locs ls C hl (ok_c (wr_R _) (ok_t (ok_t hs)))
theorem g_irem (hd : decode (mB k) pc = .ok (.irem, 1)) (hn : nx = pc + 1) (hy : y ≠ 0) (h : Go G d k n0 n nx lv (.inr (.inl (x.tmod y)) :: r) F I Q) : Go G d k n0 n pc lv (.inr (.inl y) :: .inr (.inl x) :: r) F I Q := by
  intro p e s m args below meth c H locs ls C hl hs
  subst hn
  refine lv_irem C.1 C.2.1 hd (n_nz (ok_h hs) hy) ?_
  rw [n_rem (ok_h (ok_t hs)) (ok_h hs)]
  exact h p e s m args below meth c H locs ls C hl (ok_c (tmod_R (ok_h (ok_t hs)) (ok_h hs)) (ok_t (ok_t hs)))
theorem g_ineg (hd : decode (mB k) pc = .ok (.ineg, 1)) (hn : nx = pc + 1) (h : Go G d k n0 n nx lv (.inr (.inl (wr (- x))) :: r) F I Q) : Go G d k n0 n pc lv (.inr (.inl x) :: r) F I Q := by
  intro p e s m args below meth c H locs ls C hl hs
  subst hn
  refine lv_ineg C.1 C.2.1 hd ?_
  rw [n_neg]
  exact h p e s m args below meth c H locs ls C hl (ok_c (wr_R _) (ok_t hs))
theorem g_ladd (hd : decode (mB k) pc = .ok (.ladd, 1)) (hn : nx = pc + 1) (h : Go G d k n0 n nx lv (.inr (.inr (wl (x + y))) :: r) F I Q) : Go G d k n0 n pc lv (.inr (.inr y) :: .inr (.inr x) :: r) F I Q := by
  intro p e s m args below meth c H locs ls C hl hs
  subst hn
  refine lv_ladd C.1 C.2.1 hd ?_
  rw [l_add]
  exact h p e s m args below meth c H locs ls C hl (ok_c (wl_R _) (ok_t (ok_t hs)))
theorem g_lsub (hd : decode (mB k) pc = .ok (.lsub, 1)) (hn : nx = pc + 1) (h : Go G d k n0 n nx lv (.inr (.inr (wl (x - y))) :: r) F I Q) : Go G d k n0 n pc lv (.inr (.inr y) :: .inr (.inr x) :: r) F I Q := by
  intro p e s m args below meth c H locs ls C hl hs
  subst hn
  refine lv_lsub C.1 C.2.1 hd ?_
  rw [l_sub]
  exact h p e s m args below meth c H locs ls C hl (ok_c (wl_R _) (ok_t (ok_t hs)))
theorem g_lmul (hd : decode (mB k) pc = .ok (.lmul, 1)) (hn : nx = pc + 1) (h : Go G d k n0 n nx lv (.inr (.inr (wl (x * y))) :: r) F I Q) : Go G d k n0 n pc lv (.inr (.inr y) :: .inr (.inr x) :: r) F I Q := by
  intro p e s m args below meth c H locs ls C hl hs
  subst hn
  refine lv_lmul C.1 C.2.1 hd ?_
  rw [l_mul]
  exact h p e s m args below meth c H locs ls C hl (ok_c (wl_R _) (ok_t (ok_t hs)))
theorem g_land (hd : decode (mB k) pc = .ok (.land, 1)) (hn : nx = pc + 1) (h : Go G d k n0 n nx lv (.inr (.inr (bL x y)) :: r) F I Q) : Go G d k n0 n pc lv (.inr (.inr y) :: .inr (.inr x) :: r) F I Q := by
  intro p e s m args below meth c H locs ls C hl hs
  subst hn
  refine lv_land C.1 C.2.1 hd ?_
  rw [bl_b]
  exact h p e s m args below meth c H locs ls C hl (ok_c (toInt_LR _) (ok_t (ok_t hs)))
theorem g_lor (hd : decode (mB k) pc = .ok (.lor, 1)) (hn : nx = pc + 1) (h : Go G d k n0 n nx lv (.inr (.inr (oL x y)) :: r) F I Q) : Go G d k n0 n pc lv (.inr (.inr y) :: .inr (.inr x) :: r) F I Q := by
  intro p e s m args below meth c H locs ls C hl hs
  subst hn
  refine lv_lor C.1 C.2.1 hd ?_
  rw [bl_o]
  exact h p e s m args below meth c H locs ls C hl (ok_c (toInt_LR _) (ok_t (ok_t hs)))
theorem g_lshl (hd : decode (mB k) pc = .ok (.lshl, 1)) (hn : nx = pc + 1) (h : Go G d k n0 n nx lv (.inr (.inr (slL x y)) :: r) F I Q) : Go G d k n0 n pc lv (.inr (.inl y) :: .inr (.inr x) :: r) F I Q := by
  intro p e s m args below meth c H locs ls C hl hs
  subst hn
  exact lv_lshl C.1 C.2.1 hd (bl_sl x y) (h p e s m args below meth c H locs ls C hl (ok_c (toInt_LR _) (ok_t (ok_t hs))))
theorem g_lshr (hd : decode (mB k) pc = .ok (.lshr, 1)) (hn : nx = pc + 1) (h : Go G d k n0 n nx lv (.inr (.inr (srL x y)) :: r) F I Q) : Go G d k n0 n pc lv (.inr (.inl y) :: .inr (.inr x) :: r) F I Q := by
  intro p e s m args below meth c H locs ls C hl hs
  subst hn
  exact lv_lshr C.1 C.2.1 hd (bl_sr x y) (h p e s m args below meth c H locs ls C hl (ok_c (toInt_LR _) (ok_t (ok_t hs))))
theorem g_lneg (hd : decode (mB k) pc = .ok (.lneg, 1)) (hn : nx = pc + 1) (h : Go G d k n0 n nx lv (.inr (.inr (wl (- x))) :: r) F I Q) : Go G d k n0 n pc lv (.inr (.inr x) :: r) F I Q := by
  intro p e s m args below meth c H locs ls C hl hs
  subst hn
  refine lv_lneg C.1 C.2.1 hd ?_
  rw [l_neg]
  exact h p e s m args below meth c H locs ls C hl (ok_c (wl_R _) (ok_t hs))
theorem g_ldiv (hd : decode (mB k) pc = .ok (.ldiv, 1)) (hn : nx = pc + 1) (hy : y ≠ 0) (h : Go G d k n0 n nx lv (.inr (.inr (wl (x.tdiv y))) :: r) F I Q) : Go G d k n0 n pc lv (.inr (.inr y) :: .inr (.inr x) :: r) F I Q := by
  intro p e s m args below meth c H locs ls C hl hs
  subst hn
  refine lv_ldiv C.1 C.2.1 hd (l_nz (ok_h hs) hy) ?_
  rw [l_div (ok_h (ok_t hs)) (ok_h hs)]
  exact h p e s m args below meth c H locs ls C hl (ok_c (wl_R _) (ok_t (ok_t hs)))
theorem g_lcmp (hd : decode (mB k) pc = .ok (.lcmp, 1)) (hn : nx = pc + 1) (h : Go G d k n0 n nx lv (.inr (.inl (lcm x y)) :: r) F I Q) : Go G d k n0 n pc lv (.inr (.inr y) :: .inr (.inr x) :: r) F I Q := by
  intro p e s m args below meth c H locs ls C hl hs
  subst hn
  refine W.lcmp C.1 C.2.1 hd ?_
  rw [n_cmp (ok_h (ok_t hs)) (ok_h hs)]
  exact h p e s m args below meth c H locs ls C hl (ok_c (lcm_R x y) (ok_t (ok_t hs)))
theorem g_i2l (hd : decode (mB k) pc = .ok (.i2l, 1)) (hn : nx = pc + 1) (h : Go G d k n0 n nx lv (.inr (.inr x) :: r) F I Q) : Go G d k n0 n pc lv (.inr (.inl x) :: r) F I Q := by
  intro p e s m args below meth c H locs ls C hl hs
  subst hn
  exact lv_i2l C.1 C.2.1 hd (n_i2l (ok_h hs)) (h p e s m args below meth c H locs ls C hl (ok_c (by have h9 : iR x := ok_h hs; unfold iR at h9; show lR x; unfold lR; omega) (ok_t hs)))
theorem g_l2i (hd : decode (mB k) pc = .ok (.l2i, 1)) (hn : nx = pc + 1) (h : Go G d k n0 n nx lv (.inr (.inl (wr x)) :: r) F I Q) : Go G d k n0 n pc lv (.inr (.inr x) :: r) F I Q := by
  intro p e s m args below meth c H locs ls C hl hs
  subst hn
  exact lv_l2i C.1 C.2.1 hd (n_l2i (ok_h hs)) (h p e s m args below meth c H locs ls C hl (ok_c (wr_R _) (ok_t hs)))
theorem g_i2b (hd : decode (mB k) pc = .ok (.i2b, 1)) (hn : nx = pc + 1) (h : Go G d k n0 n nx lv (.inr (.inl (wb x)) :: r) F I Q) : Go G d k n0 n pc lv (.inr (.inl x) :: r) F I Q := by
  intro p e s m args below meth c H locs ls C hl hs
  subst hn
  exact lv_i2b C.1 C.2.1 hd (n_i2b (ok_h hs)) (h p e s m args below meth c H locs ls C hl (ok_c (wb_R _) (ok_t hs)))
theorem g_i2s (hd : decode (mB k) pc = .ok (.i2s, 1)) (hn : nx = pc + 1) (h : Go G d k n0 n nx lv (.inr (.inl (wsh x)) :: r) F I Q) : Go G d k n0 n pc lv (.inr (.inl x) :: r) F I Q := by
  intro p e s m args below meth c H locs ls C hl hs
  subst hn
  exact lv_i2s C.1 C.2.1 hd (n_i2s (ok_h hs)) (h p e s m args below meth c H locs ls C hl (ok_c (wsh_R _) (ok_t hs)))
theorem g_i2c (hd : decode (mB k) pc = .ok (.i2c, 1)) (hn : nx = pc + 1) (h : Go G d k n0 n nx lv (.inr (.inl (x % 65536)) :: r) F I Q) : Go G d k n0 n pc lv (.inr (.inl x) :: r) F I Q := by
  intro p e s m args below meth c H locs ls C hl hs
  subst hn
  exact lv_i2c C.1 C.2.1 hd (n_i2c (ok_h hs)) (h p e s m args below meth c H locs ls C hl (ok_c (by show iR _; unfold iR; omega) (ok_t hs)))
theorem g_dupI (hd : decode (mB k) pc = .ok (.dup, 1)) (hn : nx = pc + 1) (h : Go G d k n0 n nx lv (.inr (.inl x) :: .inr (.inl x) :: r) F I Q) : Go G d k n0 n pc lv (.inr (.inl x) :: r) F I Q := by
  intro p e s m args below meth c H locs ls C hl hs
  subst hn
  exact lv_dup C.1 C.2.1 hd (by rw [ctg_tr]; rfl) (h p e s m args below meth c H locs ls C hl (ok_c (ok_h hs) hs))
theorem g_dupA {w : Option Nat} (hd : decode (mB k) pc = .ok (.dup, 1)) (hn : nx = pc + 1) (h : Go G d k n0 n nx lv (.inl w :: .inl w :: r) F I Q) : Go G d k n0 n pc lv (.inl w :: r) F I Q := by
  intro p e s m args below meth c H locs ls C hl hs
  subst hn
  exact lv_dup C.1 C.2.1 hd (by rw [ctg_tr]; rfl) (h p e s m args below meth c H locs ls C hl (ok_c (ok_h hs) hs))
theorem g_dup2 {w : Option Nat} (hd : decode (mB k) pc = .ok (.dup2, 1)) (hn : nx = pc + 1) (h : Go G d k n0 n nx lv (.inr (.inl x) :: .inl w :: .inr (.inl x) :: .inl w :: r) F I Q) : Go G d k n0 n pc lv (.inr (.inl x) :: .inl w :: r) F I Q := by
  intro p e s m args below meth c H locs ls C hl hs
  subst hn
  exact lv_dup2_11 C.1 C.2.1 hd (by rw [ctg_tr]; rfl) (by rw [ctg_tr]; rfl) (h p e s m args below meth c H locs ls C hl (ok_c (ok_h hs) (ok_c (ok_h (ok_t hs)) hs)))
theorem g_popI (hd : decode (mB k) pc = .ok (.pop, 1)) (hn : nx = pc + 1) (h : Go G d k n0 n nx lv (r) F I Q) : Go G d k n0 n pc lv (.inr (.inl x) :: r) F I Q := by
  intro p e s m args below meth c H locs ls C hl hs
  subst hn
  exact lv_pop C.1 C.2.1 hd (by rw [ctg_tr]; rfl) (h p e s m args below meth c H locs ls C hl (ok_t hs))
theorem g_popA {w : Option Nat} (hd : decode (mB k) pc = .ok (.pop, 1)) (hn : nx = pc + 1) (h : Go G d k n0 n nx lv (r) F I Q) : Go G d k n0 n pc lv (.inl w :: r) F I Q := by
  intro p e s m args below meth c H locs ls C hl hs
  subst hn
  exact lv_pop C.1 C.2.1 hd (by rw [ctg_tr]; rfl) (h p e s m args below meth c H locs ls C hl (ok_t hs))
theorem g_pop2 (hd : decode (mB k) pc = .ok (.pop2, 1)) (hn : nx = pc + 1) (h : Go G d k n0 n nx lv (r) F I Q) : Go G d k n0 n pc lv (.inr (.inr x) :: r) F I Q := by
  intro p e s m args below meth c H locs ls C hl hs
  subst hn
  exact lv_pop2_2 C.1 C.2.1 hd (by rw [ctg_tr]; rfl) (h p e s m args below meth c H locs ls C hl (ok_t hs))
theorem g_goto {off : Int} (hd : decode (mB k) pc = .ok (.goto off, 3)) (ht : (pc : Int) + off = (a : Int)) (h : Go G d k n0 n a lv (r) F I Q) : Go G d k n0 n pc lv (r) F I Q := by
  intro p e s m args below meth c H locs ls C hl hs
  exact lv_goto C.1 C.2.1 hd ht (h p e s m args below meth c H locs ls C hl hs)
theorem g_icmp {cn : Jvm.ClassFile.Cond} {off : Int} (hd : decode (mB k) pc = .ok (.if_icmp cn off, 3)) (hn : nx = pc + 3) (ht : (pc : Int) + off = (a : Int)) (h : br cn x y (Go G d k n0 n a lv (r) F I Q) (Go G d k n0 n nx lv (r) F I Q)) : Go G d k n0 n pc lv (.inr (.inl y) :: .inr (.inl x) :: r) F I Q := by
  subst hn
  intro p e s m args below meth c H locs ls C hl hs
  have hx : iR x := ok_h (ok_t hs)
  have hy : iR y := ok_h hs
  have hr := ok_t (ok_t hs)
  cases cn with
  | eq => exact lv_icmp_eq C.1 C.2.1 hd ht (fun z => h.1 ((n_eq hx hy).mp z) p e s m args below meth c H locs ls C hl hr) (fun z => h.2 (fun q => z ((n_eq hx hy).mpr q)) p e s m args below meth c H locs ls C hl hr)
  | ne => exact lv_icmp_ne C.1 C.2.1 hd ht (fun z => h.1 (fun q => z ((n_eq hx hy).mpr q)) p e s m args below meth c H locs ls C hl hr) (fun z => h.2 ((n_eq hx hy).mp z) p e s m args below meth c H locs ls C hl hr)
  | lt => exact lv_icmp_lt C.1 C.2.1 hd ht (fun z => h.1 ((n_lt hx hy).mp z) p e s m args below meth c H locs ls C hl hr) (fun z => h.2 (fun q => z ((n_lt hx hy).mpr q)) p e s m args below meth c H locs ls C hl hr)
  | ge => exact lv_icmp_ge C.1 C.2.1 hd ht (fun z => h.1 ((n_le hy hx).mp z) p e s m args below meth c H locs ls C hl hr) (fun z => h.2 (fun q => z ((n_le hy hx).mpr q)) p e s m args below meth c H locs ls C hl hr)
  | gt => exact lv_icmp_gt C.1 C.2.1 hd ht (fun z => h.1 ((n_lt hy hx).mp z) p e s m args below meth c H locs ls C hl hr) (fun z => h.2 (fun q => z ((n_lt hy hx).mpr q)) p e s m args below meth c H locs ls C hl hr)
  | le => exact lv_icmp_le C.1 C.2.1 hd ht (fun z => h.1 ((n_le hx hy).mp z) p e s m args below meth c H locs ls C hl hr) (fun z => h.2 (fun q => z ((n_le hx hy).mpr q)) p e s m args below meth c H locs ls C hl hr)
theorem g_if {cn : Jvm.ClassFile.Cond} {off : Int} (hd : decode (mB k) pc = .ok (.ifCond cn off, 3)) (hn : nx = pc + 3) (ht : (pc : Int) + off = (a : Int)) (h : br cn x 0 (Go G d k n0 n a lv (r) F I Q) (Go G d k n0 n nx lv (r) F I Q)) : Go G d k n0 n pc lv (.inr (.inl x) :: r) F I Q := by
  subst hn
  intro p e s m args below meth c H locs ls C hl hs
  have hx : iR x := ok_h hs
  have hy : iR 0 := iR0
  have hr := ok_t hs
  cases cn with
  | eq => exact lv_if_eq C.1 C.2.1 hd ht (fun z => h.1 ((n_eq hx hy).mp z) p e s m args below meth c H locs ls C hl hr) (fun z => h.2 (fun q => z ((n_eq hx hy).mpr q)) p e s m args below meth c H locs ls C hl hr)
  | ne => exact lv_if_ne C.1 C.2.1 hd ht (fun z => h.1 (fun q => z ((n_eq hx hy).mpr q)) p e s m args below meth c H locs ls C hl hr) (fun z => h.2 ((n_eq hx hy).mp z) p e s m args below meth c H locs ls C hl hr)
  | lt => exact lv_if_lt C.1 C.2.1 hd ht (fun z => h.1 ((n_lt hx hy).mp z) p e s m args below meth c H locs ls C hl hr) (fun z => h.2 (fun q => z ((n_lt hx hy).mpr q)) p e s m args below meth c H locs ls C hl hr)
  | ge => exact lv_if_ge C.1 C.2.1 hd ht (fun z => h.1 ((n_le hy hx).mp z) p e s m args below meth c H locs ls C hl hr) (fun z => h.2 (fun q => z ((n_le hy hx).mpr q)) p e s m args below meth c H locs ls C hl hr)
  | gt => exact lv_if_gt C.1 C.2.1 hd ht (fun z => h.1 ((n_lt hy hx).mp z) p e s m args below meth c H locs ls C hl hr) (fun z => h.2 (fun q => z ((n_lt hy hx).mpr q)) p e s m args below meth c H locs ls C hl hr)
  | le => exact lv_if_le C.1 C.2.1 hd ht (fun z => h.1 ((n_le hx hy).mp z) p e s m args below meth c H locs ls C hl hr) (fun z => h.2 (fun q => z ((n_le hx hy).mpr q)) p e s m args below meth c H locs ls C hl hr)
theorem g_ifnullN {off : Int} (hd : decode (mB k) pc = .ok (.ifnull off, 3)) (ht : (pc : Int) + off = (a : Int)) (h : Go G d k n0 n a lv (r) F I Q) : Go G d k n0 n pc lv (.inl none :: r) F I Q := by
  intro p e s m args below meth c H locs ls C hl hs
  exact lv_ifnullN C.1 C.2.1 hd ht (h p e s m args below meth c H locs ls C hl (ok_t hs))
theorem g_ifnullS {off : Int} {w : Nat} (hd : decode (mB k) pc = .ok (.ifnull off, 3)) (hn : nx = pc + 3) (h : Go G d k n0 n nx lv (r) F I Q) : Go G d k n0 n pc lv (.inl (some w) :: r) F I Q := by
  intro p e s m args below meth c H locs ls C hl hs
  subst hn
  exact lv_ifnull C.1 C.2.1 hd (h p e s m args below meth c H locs ls C hl (ok_t hs))
theorem g_ifnonnullS {off : Int} {w : Nat} (hd : decode (mB k) pc = .ok (.ifnonnull off, 3)) (ht : (pc : Int) + off = (a : Int)) (h : Go G d k n0 n a lv (r) F I Q) : Go G d k n0 n pc lv (.inl (some w) :: r) F I Q := by
  intro p e s m args below meth c H locs ls C hl hs
  exact lv_ifnonnull C.1 C.2.1 hd ht (h p e s m args below meth c H locs ls C hl (ok_t hs))
theorem g_ifnonnullN {off : Int} (hd : decode (mB k) pc = .ok (.ifnonnull off, 3)) (hn : nx = pc + 3) (h : Go G d k n0 n nx lv (r) F I Q) : Go G d k n0 n pc lv (.inl none :: r) F I Q := by
  intro p e s m args below meth c H locs ls C hl hs
  subst hn
  exact lv_ifnonnullN C.1 C.2.1 hd (h p e s m args below meth c H locs ls C hl (ok_t hs))
end PURE
