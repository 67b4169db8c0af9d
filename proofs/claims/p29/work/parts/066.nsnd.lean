/-! new cells; copies; what was there before, for the walking machine. Own work. -/
theorem sz_s (n : Nat) : sz (n + 1) = sz n + (lay n).2 := by
  unfold sz
  rw [List.range_succ, List.map_append, List.sum_append]
  simp
theorem sz_le {a b : Nat} (h : a ≤ b) : sz a ≤ sz b := by
  induction h with
  | refl => exact Nat.le_refl _
  | step _ ih => rw [sz_s]; omega
theorem cA_lt {a : Nat} (h : a < 13) : clA a = clC a := by unfold clA; rw [if_pos h]
section NEW
variable {G : pG} {d k n0 n pc nx a b i q m : Nat} {lv : List (Option pV)} {r : List pV} {F : pF} {I : pI} {Q : Option pV → pF → pI → Prop} {x y z : Int} {v : pV}
theorem zI_ne {I : pI} {q k : Nat} (h : k ≠ q) (j : Nat) : zI I q k j = I k j := by unfold zI; rw [if_neg h]
theorem zF_ne {F : pF} {q k : Nat} (h : k ≠ q) (j : Nat) : zF F q k j = F k j := by unfold zF; rw [if_neg h]
theorem zI_eq (I : pI) (q j : Nat) : zI I q q j = 0 := by unfold zI; rw [if_pos rfl]
theorem zF_eq (F : pF) (q j : Nat) : zF F q q j = none := by unfold zF; rw [if_pos rfl]
theorem wL_z (G : pG) (n : Nat) (F : pF) (I : pI) : wL G n (zF F n) (zI I n) = wL G n F I := by
  apply List.ext_getElem?
  intro i
  by_cases hi : i < n
  · rw [wL_at _ _ _ hi, wL_at _ _ _ hi, cE_ne (zF_ne (by omega)) (zI_ne (by omega))]
  · rw [List.getElem?_eq_none (by rw [wL_len]; omega), List.getElem?_eq_none (by rw [wL_len]; omega)]
/-- a new cell stands at the next place -/
theorem new_at {p : Program} {e : Env} {s : State} {mm : MethodId} {args : Array Value} {below : List Frame} {meth : Method} {c : Code} {H H1 : Heap} {locs : List Loc} {ls : Array Slot} {st : List pV} {pc' qq sl : Nat} {e0 : va_E}
    (C : Ct G d k n0 n F I p e s mm args meth c H locs) (hl : Hs G k ls lv) (hs : ∀ v ∈ st, okV v) (h : Go G d k n0 (n + 1) pc' lv (.inl (some n) :: st) (zF F n) (zI I n) Q)
    (h1 : n + 1 ≤ n0 + alc k) (hx : n + 1 ≤ EXT) (he : cE G (zF F n) (zI I n) n = e0) (hsl : (lay n).2 = sl)
    (hP : va_P (gD G) vwCl (wL G n F I ++ [(qq, e0)]) H1) (hD : va_D (A0 G) (wL G n F I ++ [(qq, e0)])) (hS : va_S (A0 G) s.heap H1 locs) :
    W p (gL G) e (Rm d k n0) s mm args below meth c H1 locs (n - n0 + 1) (sz n - sz n0 + sl) (MQ below (fun a st o t => Qc G (n0 + alc k) Q a st o t ∧ va_F (A0 G) st t) args s (alc k) (sz (n0 + alc k) - sz n0) (A0 G)) (F0 mm pc' ls (.ref qq :: st.map (tr G))) := by
  have hn0 := C.n0
  have hz0 := C.sz0
  refine W_sz fun hz => ?_
  have hat : (wL G n F I ++ [(qq, e0)])[n]? = some (qq, e0) := by rw [List.getElem?_append_right (by rw [wL_len]; omega), wL_len]; simp
  have hq1 : qq < H1.size := (hP n _ hat).lt
  have hq2 : gH G ≤ qq := hD.2 n _ hat
  have hqq : qq = gH G + n := by
    by_cases hlt : qq < gH G + n
    · exfalso
      have hi : qq - gH G < n := by omega
      have h5 : (wL G n F I ++ [(qq, e0)])[qq - gH G]? = some (gH G + (qq - gH G), cE G F I (qq - gH G)) := by
        rw [List.getElem?_append_left (by rw [wL_len]; exact hi)]
        exact wL_at G F I hi
      have := hD.1 _ _ _ _ h5 hat (by show gH G + (qq - gH G) = qq; omega)
      omega
    · omega
  subst hqq
  have hw : wL G (n + 1) (zF F n) (zI I n) = wL G n F I ++ [(gH G + n, e0)] := by rw [wL_push, wL_z, he]
  rw [← hw] at hP
  have hz' : H1.size = gH G + (n + 1) := sz_of (n := n + 1) C.sz0 (by omega) hP hS (by omega)
  have e1 : n - n0 + 1 = n + 1 - n0 := by omega
  have e2 : sz n - sz n0 + sl = sz (n + 1) - sz n0 := by
    have := sz_le hn0
    rw [sz_s]
    omega
  rw [e1, e2]
  have e3 : Value.ref (gH G + n) :: st.map (tr G) = (Sum.inl (some n) :: st : List pV).map (tr G) := by
    show _ = Value.ref (ad G n) :: _
    rw [ad_w G (by omega)]
  rw [e3]
  refine h p e s mm args below meth c H1 locs ls (C.mv (by omega) h1 ⟨hz', hP, hx, ?_, ?_⟩ hS) hl (ok_c trivial hs)
  · intro kk j
    unfold zI
    split
    · exact iR0
    · exact C.wd.R kk j
  · intro kk hk j
    unfold zI
    split
    · omega
    · exact C.wd.by kk hk j
theorem fr_ty : ∀ c, c < 13 → ∀ j, j < clN c → defaultValue (tyF c j) = if frf c j = true then Value.null else Value.int 0 := by decide +kernel
theorem g_new (hd : decode (mB k) pc = .ok (.new i, 3)) (hn : nx = pc + 3) (ha : a < 13) (hcl : Jvm.Cond.classLink (mY k).cls i (clA a) ∈ goods) (hin : Jvm.Cond.instantiable (clC a) (clN a) ∈ goods) (hini : Jvm.Cond.initialized (clC a) ∈ goods)
    (hq : lay n = (a, b)) (h1 : n + 1 ≤ n0 + alc k) (hx : n + 1 ≤ EXT)
    (h : Go G d k n0 (n + 1) nx lv (.inl (some n) :: r) (zF F n) (zI I n) Q) : Go G d k n0 n pc lv r F I Q := by
  intro p e s mm args below meth c H locs ls C hl hs
  subst hn
  have hm := lay_cl hq ha
  subst hm
  have hce : cE G (zF F n) (zI I n) n = .inr (a, (List.range (clN a)).map (fun j => if frf a j = true then Value.null else Value.int 0)) := by
    rw [cE_obj hq ha]
    refine congrArg (fun w => Sum.inr (a, w)) (List.map_congr_left fun j _ => ?_)
    unfold fV
    rw [zF_eq, zI_eq]
    rfl
  have hs1 := sz_le (show n + 1 ≤ n0 + alc k from h1)
  have hs2 := sz_s n
  rw [hq] at hs2
  have hs3 := sz_le C.n0
  refine va_new (D := gD G) (cl := vwCl) C.1 C.2.1 C.hts (cl_in a ha) (tyF a) (cl_ty a ha) C.own (C.hts _ (cA_lt ha ▸ hcl)) (C.hts _ hin) (C.hts _ hini) C.kx.K0 C.wd.2.1 (wL_D G n F I) C.S (fun q hq => Nat.le_trans (by rw [C.sz0]; omega) hq) (cl_get ha)
    (fs := (List.range (clN a)).map (fun j => if frf a j = true then Value.null else Value.int 0)) (fun j hj => ?_) ?_ ?_ hd (fun qq H1 hP hD hS => new_at C hl hs h h1 hx hce (by rw [hq]) hP hD hS)
  · rw [fr_ty a ha j hj]
    simp [vp_V, hj]
  · show n - n0 + 1 ≤ alc k
    have := C.n0
    omega
  · show sz n - sz n0 + clN a ≤ sz (n0 + alc k) - sz n0
    simp only at hs2
    omega
theorem nn_i {x : Int} (hx : iR x) (h0 : 0 ≤ x) : ¬ Int32.ofInt x < 0 := by rw [z0, n_lt hx iR0]; omega
/-- the class of a row is the one that the tables name -/
theorem ra_uniq {s : State} {c1 c2 : ClassId} {t : FieldType} (h1 : va_RA s c1 t) (h2 : va_RA s c2 t) : c1 = c2 := by
  cases t <;> first
    | (obtain ⟨_, _, _, _, _, e1⟩ := h1; obtain ⟨_, _, _, _, _, e2⟩ := h2; exact Option.some.inj (e1.symm.trans e2))
    | exact Option.some.inj (h1.symm.trans h2)
theorem g_newa {at_ : ArrayType} (hd : decode (mB k) pc = .ok (.newarray at_, 2)) (hn : nx = pc + 2) (hat : (at_ = .int ∧ a = 100) ∨ (at_ = .byte ∧ a = 101)) (hac : Jvm.Cond.arrayClass (newarray.typeOf at_) ∈ goods)
    (hq : lay n = (a, x.toNat)) (h0 : 0 ≤ x) (hx2 : x < 100000) (h1 : n + 1 ≤ n0 + alc k) (hx : n + 1 ≤ EXT)
    (h : Go G d k n0 (n + 1) nx lv (.inl (some n) :: r) (zF F n) (zI I n) Q) : Go G d k n0 n pc lv (.inr (.inl x) :: r) F I Q := by
  intro p e s mm args below meth c H locs ls C hl hs
  subst hn
  have hxr : iR x := ok_h hs
  have hs1 := sz_le (show n + 1 ≤ n0 + alc k from h1)
  have hs2 := sz_s n
  rw [hq] at hs2
  have hs3 := sz_le C.n0
  have hcells : n - n0 + 1 ≤ (Rm d k n0).cells := by
    show n - n0 + 1 ≤ alc k
    have := C.n0
    omega
  have hslots : sz n - sz n0 + x.toNat ≤ (Rm d k n0).slots := by
    show sz n - sz n0 + x.toNat ≤ sz (n0 + alc k) - sz n0
    simp only at hs2
    omega
  rcases hat with ⟨rfl, rfl⟩ | ⟨rfl, rfl⟩
  · have hce : cE G (zF F n) (zI I n) n = .inl (gC G 100, (x.toNat, .inl (fun _ => 0))) := by
      rw [cE_i hq]
      refine congrArg (fun g => Sum.inl (gC G 100, x.toNat, Sum.inl g)) (funext fun j => ?_)
      rw [zI_eq]
      rfl
    refine va_newa (D := gD G) (cl := vwCl) (atype := .int) (ty := .int) C.1 C.2.1 (C.hts _ hac) rfl C.kx.K0 C.wd.2.1 (wL_D G n F I) C.S (fun q hq => Nat.le_trans (by rw [C.sz0]; omega) hq)
      (n := Int32.ofInt x) (a0 := (x.toNat, .inl (fun _ => 0))) (fun cA => rfl) (nn_i hxr h0) (n_cl hxr) (by show x.toNat * 4 ≤ 536870912; omega) hcells hslots hd (fun qq cA H1 hK hP hD hS => ?_)
    have hc : cA = gC G 100 := ra_uniq (hK.2 0 (cA, .int) rfl).2 (C.kx.arr 100 (kd 100 (by omega))).2
    subst hc
    exact new_at C hl (ok_t hs) h h1 hx hce (by rw [hq]) hP hD hS
  · have hce : cE G (zF F n) (zI I n) n = .inl (gC G 101, (x.toNat, .inl (fun _ => 0))) := by
      rw [cE_b hq]
      refine congrArg (fun g => Sum.inl (gC G 101, x.toNat, Sum.inl g)) (funext fun j => ?_)
      rw [zI_eq]
      rfl
    refine va_newa (D := gD G) (cl := vwCl) (atype := .byte) (ty := .byte) C.1 C.2.1 (C.hts _ hac) rfl C.kx.K0 C.wd.2.1 (wL_D G n F I) C.S (fun q hq => Nat.le_trans (by rw [C.sz0]; omega) hq)
      (n := Int32.ofInt x) (a0 := (x.toNat, .inl (fun _ => 0))) (fun cA => rfl) (nn_i hxr h0) (n_cl hxr) (by show x.toNat * 1 ≤ 536870912; omega) hcells hslots hd (fun qq cA H1 hK hP hD hS => ?_)
    have hc : cA = gC G 101 := ra_uniq (hK.2 0 (cA, .byte) rfl).2 (C.kx.arr 101 (kd 101 (by omega))).2
    subst hc
    exact new_at C hl (ok_t hs) h h1 hx hce (by rw [hq]) hP hD hS
theorem g_anew (hd : decode (mB k) pc = .ok (.anewarray i, 3)) (hn : nx = pc + 3) (ha : a ∈ [204, 205, 207, 299]) (hcl : Jvm.Cond.classLink (mY k).cls i (clA a) ∈ goods)
    (hq : lay n = (a, x.toNat)) (h0 : 0 ≤ x) (hx2 : x < 100000) (h1 : n + 1 ≤ n0 + alc k) (hx : n + 1 ≤ EXT)
    (h : Go G d k n0 (n + 1) nx lv (.inl (some n) :: r) (zF F n) (zI I n) Q) : Go G d k n0 n pc lv (.inr (.inl x) :: r) F I Q := by
  intro p e s mm args below meth c H locs ls C hl hs
  subst hn
  have hxr : iR x := ok_h hs
  have hs1 := sz_le (show n + 1 ≤ n0 + alc k from h1)
  have hs2 := sz_s n
  rw [hq] at hs2
  have hs3 := sz_le C.n0
  have hcells : n - n0 + 1 ≤ (Rm d k n0).cells := by
    show n - n0 + 1 ≤ alc k
    have := C.n0
    omega
  have hslots : sz n - sz n0 + x.toNat ≤ (Rm d k n0).slots := by
    show sz n - sz n0 + x.toNat ≤ sz (n0 + alc k) - sz n0
    simp only at hs2
    omega
  obtain ⟨hk, h200, -⟩ := tyA_r ha
  have hty : tyA a = .object (clA a) := by
    simp at ha
    rcases ha with rfl | rfl | rfl | rfl <;> rfl
  have hao : va_AO (clA a) s := by
    obtain ⟨g1, g2, g3, g4⟩ := C.kx.ao
    simp at ha
    rcases ha with rfl | rfl | rfl | rfl
    · exact g1
    · exact g2
    · exact g3
    · exact g4
  have hce : cE G (zF F n) (zI I n) n = .inl (gC G a, (x.toNat, .inr (.inr (.inr (.inr (fun _ => none)))))) := by
    rw [cE_r hq h200]
    refine congrArg (fun g => Sum.inl (gC G a, x.toNat, Sum.inr (Sum.inr (Sum.inr (Sum.inr g))))) (funext fun j => ?_)
    rw [zF_eq]
    rfl
  refine va_newq (D := gD G) (cl := vwCl) C.1 C.2.1 C.own (C.hts _ hcl) hao C.kx.K0 C.wd.2.1 (wL_D G n F I) C.S (fun q hq => Nat.le_trans (by rw [C.sz0]; omega) hq)
    (n := Int32.ofInt x) (nn_i hxr h0) (n_cl hxr) (by omega) hcells hslots hd (fun qq cA H1 hK hP hD hS => ?_)
  have h9 := (C.kx.arr a hk).2
  rw [hty] at h9
  have hc : cA = gC G a := ra_uniq (hK.2 0 (cA, .object (clA a)) rfl).2 h9
  subst hc
  exact new_at C hl (ok_t hs) h h1 hx hce (by rw [hq]) hP hD hS
end NEW
