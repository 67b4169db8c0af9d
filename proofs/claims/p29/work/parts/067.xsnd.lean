/-! copies; constants; what was there before, for the walking machine. Own work. -/
theorem ctgs_sum (G : pG) : ∀ r : List pV, ((r.map (tr G)).map fun v => v.category).sum = ctgs r
  | [] => rfl
  | .inr (.inr z) :: t => by
    have := ctgs_sum G t
    show 2 + _ = 2 + ctgs t
    rw [← this]
    rfl
  | .inr (.inl z) :: t => by
    have := ctgs_sum G t
    show 1 + _ = 1 + ctgs t
    rw [← this]
    rfl
  | .inl none :: t => by
    have := ctgs_sum G t
    show 1 + _ = 1 + ctgs t
    rw [← this]
    rfl
  | .inl (some _) :: t => by
    have := ctgs_sum G t
    show 1 + _ = 1 + ctgs t
    rw [← this]
    rfl
section EXTS
variable {G : pG} {d k n0 n pc nx a b i q m : Nat} {lv : List (Option pV)} {r : List pV} {F : pF} {I : pI} {Q : Option pV → pF → pI → Prop} {x y z : Int} {v : pV}
theorem cI_ne {I : pI} {q sp p dp n k : Nat} (h : k ≠ p) (j : Nat) : cI I q sp p dp n k j = I k j := by unfold cI; rw [if_neg (fun z => h z.1)]
theorem cE_cpyi {p m2 sp dp len : Nat} (hp : lay p = (100, m2)) : cE G F (cI I q sp p dp len) p = .inl (gC G 100, m2, .inl (va_cpy (fun j => Int32.ofInt (I q j)) (fun j => Int32.ofInt (I p j)) sp dp len)) := by
  rw [cE_i hp]
  refine congrArg (fun g => Sum.inl (gC G 100, m2, Sum.inl g)) (funext fun j => ?_)
  unfold cI va_cpy
  by_cases h : dp ≤ j ∧ j < dp + len
  · rw [if_pos ⟨rfl, h⟩, if_pos h]
  · rw [if_neg (fun z => h z.2), if_neg h]
theorem cE_cpyb {p m2 sp dp len : Nat} (hp : lay p = (101, m2)) : cE G F (cI I q sp p dp len) p = .inl (gC G 101, m2, .inl (va_cpy (fun j => Int32.ofInt (I q j)) (fun j => Int32.ofInt (I p j)) sp dp len)) := by
  rw [cE_b hp]
  refine congrArg (fun g => Sum.inl (gC G 101, m2, Sum.inl g)) (funext fun j => ?_)
  unfold cI va_cpy
  by_cases h : dp ≤ j ∧ j < dp + len
  · rw [if_pos ⟨rfl, h⟩, if_pos h]
  · rw [if_neg (fun z => h z.2), if_neg h]
theorem fit_b {x : Int} (h : -128 ≤ x ∧ x ≤ 127) : fits .byte (.int (Int32.ofInt x)) = true := by
  have h1 : iR x := by unfold iR; omega
  show (decide ((-128 : Int32) ≤ Int32.ofInt x) && decide (Int32.ofInt x ≤ (127 : Int32))) = true
  rw [show (-128 : Int32) = Int32.ofInt (-128) from rfl, show (127 : Int32) = Int32.ofInt 127 from rfl]
  rw [decide_eq_true ((n_le (by unfold iR; omega) h1).mpr h.1), decide_eq_true ((n_le h1 (by unfold iR; omega)).mpr h.2)]
  rfl
theorem g_copy {t p m1 m2 : Nat} {sp dp len : Int} (hd : decode (mB k) pc = .ok (.invokestatic i, 3)) (hn : nx = pc + 3)
    (hlink : Jvm.Cond.methodLink (mY k).cls i arraycopyName ∈ goods) (hnat : Jvm.Cond.native arraycopyName ∈ goods) (hstat : Jvm.Cond.static arraycopyName ∈ goods) (hini : Jvm.Cond.initialized "java/lang/System" ∈ goods)
    (ht : t ∈ [100, 101]) (hq : lay q = (t, m1)) (hp : lay p = (t, m2)) (hqn : q < n) (hpn : p < n) (h0 : 0 ≤ sp) (h1 : 0 ≤ dp) (h2 : 0 ≤ len) (h3 : sp + len ≤ (m1 : Int)) (h4 : dp + len ≤ (m2 : Int)) (hr : ctgs r ≤ 8) (hd1 : 1 ≤ d)
    (h : Go G d k n0 n nx lv r F (cI I q sp.toNat p dp.toNat len.toNat) Q) : Go G d k n0 n pc lv (.inr (.inl len) :: .inr (.inl dp) :: .inl (some p) :: .inr (.inl sp) :: .inl (some q) :: r) F I Q := by
  intro pp e s mm args below meth c H locs ls C hl hs
  subst hn
  have r1 : iR len := ok_h hs
  have r2 : iR dp := ok_h (ok_t hs)
  have r3 : iR sp := ok_h (ok_t (ok_t (ok_t hs)))
  have hrs := ok_t (ok_t (ok_t (ok_t (ok_t hs))))
  have hw1 := wL_at G F I hqn
  have hw2 := wL_at G F I hpn
  show W pp (gL G) e (Rm d k n0) s mm args below meth c H locs (n - n0) (sz n - sz n0) _ (F0 mm pc ls (tr G (.inr (.inl len)) :: tr G (.inr (.inl dp)) :: tr G (.inl (some p)) :: tr G (.inr (.inl sp)) :: tr G (.inl (some q)) :: r.map (tr G)))
  rw [tr_w C.wd.ext hqn, tr_w C.wd.ext hpn]
  have hloc : ((r.map (tr G)).map fun v => v.category).sum + (nativeFrameWords "java/lang/System" "arraycopy" 5 + 11) ≤ (Rm d k n0).locals := by
    rw [ctgs_sum]
    show ctgs r + (nativeFrameWords "java/lang/System" "arraycopy" 5 + 11) ≤ 64 * d
    have : nativeFrameWords "java/lang/System" "arraycopy" 5 ≤ 40 := by decide +kernel
    omega
  have hml : c.maxLocals = ls.size := by rw [C.2.2.2.2.1, hl.1]
  simp at ht
  rcases ht with rfl | rfl
  · rw [cE_i hq] at hw1
    rw [cE_i hp] at hw2
    refine va_copyi (D := gD G) (cl := vwCl) (ty := .int) C.1 C.2.1 hml C.own (C.hts _ hlink) (C.hts _ hnat) (C.hts _ hstat) (C.hts _ hini) (C.kx.K (kd 100 (Or.inl rfl))) C.wd.2.1 (wL_D G n F I) C.S q p 0 0 hw1 hw2 rfl rfl rfl
      (nn_i r3 h0) (nn_i r2 h1) (nn_i r1 h2) (by rw [n_cl r3, n_cl r1]; omega) (by rw [n_cl r2, n_cl r1]; omega) (fun _ _ => rfl) hd1 hloc hd (fun H1 locs1 hP hD hS => ?_)
    rw [n_cl r3, n_cl r2, n_cl r1, wL_set (F' := F) (I' := cI I q sp.toNat p dp.toNat len.toNat) (cE_cpyi hp) (fun k hk => cE_ne (fun _ => rfl) (cI_ne hk))] at hP
    refine after C hl hrs h hP hS (fun kk j => ?_) (fun kk hk j => ?_)
    · unfold cI
      split
      · exact C.wd.R _ _
      · exact C.wd.R _ _
    · rw [cI_ne (fun z => by rw [z, hp] at hk; cases hk) j]
      exact C.wd.by kk hk j
  · rw [cE_b hq] at hw1
    rw [cE_b hp] at hw2
    refine va_copyi (D := gD G) (cl := vwCl) (ty := .byte) C.1 C.2.1 hml C.own (C.hts _ hlink) (C.hts _ hnat) (C.hts _ hstat) (C.hts _ hini) (C.kx.K (kd 101 (by omega))) C.wd.2.1 (wL_D G n F I) C.S q p 0 0 hw1 hw2 rfl rfl rfl
      (nn_i r3 h0) (nn_i r2 h1) (nn_i r1 h2) (by rw [n_cl r3, n_cl r1]; omega) (by rw [n_cl r2, n_cl r1]; omega) (fun _ _ => fit_b (C.wd.by q (by rw [hq]) _)) hd1 hloc hd (fun H1 locs1 hP hD hS => ?_)
    rw [n_cl r3, n_cl r2, n_cl r1, wL_set (F' := F) (I' := cI I q sp.toNat p dp.toNat len.toNat) (cE_cpyb hp) (fun k hk => cE_ne (fun _ => rfl) (cI_ne hk))] at hP
    refine after C hl hrs h hP hS (fun kk j => ?_) (fun kk hk j => ?_)
    · unfold cI
      split
      · exact C.wd.R _ _
      · exact C.wd.R _ _
    · unfold cI
      split
      · exact C.wd.by q (by rw [hq]) _
      · exact C.wd.by kk hk j
theorem g_ldc (hd : decode (mB k) pc = .ok (.ldc i, 2)) (hn : nx = pc + 2) (hc : Jvm.Cond.constant (mY k).cls i (Int32.ofInt x) ∈ goods) (hx : iR x) (h : Go G d k n0 n nx lv (.inr (.inl x) :: r) F I Q) : Go G d k n0 n pc lv r F I Q := by
  intro p e s mm args below meth c H locs ls C hl hs
  subst hn
  exact lv_ldc C.1 C.2.1 C.own (C.hts _ hc) hd (h p e s mm args below meth c H locs ls C hl (ok_c hx hs))
theorem g_ldcw (hd : decode (mB k) pc = .ok (.ldc_w i, 3)) (hn : nx = pc + 3) (hc : Jvm.Cond.constant (mY k).cls i (Int32.ofInt x) ∈ goods) (hx : iR x) (h : Go G d k n0 n nx lv (.inr (.inl x) :: r) F I Q) : Go G d k n0 n pc lv r F I Q := by
  intro p e s mm args below meth c H locs ls C hl hs
  subst hn
  exact lv_ldcw C.1 C.2.1 C.own (C.hts _ hc) hd (h p e s mm args below meth c H locs ls C hl (ok_c hx hs))
theorem g_ldc2 (hd : decode (mB k) pc = .ok (.ldc2_w i, 3)) (hn : nx = pc + 3) (hc : Jvm.Cond.constantLong (mY k).cls i (Int64.ofInt x) ∈ goods) (hx : lR x) (h : Go G d k n0 n nx lv (.inr (.inr x) :: r) F I Q) : Go G d k n0 n pc lv r F I Q := by
  intro p e s mm args below meth c H locs ls C hl hs
  subst hn
  exact lv_ldc2 C.1 C.2.1 C.own (C.hts _ hc) hd (h p e s mm args below meth c H locs ls C hl (ok_c hx hs))
theorem g_ldcS (hd : decode (mB k) pc = .ok (.ldc i, 2)) (hn : nx = pc + 2) (ha : a < 18) (hi : (strO.getD a ("", 0, "", 0)).2.1 = i) (ho : (strO.getD a ("", 0, "", 0)).1 = (mY k).cls) (h : Go G d k n0 n nx lv (.inl (some (EXT + 10 + a)) :: r) F I Q) : Go G d k n0 n pc lv r F I Q := by
  intro p e s mm args below meth c H locs ls C hl hs
  subst hn
  obtain ⟨-, -, -, -, h5⟩ := C.kx.txt a ha
  rw [hi, ho] at h5
  exact va_ldcS C.1 C.2.1 C.own h5 hd (h p e s mm args below meth c H locs ls C hl (ok_c trivial hs))
theorem g_val (hd : decode (mB k) pc = .ok (.getfield i, 3)) (hn : nx = pc + 3) (hw : Jvm.Cond.fieldLink (mY k).cls i "java/lang/String" "value" "[B" ∈ goods) (ha : a < 18) (hq : q = EXT + 10 + a) (h : Go G d k n0 n nx lv (.inl (some (q + 30)) :: r) F I Q) : Go G d k n0 n pc lv (.inl (some q) :: r) F I Q := by
  intro p e s mm args below meth c H locs ls C hl hs
  subst hn
  subst hq
  obtain ⟨-, -, h3, -, -⟩ := C.kx.txt a ha
  have h9 := h p e s mm args below meth c H locs ls C hl (ok_c trivial (ok_t hs))
  refine vk_getf C.1 C.2.1 h3 C.S C.own (C.hts _ hw) (fun _ z => z) hd ?_
  rw [show EXT + 40 + a = EXT + 10 + a + 30 by omega]
  exact h9
theorem g_cod (hd : decode (mB k) pc = .ok (.getfield i, 3)) (hn : nx = pc + 3) (hw : Jvm.Cond.fieldLink (mY k).cls i "java/lang/String" "coder" "B" ∈ goods) (ha : a < 18) (hq : q = EXT + 10 + a) (h : Go G d k n0 n nx lv (.inr (.inl 0) :: r) F I Q) : Go G d k n0 n pc lv (.inl (some q) :: r) F I Q := by
  intro p e s mm args below meth c H locs ls C hl hs
  subst hn
  subst hq
  obtain ⟨-, h2, -, -, -⟩ := C.kx.txt a ha
  exact vk_getf C.1 C.2.1 h2 C.S C.own (C.hts _ hw) (fun _ z => z) hd (h p e s mm args below meth c H locs ls C hl (ok_c iR0 (ok_t hs)))
theorem str_R : ∀ j, j < 18 → ∀ b, b ∈ strB.getD j [] → -128 ≤ b ∧ b ≤ 127 := by decide +kernel
theorem getD_R {l : List Int} (h : ∀ b, b ∈ l → -128 ≤ b ∧ b ≤ 127) (i : Nat) : iR (l.getD i 0) := by
  rw [List.getD_eq_getElem?_getD]
  cases hi : l[i]? with
  | none => exact iR0
  | some b =>
    have := h b (List.mem_of_getElem? hi)
    show iR b
    unfold iR
    omega
theorem g_strb (hd : decode (mB k) pc = .ok (.baload, 1)) (hn : nx = pc + 1) (ha : a < 18) (hq : q = EXT + 40 + a) (h0 : 0 ≤ z) (h1 : z < (strL.getD a 0 : Int)) (h : Go G d k n0 n nx lv (.inr (.inl ((strB.getD a []).getD z.toNat 0)) :: r) F I Q) : Go G d k n0 n pc lv (.inr (.inl z) :: .inl (some q) :: r) F I Q := by
  intro p e s mm args below meth c H locs ls C hl hs
  subst hn
  subst hq
  have hz : iR z := ok_h hs
  obtain ⟨-, -, -, h4, -⟩ := C.kx.txt a ha
  exact va_tb C.1 C.2.1 h4 C.S (n_in hz h0 h1) (by rw [n_cl hz]; rfl) hd (h p e s mm args below meth c H locs ls C hl (ok_c (getD_R (str_R a ha) _) (ok_t (ok_t hs))))
theorem strL_R : ∀ j, j < 18 → strL.getD j 0 < 100 := by decide +kernel
theorem g_strl (hd : decode (mB k) pc = .ok (.arraylength, 1)) (hn : nx = pc + 1) (ha : a < 18) (hq : q = EXT + 40 + a) (h : Go G d k n0 n nx lv (.inr (.inl (strL.getD a 0 : Int)) :: r) F I Q) : Go G d k n0 n pc lv (.inl (some q) :: r) F I Q := by
  intro p e s mm args below meth c H locs ls C hl hs
  subst hn
  subst hq
  obtain ⟨-, -, -, h4, -⟩ := C.kx.txt a ha
  have := strL_R a ha
  exact va_tlen C.1 C.2.1 h4 C.S Int32.ofInt_eq_ofNat.symm hd (h p e s mm args below meth c H locs ls C hl (ok_c (by show iR _; unfold iR; omega) (ok_t hs)))
theorem above_R : ∀ b, b ∈ aboveT → -128 ≤ b ∧ b ≤ 127 := by decide +kernel
theorem bodies_R : ∀ b, b ∈ bodiesT → -128 ≤ b ∧ b ≤ 127 := by decide +kernel
theorem g_above (hd : decode (mB k) pc = .ok (.iaload, 1)) (hn : nx = pc + 1) (hq : q = EXT + 1) (h0 : 0 ≤ z) (h1 : z < 6) (h : Go G d k n0 n nx lv (.inr (.inl (aboveT.getD z.toNat 0)) :: r) F I Q) : Go G d k n0 n pc lv (.inr (.inl z) :: .inl (some q) :: r) F I Q := by
  intro p e s mm args below meth c H locs ls C hl hs
  subst hn
  subst hq
  have hz : iR z := ok_h hs
  exact va_ti C.1 C.2.1 C.kx.2.1.1 C.S (n_in hz h0 (by omega)) (by rw [n_cl hz]; rfl) hd (h p e s mm args below meth c H locs ls C hl (ok_c (getD_R above_R _) (ok_t (ok_t hs))))
theorem g_bodies (hd : decode (mB k) pc = .ok (.iaload, 1)) (hn : nx = pc + 1) (hq : q = EXT + 2) (h0 : 0 ≤ z) (h1 : z < 24) (h : Go G d k n0 n nx lv (.inr (.inl (bodiesT.getD z.toNat 0)) :: r) F I Q) : Go G d k n0 n pc lv (.inr (.inl z) :: .inl (some q) :: r) F I Q := by
  intro p e s mm args below meth c H locs ls C hl hs
  subst hn
  subst hq
  have hz : iR z := ok_h hs
  exact va_ti C.1 C.2.1 C.kx.2.2.1.1 C.S (n_in hz h0 (by omega)) (by rw [n_cl hz]; rfl) hd (h p e s mm args below meth c H locs ls C hl (ok_c (getD_R bodies_R _) (ok_t (ok_t hs))))
theorem g_abovel (hd : decode (mB k) pc = .ok (.arraylength, 1)) (hn : nx = pc + 1) (hq : q = EXT + 1) (h : Go G d k n0 n nx lv (.inr (.inl 6) :: r) F I Q) : Go G d k n0 n pc lv (.inl (some q) :: r) F I Q := by
  intro p e s mm args below meth c H locs ls C hl hs
  subst hn
  subst hq
  exact va_tlen C.1 C.2.1 C.kx.2.1.1 C.S rfl hd (h p e s mm args below meth c H locs ls C hl (ok_c (by show iR _; unfold iR; omega) (ok_t hs)))
theorem g_bodiesl (hd : decode (mB k) pc = .ok (.arraylength, 1)) (hn : nx = pc + 1) (hq : q = EXT + 2) (h : Go G d k n0 n nx lv (.inr (.inl 24) :: r) F I Q) : Go G d k n0 n pc lv (.inl (some q) :: r) F I Q := by
  intro p e s mm args below meth c H locs ls C hl hs
  subst hn
  subst hq
  exact va_tlen C.1 C.2.1 C.kx.2.2.1.1 C.S rfl hd (h p e s mm args below meth c H locs ls C hl (ok_c (by show iR _; unfold iR; omega) (ok_t hs)))
theorem g_scr (hd : decode (mB k) pc = .ok (.iaload, 1)) (hn : nx = pc + 1) (hq : q = EXT) (h0 : 0 ≤ z) (h1 : z < (gN G : Int)) (h : Go G d k n0 n nx lv (.inr (.inl (gX G z.toNat).toInt) :: r) F I Q) : Go G d k n0 n pc lv (.inr (.inl z) :: .inl (some q) :: r) F I Q := by
  intro p e s mm args below meth c H locs ls C hl hs
  subst hn
  subst hq
  have hz : iR z := ok_h hs
  have h9 := h p e s mm args below meth c H locs ls C hl (ok_c (toInt_R _) (ok_t (ok_t hs)))
  have hb : ad G EXT < s.heap.size := by rw [C.sz0]; have := C.kx.1.2; omega
  refine va_sld C.1 C.2.1 C.kx.1.1 hb (Nat.not_le.mpr C.kx.1.2) C.S (n_in hz h0 h1) hd ?_
  rw [n_cl hz]
  have h8 : tr G (.inr (.inl (gX G z.toNat).toInt)) = .int (gX G z.toNat) := congrArg Value.int (Int32.ofInt_toInt _)
  rw [← h8]
  exact h9
theorem g_scrl (hd : decode (mB k) pc = .ok (.arraylength, 1)) (hn : nx = pc + 1) (hq : q = EXT) (h : Go G d k n0 n nx lv (.inr (.inl (Int32.ofNat (gN G)).toInt) :: r) F I Q) : Go G d k n0 n pc lv (.inl (some q) :: r) F I Q := by
  intro p e s mm args below meth c H locs ls C hl hs
  subst hn
  subst hq
  have h9 := h p e s mm args below meth c H locs ls C hl (ok_c (toInt_R _) (ok_t hs))
  have hb : ad G EXT < s.heap.size := by rw [C.sz0]; have := C.kx.1.2; omega
  refine va_slen C.1 C.2.1 C.kx.1.1 hb (Nat.not_le.mpr C.kx.1.2) C.S hd ?_
  have h8 : tr G (.inr (.inl (Int32.ofNat (gN G)).toInt)) = .int (Int32.ofNat (gN G)) := congrArg Value.int (Int32.ofInt_toInt _)
  rw [← h8]
  exact h9
theorem g_stat {Cn nm ds : String} (hd : decode (mB k) pc = .ok (.getstatic i, 3)) (hn : nx = pc + 3) (hw : Jvm.Cond.fieldLink (mY k).cls i Cn nm ds ∈ goods) (hZ : ∀ s H, KX G s H → va_Z Cn nm ds (tr G v) (A0 G) s H) (hv : okV v) (h : Go G d k n0 n nx lv (v :: r) F I Q) : Go G d k n0 n pc lv r F I Q := by
  intro p e s mm args below meth c H locs ls C hl hs
  subst hn
  exact va_gets C.1 C.2.1 (hZ s s.heap C.kx) C.S C.own (C.hts _ hw) (fun _ z => z) hd (h p e s mm args below meth c H locs ls C hl (ok_c hv hs))
theorem g_obj (hd : decode (mB k) pc = .ok (.invokespecial i, 3)) (hn : nx = pc + 3) (hlink : Jvm.Cond.methodLink (mY k).cls i objectInit ∈ goods) (hinst : Jvm.Cond.instanceMethod objectInit ∈ goods) (hcode : Jvm.Cond.code objectInit ⟨#[0xb1]⟩ 1 none ∈ goods) (hr : ctgs r ≤ 8) (hd1 : 1 ≤ d)
    (h : Go G d k n0 n nx lv r F I Q) : Go G d k n0 n pc lv (.inl (some q) :: r) F I Q := by
  intro p e s mm args below meth c H locs ls C hl hs
  subst hn
  refine W.objInit C.1 C.2.1 C.own (C.hts _ hlink) (C.hts _ hinst) (C.hts _ hcode) rfl (by rw [C.2.2.2.2.1]; exact hl.1) rfl hd hd1 ?_ (h p e s mm args below meth c H locs ls C hl (ok_t hs))
  show 2 * 0 + ((r.map (tr G)).map fun v => v.category).sum + 12 ≤ 64 * d
  rw [ctgs_sum]
  omega
end EXTS
