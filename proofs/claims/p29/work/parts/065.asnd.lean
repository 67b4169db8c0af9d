/-! rows, new cells, what was there before, for the walking machine. Own work. -/
section ARR
variable {G : pG} {d k n0 n pc nx a b i q m : Nat} {lv : List (Option pV)} {r : List pV} {F : pF} {I : pI} {Q : Option pV → pF → pI → Prop} {x y z : Int} {v : pV}
theorem kd (t : Nat) (h : t = 100 ∨ t = 101 ∨ t = 204 ∨ t = 205 ∨ t = 207 ∨ t = 299) : t ∈ kinds := by
  unfold kinds
  simp
  exact h
theorem g_iald (hd : decode (mB k) pc = .ok (.iaload, 1)) (hn : nx = pc + 1) (hq : lay q = (100, m)) (hqn : q < n) (h0 : 0 ≤ z) (h1 : z < (m : Int))
    (h : Go G d k n0 n nx lv (.inr (.inl (I q z.toNat)) :: r) F I Q) : Go G d k n0 n pc lv (.inr (.inl z) :: .inl (some q) :: r) F I Q := by
  intro p e s mm args below meth c H locs ls C hl hs
  subst hn
  have hz : iR z := ok_h hs
  have h2 := wL_at G F I hqn
  rw [cE_i hq] at h2
  have h3 := h p e s mm args below meth c H locs ls C hl (ok_c (C.wd.R q _) (ok_t (ok_t hs)))
  show W p (gL G) e (Rm d k n0) s mm args below meth c H locs (n - n0) (sz n - sz n0) _ (F0 mm pc ls (tr G (.inr (.inl z)) :: tr G (.inl (some q)) :: r.map (tr G)))
  rw [tr_w C.wd.ext hqn]
  refine va_iald (D := gD G) (cl := vwCl) C.1 C.2.1 (C.kx.K (kd 100 (Or.inl rfl))) C.wd.2.1 q 0 h2 rfl (n_in hz h0 h1) hd ?_
  rw [n_cl hz]
  exact h3
theorem g_bald (hd : decode (mB k) pc = .ok (.baload, 1)) (hn : nx = pc + 1) (hq : lay q = (101, m)) (hqn : q < n) (h0 : 0 ≤ z) (h1 : z < (m : Int))
    (h : Go G d k n0 n nx lv (.inr (.inl (I q z.toNat)) :: r) F I Q) : Go G d k n0 n pc lv (.inr (.inl z) :: .inl (some q) :: r) F I Q := by
  intro p e s mm args below meth c H locs ls C hl hs
  subst hn
  have hz : iR z := ok_h hs
  have h2 := wL_at G F I hqn
  rw [cE_b hq] at h2
  have h3 := h p e s mm args below meth c H locs ls C hl (ok_c (C.wd.R q _) (ok_t (ok_t hs)))
  show W p (gL G) e (Rm d k n0) s mm args below meth c H locs (n - n0) (sz n - sz n0) _ (F0 mm pc ls (tr G (.inr (.inl z)) :: tr G (.inl (some q)) :: r.map (tr G)))
  rw [tr_w C.wd.ext hqn]
  refine va_bald (D := gD G) (cl := vwCl) C.1 C.2.1 (C.kx.K (kd 101 (by omega))) C.wd.2.1 q 0 h2 rfl (n_in hz h0 h1) hd ?_
  rw [n_cl hz]
  exact h3
theorem tyA_r {t : Nat} (ht : t ∈ [204, 205, 207, 299]) : t ∈ kinds ∧ 200 ≤ t ∧ ∃ C, tyA t = .object C := by
  simp at ht
  rcases ht with rfl | rfl | rfl | rfl
  · exact ⟨kd _ (by omega), by omega, _, rfl⟩
  · exact ⟨kd _ (by omega), by omega, _, rfl⟩
  · exact ⟨kd _ (by omega), by omega, _, rfl⟩
  · exact ⟨kd _ (by omega), by omega, _, rfl⟩
theorem g_aald {t : Nat} (hd : decode (mB k) pc = .ok (.aaload, 1)) (hn : nx = pc + 1) (ht : t ∈ [204, 205, 207, 299]) (hq : lay q = (t, m)) (hqn : q < n) (h0 : 0 ≤ z) (h1 : z < (m : Int))
    (h : ∀ w, F q z.toNat = w → Go G d k n0 n nx lv (.inl w :: r) F I Q) : Go G d k n0 n pc lv (.inr (.inl z) :: .inl (some q) :: r) F I Q := by
  intro p e s mm args below meth c H locs ls C hl hs
  subst hn
  obtain ⟨hk, h200, E, hE⟩ := tyA_r ht
  have hz : iR z := ok_h hs
  have h2 := wL_at G F I hqn
  rw [cE_r hq h200] at h2
  have h3 := h _ rfl p e s mm args below meth c H locs ls C hl (ok_c trivial (ok_t (ok_t hs)))
  show W p (gL G) e (Rm d k n0) s mm args below meth c H locs (n - n0) (sz n - sz n0) _ (F0 mm pc ls (tr G (.inr (.inl z)) :: tr G (.inl (some q)) :: r.map (tr G)))
  rw [tr_w C.wd.ext hqn]
  have hK := C.kx.K hk
  rw [hE] at hK
  refine va_aldq (D := gD G) (cl := vwCl) C.1 C.2.1 hK C.wd.2.1 q 0 h2 rfl (n_in hz h0 h1) hd ?_
  rw [n_cl hz, va_rf_tr]
  exact h3
theorem cE_ast (hq : lay q = (100, m)) : cE G F (uI I q i x) q = .inl (gC G 100, m, .inl (upd (fun j => Int32.ofInt (I q j)) i (Int32.ofInt x))) := by
  rw [cE_i hq, upd_i]
  refine congrArg (fun g => Sum.inl (gC G 100, m, Sum.inl g)) (funext fun j => ?_)
  unfold uI
  by_cases hj : j = i
  · rw [if_pos ⟨rfl, hj⟩, if_pos hj]
  · rw [if_neg (fun z => hj z.2), if_neg hj]
theorem cE_bst (hq : lay q = (101, m)) : cE G F (uI I q i x) q = .inl (gC G 101, m, .inl (upd (fun j => Int32.ofInt (I q j)) i (Int32.ofInt x))) := by
  rw [cE_b hq, upd_i]
  refine congrArg (fun g => Sum.inl (gC G 101, m, Sum.inl g)) (funext fun j => ?_)
  unfold uI
  by_cases hj : j = i
  · rw [if_pos ⟨rfl, hj⟩, if_pos hj]
  · rw [if_neg (fun z => hj z.2), if_neg hj]
theorem g_iast (hd : decode (mB k) pc = .ok (.iastore, 1)) (hn : nx = pc + 1) (hq : lay q = (100, m)) (hqn : q < n) (h0 : 0 ≤ z) (h1 : z < (m : Int))
    (h : Go G d k n0 n nx lv r F (uI I q z.toNat x) Q) : Go G d k n0 n pc lv (.inr (.inl x) :: .inr (.inl z) :: .inl (some q) :: r) F I Q := by
  intro p e s mm args below meth c H locs ls C hl hs
  subst hn
  have hz : iR z := ok_h (ok_t hs)
  have h2 := wL_at G F I hqn
  rw [cE_i hq] at h2
  show W p (gL G) e (Rm d k n0) s mm args below meth c H locs (n - n0) (sz n - sz n0) _ (F0 mm pc ls (tr G (.inr (.inl x)) :: tr G (.inr (.inl z)) :: tr G (.inl (some q)) :: r.map (tr G)))
  rw [tr_w C.wd.ext hqn]
  refine va_iast (D := gD G) (cl := vwCl) C.1 C.2.1 (C.kx.K (kd 100 (Or.inl rfl))) C.wd.2.1 (wL_D G n F I) C.S q 0 h2 rfl (n_in hz h0 h1) hd (fun H1 locs1 hP hD hS => ?_)
  rw [n_cl hz, wL_set (F' := F) (I' := uI I q z.toNat x) (cE_ast hq) (fun k hk => cE_ne (fun _ => rfl) (uI_ne hk))] at hP
  exact after C hl (ok_t (ok_t (ok_t hs))) h hP hS (uI_R C.wd.R (ok_h hs) q _) (by_uI C.wd.by (by rw [hq]; show 100 ≠ 101; omega))
theorem nar_b (x : Int) (hx : iR x) : vp_nar .byte (Int32.ofInt x) = Int32.ofInt (wb x) := n_i2b hx
theorem g_bast (hd : decode (mB k) pc = .ok (.bastore, 1)) (hn : nx = pc + 1) (hq : lay q = (101, m)) (hqn : q < n) (h0 : 0 ≤ z) (h1 : z < (m : Int))
    (h : Go G d k n0 n nx lv r F (uI I q z.toNat (wb x)) Q) : Go G d k n0 n pc lv (.inr (.inl x) :: .inr (.inl z) :: .inl (some q) :: r) F I Q := by
  intro p e s mm args below meth c H locs ls C hl hs
  subst hn
  have hz : iR z := ok_h (ok_t hs)
  have hx : iR x := ok_h hs
  have h2 := wL_at G F I hqn
  rw [cE_b hq] at h2
  show W p (gL G) e (Rm d k n0) s mm args below meth c H locs (n - n0) (sz n - sz n0) _ (F0 mm pc ls (tr G (.inr (.inl x)) :: tr G (.inr (.inl z)) :: tr G (.inl (some q)) :: r.map (tr G)))
  rw [tr_w C.wd.ext hqn]
  refine va_bast (D := gD G) (cl := vwCl) C.1 C.2.1 (C.kx.K (kd 101 (by omega))) C.wd.2.1 (wL_D G n F I) C.S q 0 h2 rfl (n_in hz h0 h1) hd (fun H1 locs1 hP hD hS => ?_)
  rw [n_cl hz, nar_b x hx, wL_set (F' := F) (I' := uI I q z.toNat (wb x)) (cE_bst hq) (fun k hk => cE_ne (fun _ => rfl) (uI_ne hk))] at hP
  refine after C hl (ok_t (ok_t (ok_t hs))) h hP hS (uI_R C.wd.R (wb_R x) q _) (fun k hk j => ?_)
  unfold uI
  split
  · unfold wb; omega
  · exact C.wd.by k hk j
theorem cE_rst {t w : Nat} (hq : lay q = (t, m)) (ht : 200 ≤ t) : cE G (uF F q i (some w)) I q = .inl (gC G t, m, .inr (.inr (.inr (.inr (va_up (fun j => (F q j).map (ad G)) i (some (ad G w))))))) := by
  rw [cE_r hq ht]
  refine congrArg (fun g => Sum.inl (gC G t, m, Sum.inr (Sum.inr (Sum.inr (Sum.inr g))))) (funext fun j => ?_)
  unfold uF va_up
  by_cases hj : j = i
  · rw [if_pos ⟨rfl, hj⟩, if_pos hj]; rfl
  · rw [if_neg (fun z => hj z.2), if_neg hj]
theorem g_aast {t y : Nat} (hd : decode (mB k) pc = .ok (.aastore, 1)) (hn : nx = pc + 1) (hq : lay q = (t, m)) (hqn : q < n) (h0 : 0 ≤ z) (h1 : z < (m : Int))
    (hv : (∃ j, t = 299 ∧ j < 18 ∧ y = EXT + 10 + j) ∨ (∃ c m', t = 200 + c ∧ c ∈ [4, 5, 7] ∧ lay y = (c, m') ∧ y < n))
    (h : Go G d k n0 n nx lv r (uF F q z.toNat (some y)) I Q) : Go G d k n0 n pc lv (.inl (some y) :: .inr (.inl z) :: .inl (some q) :: r) F I Q := by
  intro p e s mm args below meth c H locs ls C hl hs
  subst hn
  have ht : t ∈ [204, 205, 207, 299] := by
    rcases hv with ⟨j, rfl, -, -⟩ | ⟨c', m', rfl, hc, -, -⟩
    · simp
    · simp at hc ⊢
      omega
  obtain ⟨hk, h200, E, hE⟩ := tyA_r ht
  have hz : iR z := ok_h (ok_t hs)
  have h2 := wL_at G F I hqn
  rw [cE_r hq h200] at h2
  show W p (gL G) e (Rm d k n0) s mm args below meth c H locs (n - n0) (sz n - sz n0) _ (F0 mm pc ls (.ref (ad G y) :: tr G (.inr (.inl z)) :: tr G (.inl (some q)) :: r.map (tr G)))
  rw [tr_w C.wd.ext hqn]
  have hK := C.kx.K hk
  rw [hE] at hK
  have hany : va_Any E s H (ad G y) := by
    rcases hv with ⟨j, rfl, hj, rfl⟩ | ⟨c', m', rfl, hc, hy, hyn⟩
    · have hE2 : FieldType.object RJ0 = .object E := hE
      cases hE2
      obtain ⟨cell, f1, f2, f3, f4⟩ := (C.kx.txt j hj).1
      have e1 := C.S.2.1 (ad G (EXT + 10 + j)) (Array.getElem?_eq_some_iff.mp f1).1 f4
      refine ⟨cell, e1.trans f1, f2, Vm.classAt_of_findClass f3, fun comp hc => ?_⟩
      cases hc.symm.trans f3
      exact Vm.assignable_self _ _
    · have hc13 : c' < 13 := by simp at hc; omega
      have h5 := wL_at G F I hyn
      rw [cE_obj hy hc13] at h5
      rw [ad_w G (by have := C.wd.ext; omega)]
      have hE2 : E = clC c' := by
        simp at hc
        rcases hc with rfl | rfl | rfl
        · have : FieldType.object RX4 = .object E := hE
          cases this; rfl
        · have : FieldType.object RX5 = .object E := hE
          cases this; rfl
        · have : FieldType.object RX7 = .object E := hE
          cases this; rfl
      subst hE2
      refine va_rAny C.kx.K0 C.wd.2.1 h5 (cl_get hc13) (fun comp c0 f1 f2 => ?_)
      have h6 := (C.kx.cls c' _ (cl_get hc13)).2
      have h7 := h6.1
      cases f1.symm.trans h7
      cases f2.symm.trans h7
      exact va_assign h6
  refine va_astqM (D := gD G) (cl := vwCl) C.1 C.2.1 hK C.wd.2.1 (wL_D G n F I) C.S q 0 h2 rfl hany (n_in hz h0 h1) hd (fun H1 locs1 hP hD hS => ?_)
  rw [n_cl hz, wL_set (F' := uF F q z.toNat (some y)) (I' := I) (cE_rst hq h200) (fun k hk => cE_ne (uF_ne hk) (fun _ => rfl))] at hP
  exact after C hl (ok_t (ok_t (ok_t hs))) h hP hS C.wd.R C.wd.by
theorem g_alen {t : Nat} (hd : decode (mB k) pc = .ok (.arraylength, 1)) (hn : nx = pc + 1) (ht : t ∈ [100, 101]) (hq : lay q = (t, m)) (hqn : q < n) (hm : m < 100000)
    (h : Go G d k n0 n nx lv (.inr (.inl (m : Int)) :: r) F I Q) : Go G d k n0 n pc lv (.inl (some q) :: r) F I Q := by
  intro p e s mm args below meth c H locs ls C hl hs
  subst hn
  have h3 := h p e s mm args below meth c H locs ls C hl (ok_c (by show iR _; unfold iR; omega) (ok_t hs))
  have h2 := wL_at G F I hqn
  show W p (gL G) e (Rm d k n0) s mm args below meth c H locs (n - n0) (sz n - sz n0) _ (F0 mm pc ls (tr G (.inl (some q)) :: r.map (tr G)))
  rw [tr_w C.wd.ext hqn]
  simp at ht
  rcases ht with rfl | rfl
  · rw [cE_i hq] at h2
    exact va_alen (D := gD G) (cl := vwCl) C.1 C.2.1 (C.kx.K (kd 100 (Or.inl rfl))) C.wd.2.1 q 0 h2 rfl (Int32.ofInt_eq_ofNat).symm hd h3
  · rw [cE_b hq] at h2
    exact va_alen (D := gD G) (cl := vwCl) C.1 C.2.1 (C.kx.K (kd 101 (by omega))) C.wd.2.1 q 0 h2 rfl (Int32.ofInt_eq_ofNat).symm hd h3
end ARR
