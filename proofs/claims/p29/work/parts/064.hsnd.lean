/-! what the machine does at an instruction that reads or writes a cell, for the walking machine. Own work. -/
theorem KX.cls {G : pG} {s : State} {H : Heap} (h : KX G s H) : ∀ (c : Nat) (q : vw_C), vwCl[c]? = some q → u_Kn s q.1 q.2.1 q.2.2 ((gD G).1 c) ((gD G).2 c) := h.2.2.2.2.2.2.1
theorem KX.arr {G : pG} {s : State} {H : Heap} (h : KX G s H) : ∀ t, t ∈ kinds → ArrOfT s (gC G t) (tyA t) ∧ va_RA s (gC G t) (tyA t) := h.2.2.2.2.2.2.2.1
theorem KX.nest {G : pG} {s : State} {H : Heap} (h : KX G s H) : ∀ w, w ∈ lw_tbl → isNest w = true → va_Nw w s := h.2.2.2.2.2.2.2.2.1
theorem KX.ao {G : pG} {s : State} {H : Heap} (h : KX G s H) : va_AO RX4 s ∧ va_AO RX5 s ∧ va_AO RX7 s ∧ va_AO RJ0 s := h.2.2.2.2.2.2.2.2.2.1
theorem KX.sio {G : pG} {s : State} {H : Heap} (h : KX G s H) : gS G = .inl none ∨ gS G = .inl (some (EXT + 4)) := h.2.2.2.2.2.2.2.2.2.2
theorem KX.txt {G : pG} {s : State} {H : Heap} (h : KX G s H) : KT G s H := h.2.2.2.2.2.1
theorem KX.K {G : pG} {s : State} {H : Heap} (h : KX G s H) {t : Nat} (ht : t ∈ kinds) : va_K (gD G) vwCl [(gC G t, tyA t)] s := by
  refine ⟨h.cls, fun i q hq => ?_⟩
  cases i with
  | zero => cases hq; exact h.arr t ht
  | succ i => cases hq
theorem KX.K0 {G : pG} {s : State} {H : Heap} (h : KX G s H) : va_K (gD G) vwCl [] s := ⟨h.cls, fun i q hq => by cases hq⟩
theorem Ct.kx {G : pG} {d k n0 n : Nat} {F : pF} {I : pI} {p : Program} {e : Env} {s : State} {m : MethodId} {args : Array Value} {meth : Method} {c : Code} {H : Heap} {locs : List Loc} (C : Ct G d k n0 n F I p e s m args meth c H locs) : KX G s s.heap := C.2.2.2.2.2.2.2.2.1
theorem Ct.wd {G : pG} {d k n0 n : Nat} {F : pF} {I : pI} {p : Program} {e : Env} {s : State} {m : MethodId} {args : Array Value} {meth : Method} {c : Code} {H : Heap} {locs : List Loc} (C : Ct G d k n0 n F I p e s m args meth c H locs) : Wd G n F I H := C.2.2.2.2.2.2.2.2.2.2.2.2.1
theorem Ct.S {G : pG} {d k n0 n : Nat} {F : pF} {I : pI} {p : Program} {e : Env} {s : State} {m : MethodId} {args : Array Value} {meth : Method} {c : Code} {H : Heap} {locs : List Loc} (C : Ct G d k n0 n F I p e s m args meth c H locs) : va_S (A0 G) s.heap H locs := C.2.2.2.2.2.2.2.2.2.2.2.2.2
theorem Ct.sz0 {G : pG} {d k n0 n : Nat} {F : pF} {I : pI} {p : Program} {e : Env} {s : State} {m : MethodId} {args : Array Value} {meth : Method} {c : Code} {H : Heap} {locs : List Loc} (C : Ct G d k n0 n F I p e s m args meth c H locs) : s.heap.size = gH G + n0 := C.2.2.2.2.2.2.2.2.2.1
theorem Ct.n0 {G : pG} {d k n0 n : Nat} {F : pF} {I : pI} {p : Program} {e : Env} {s : State} {m : MethodId} {args : Array Value} {meth : Method} {c : Code} {H : Heap} {locs : List Loc} (C : Ct G d k n0 n F I p e s m args meth c H locs) : n0 ≤ n := C.2.2.2.2.2.2.2.2.2.2.1
theorem Ct.n1 {G : pG} {d k n0 n : Nat} {F : pF} {I : pI} {p : Program} {e : Env} {s : State} {m : MethodId} {args : Array Value} {meth : Method} {c : Code} {H : Heap} {locs : List Loc} (C : Ct G d k n0 n F I p e s m args meth c H locs) : n ≤ n0 + alc k := C.2.2.2.2.2.2.2.2.2.2.2.1
theorem Ct.own {G : pG} {d k n0 n : Nat} {F : pF} {I : pI} {p : Program} {e : Env} {s : State} {m : MethodId} {args : Array Value} {meth : Method} {c : Code} {H : Heap} {locs : List Loc} (C : Ct G d k n0 n F I p e s m args meth c H locs) : s.vm.findClass (mY k).cls = some m.cls := C.2.2.2.2.2.1
theorem Ct.hts {G : pG} {d k n0 n : Nat} {F : pF} {I : pI} {p : Program} {e : Env} {s : State} {m : MethodId} {args : Array Value} {meth : Method} {c : Code} {H : Heap} {locs : List Loc} (C : Ct G d k n0 n F I p e s m args meth c H locs) : ∀ w ∈ goods, w.before args s = true := C.2.2.2.2.2.2.1
theorem Ct.ini {G : pG} {d k n0 n : Nat} {F : pF} {I : pI} {p : Program} {e : Env} {s : State} {m : MethodId} {args : Array Value} {meth : Method} {c : Code} {H : Heap} {locs : List Loc} (C : Ct G d k n0 n F I p e s m args meth c H locs) : mK k = 2 → meth.name = "<init>" := C.2.2.2.2.2.2.2.1
/-- the same place of the method, another world -/
theorem Ct.mv {G : pG} {d k n0 n n' : Nat} {F F' : pF} {I I' : pI} {p : Program} {e : Env} {s : State} {m : MethodId} {args : Array Value} {meth : Method} {c : Code} {H H' : Heap} {locs locs' : List Loc} (C : Ct G d k n0 n F I p e s m args meth c H locs) (h1 : n0 ≤ n') (h2 : n' ≤ n0 + alc k) (h3 : Wd G n' F' I' H') (h4 : va_S (A0 G) s.heap H' locs') : Ct G d k n0 n' F' I' p e s m args meth c H' locs' :=
  ⟨C.1, C.2.1, C.2.2.1, C.2.2.2.1, C.2.2.2.2.1, C.own, C.hts, C.ini, C.kx, C.sz0, h1, h2, h3, h4⟩
theorem Wd.R {G : pG} {n : Nat} {F : pF} {I : pI} {H : Heap} (h : Wd G n F I H) : ∀ k j, iR (I k j) := h.2.2.2.1
theorem Wd.ext {G : pG} {n : Nat} {F : pF} {I : pI} {H : Heap} (h : Wd G n F I H) : n ≤ EXT := h.2.2.1
theorem Wd.by {G : pG} {n : Nat} {F : pF} {I : pI} {H : Heap} (h : Wd G n F I H) : ∀ k, (lay k).1 = 101 → ∀ j, -128 ≤ I k j ∧ I k j ≤ 127 := h.2.2.2.2
theorem upd_i (f : Nat → Int) (i : Nat) (x : Int) : upd (fun j => Int32.ofInt (f j)) i (Int32.ofInt x) = fun j => Int32.ofInt (if j = i then x else f j) := by
  funext j
  unfold upd
  split <;> rfl
section HEAP
variable {G : pG} {d k n0 n pc nx a b i q m : Nat} {lv : List (Option pV)} {r : List pV} {F : pF} {I : pI} {Q : Option pV → pF → pI → Prop} {x y : Int} {v : pV}
/-- behind a store: the world anew -/
theorem after {p : Program} {e : Env} {s : State} {mm : MethodId} {args : Array Value} {below : List Frame} {meth : Method} {c : Code} {H H1 : Heap} {locs locs1 : List Loc} {ls : Array Slot} {st : List pV} {F' : pF} {I' : pI} {pc' : Nat}
    (C : Ct G d k n0 n F I p e s mm args meth c H locs) (hl : Hs G k ls lv) (hs : ∀ v ∈ st, okV v) (h : Go G d k n0 n pc' lv st F' I' Q)
    (hP : va_P (gD G) vwCl (wL G n F' I') H1) (hS : va_S (A0 G) s.heap H1 locs1) (hR : ∀ k j, iR (I' k j)) (hB : ∀ k, (lay k).1 = 101 → ∀ j, -128 ≤ I' k j ∧ I' k j ≤ 127) :
    W p (gL G) e (Rm d k n0) s mm args below meth c H1 locs1 (n - n0) (sz n - sz n0) (MQ below (fun a st o t => Qc G (n0 + alc k) Q a st o t ∧ va_F (A0 G) st t) args s (alc k) (sz (n0 + alc k) - sz n0) (A0 G)) (F0 mm pc' ls (st.map (tr G))) :=
  W_sz fun hz => h p e s mm args below meth c H1 locs1 ls (C.mv C.n0 C.n1 ⟨sz_of C.sz0 C.n0 hP hS hz, hP, C.wd.ext, hR, hB⟩ hS) hl hs
theorem tr_w {n : Nat} (hn : n ≤ EXT) (hq : q < n) : tr G (.inl (some q)) = .ref (gH G + q) := by
  show Value.ref (ad G q) = _
  rw [ad_w G (by omega)]
theorem g_getI (hd : decode (mB k) pc = .ok (.getfield i, 3)) (hn : nx = pc + 3) (ha : a < 13) (hb : b < clN a) (hf : frf a b = false)
    (hw : Jvm.Cond.fieldLink (mY k).cls i (clT a b).1 (clT a b).2.1 (clT a b).2.2.1 ∈ goods) (hq : lay q = (a, m)) (hqn : q < n)
    (h : Go G d k n0 n nx lv (.inr (.inl (I q b)) :: r) F I Q) : Go G d k n0 n pc lv (.inl (some q) :: r) F I Q := by
  intro p e s mm args below meth c H locs ls C hl hs
  subst hn
  have hm := lay_cl hq ha
  have h0 := wL_at G F I hqn
  rw [cE_obj hq ha] at h0
  have h3 := h p e s mm args below meth c H locs ls C hl (ok_c (C.wd.R q b) (ok_t hs))
  show W p (gL G) e (Rm d k n0) s mm args below meth c H locs (n - n0) (sz n - sz n0) _ (F0 mm pc ls (tr G (.inl (some q)) :: r.map (tr G)))
  rw [tr_w C.wd.ext hqn]
  refine va_get (D := gD G) (cl := vwCl) (own := (mY k).cls) (ref := (clT a b).1) C.1 C.2.1 C.hts (cl_in a ha) C.own C.kx.K0 C.wd.2.1 q h0 (cl_get ha) b hb (C.hts _ hw) (fun _ z => z) (v := tr G (.inr (.inl (I q b)))) ?_ hd h3
  rw [List.getElem?_map, List.getElem?_range (by omega)]
  show some (fV G F I q a b) = _
  unfold fV
  rw [hf]
  rfl
theorem g_getIN {host : String} (hd : decode (mB k) pc = .ok (.getfield i, 3)) (hn : nx = pc + 3) (ha : a < 13) (hb : b < clN a) (hf : frf a b = false)
    (hw : Jvm.Cond.fieldLinkNest (mY k).cls i (clT a b).1 (clT a b).2.1 (clT a b).2.2.1 host ∈ lw_tbl) (hq : lay q = (a, m)) (hqn : q < n)
    (h : Go G d k n0 n nx lv (.inr (.inl (I q b)) :: r) F I Q) : Go G d k n0 n pc lv (.inl (some q) :: r) F I Q := by
  intro p e s mm args below meth c H locs ls C hl hs
  subst hn
  have hm := lay_cl hq ha
  have h0 := wL_at G F I hqn
  rw [cE_obj hq ha] at h0
  have h3 := h p e s mm args below meth c H locs ls C hl (ok_c (C.wd.R q b) (ok_t hs))
  show W p (gL G) e (Rm d k n0) s mm args below meth c H locs (n - n0) (sz n - sz n0) _ (F0 mm pc ls (tr G (.inl (some q)) :: r.map (tr G)))
  rw [tr_w C.wd.ext hqn]
  refine va_getN (D := gD G) (cl := vwCl) (own := (mY k).cls) (ref := (clT a b).1) (host := host) C.1 C.2.1 C.hts (cl_in a ha) C.own C.kx.K0 C.wd.2.1 q h0 (cl_get ha) b hb (va_Nw.use rfl (C.kx.nest _ hw rfl)) (fun _ z => z) (v := tr G (.inr (.inl (I q b)))) ?_ hd h3
  rw [List.getElem?_map, List.getElem?_range (by omega)]
  show some (fV G F I q a b) = _
  unfold fV
  rw [hf]
  rfl
theorem va_rf_tr (G : pG) (w : Option Nat) : va_rf (w.map (ad G)) = tr G (.inl w) := by cases w <;> rfl
theorem g_getR (hd : decode (mB k) pc = .ok (.getfield i, 3)) (hn : nx = pc + 3) (ha : a < 13) (hb : b < clN a) (hf : frf a b = true)
    (hw : Jvm.Cond.fieldLink (mY k).cls i (clT a b).1 (clT a b).2.1 (clT a b).2.2.1 ∈ goods) (hq : lay q = (a, m)) (hqn : q < n)
    (h : ∀ w, F q b = w → Go G d k n0 n nx lv (.inl w :: r) F I Q) : Go G d k n0 n pc lv (.inl (some q) :: r) F I Q := by
  intro p e s mm args below meth c H locs ls C hl hs
  subst hn
  have hm := lay_cl hq ha
  have h0 := wL_at G F I hqn
  rw [cE_obj hq ha] at h0
  have h3 := h _ rfl p e s mm args below meth c H locs ls C hl (ok_c trivial (ok_t hs))
  show W p (gL G) e (Rm d k n0) s mm args below meth c H locs (n - n0) (sz n - sz n0) _ (F0 mm pc ls (tr G (.inl (some q)) :: r.map (tr G)))
  rw [tr_w C.wd.ext hqn]
  refine va_get (D := gD G) (cl := vwCl) (own := (mY k).cls) (ref := (clT a b).1) C.1 C.2.1 C.hts (cl_in a ha) C.own C.kx.K0 C.wd.2.1 q h0 (cl_get ha) b hb (C.hts _ hw) (fun _ z => z) (v := tr G (.inl (F q b))) ?_ hd h3
  rw [List.getElem?_map, List.getElem?_range (by omega), ← va_rf_tr]
  show some (fV G F I q a b) = _
  unfold fV
  rw [if_pos hf]
theorem g_getRN {host : String} (hd : decode (mB k) pc = .ok (.getfield i, 3)) (hn : nx = pc + 3) (ha : a < 13) (hb : b < clN a) (hf : frf a b = true)
    (hw : Jvm.Cond.fieldLinkNest (mY k).cls i (clT a b).1 (clT a b).2.1 (clT a b).2.2.1 host ∈ lw_tbl) (hq : lay q = (a, m)) (hqn : q < n)
    (h : ∀ w, F q b = w → Go G d k n0 n nx lv (.inl w :: r) F I Q) : Go G d k n0 n pc lv (.inl (some q) :: r) F I Q := by
  intro p e s mm args below meth c H locs ls C hl hs
  subst hn
  have hm := lay_cl hq ha
  have h0 := wL_at G F I hqn
  rw [cE_obj hq ha] at h0
  have h3 := h _ rfl p e s mm args below meth c H locs ls C hl (ok_c trivial (ok_t hs))
  show W p (gL G) e (Rm d k n0) s mm args below meth c H locs (n - n0) (sz n - sz n0) _ (F0 mm pc ls (tr G (.inl (some q)) :: r.map (tr G)))
  rw [tr_w C.wd.ext hqn]
  refine va_getN (D := gD G) (cl := vwCl) (own := (mY k).cls) (ref := (clT a b).1) (host := host) C.1 C.2.1 C.hts (cl_in a ha) C.own C.kx.K0 C.wd.2.1 q h0 (cl_get ha) b hb (va_Nw.use rfl (C.kx.nest _ hw rfl)) (fun _ z => z) (v := tr G (.inl (F q b))) ?_ hd h3
  rw [List.getElem?_map, List.getElem?_range (by omega), ← va_rf_tr]
  show some (fV G F I q a b) = _
  unfold fV
  rw [if_pos hf]
/-- the cells behind a store of a whole number into a field -/
theorem cE_putI (ha : a < 13) (hf : frf a b = false) (hq : lay q = (a, m)) : cE G F (uI I q b x) q = .inr (a, ((List.range m).map (fV G F I q a)).set b (tr G (.inr (.inl x)))) := by
  rw [cE_obj hq ha]
  refine congrArg (fun z => Sum.inr (a, z)) (set_map ?_ (fun j hj => fV_ne rfl (uI_nj hj q))).symm
  unfold fV
  rw [hf, uI_eq]
  rfl
theorem cE_putR {w : Option Nat} (ha : a < 13) (hf : frf a b = true) (hq : lay q = (a, m)) : cE G (uF F q b w) I q = .inr (a, ((List.range m).map (fV G F I q a)).set b (tr G (.inl w))) := by
  rw [cE_obj hq ha]
  refine congrArg (fun z => Sum.inr (a, z)) (set_map ?_ (fun j hj => fV_ne (uF_nj hj q) rfl)).symm
  unfold fV
  rw [if_pos hf, uF_eq, va_rf_tr]
theorem by_uI (hB : ∀ k, (lay k).1 = 101 → ∀ j, -128 ≤ I k j ∧ I k j ≤ 127) (hq : (lay q).1 ≠ 101) : ∀ k, (lay k).1 = 101 → ∀ j, -128 ≤ uI I q b x k j ∧ uI I q b x k j ≤ 127 := by
  intro k hk j
  rw [uI_ne (fun z => hq (by rw [← z]; exact hk)) j]
  exact hB k hk j
theorem fit_i (x : Int) : narrow .int (tr G (.inr (.inl x))) = tr G (.inr (.inl x)) ∧ fits .int (tr G (.inr (.inl x))) = true := ⟨rfl, rfl⟩
theorem fit_z {x : Int} (h : x = 0 ∨ x = 1) : narrow .boolean (tr G (.inr (.inl x))) = tr G (.inr (.inl x)) ∧ fits .boolean (tr G (.inr (.inl x))) = true := by
  rcases h with rfl | rfl
  · exact ⟨rfl, rfl⟩
  · exact ⟨rfl, rfl⟩
theorem g_putI (hd : decode (mB k) pc = .ok (.putfield i, 3)) (hn : nx = pc + 3) (ha : a < 13) (hb : b < clN a) (hf : frf a b = false) (hfin : (clT a b).2.2.2 = false)
    (hw : Jvm.Cond.fieldLink (mY k).cls i (clT a b).1 (clT a b).2.1 (clT a b).2.2.1 ∈ goods) (hq : lay q = (a, m)) (hqn : q < n)
    (hfit : narrow (tyF a b) (tr G (.inr (.inl x))) = tr G (.inr (.inl x)) ∧ fits (tyF a b) (tr G (.inr (.inl x))) = true)
    (h : Go G d k n0 n nx lv r F (uI I q b x) Q) : Go G d k n0 n pc lv (.inr (.inl x) :: .inl (some q) :: r) F I Q := by
  intro p e s mm args below meth c H locs ls C hl hs
  subst hn
  have hm := lay_cl hq ha
  have h0 := wL_at G F I hqn
  rw [cE_obj hq ha] at h0
  show W p (gL G) e (Rm d k n0) s mm args below meth c H locs (n - n0) (sz n - sz n0) _ (F0 mm pc ls (tr G (.inr (.inl x)) :: tr G (.inl (some q)) :: r.map (tr G)))
  rw [tr_w C.wd.ext hqn]
  refine va_put (D := gD G) (cl := vwCl) (own := (mY k).cls) (ref := (clT a b).1) C.1 C.2.1 C.hts (cl_in a ha) (tyF a) (cl_ty a ha) (cl_nm a ha) C.own C.kx.K0 C.wd.2.1 (wL_D G n F I) C.S q h0 (cl_get ha) b hb (C.hts _ hw) (fun _ z => z) hfin (cl_ty a ha b hb) hfit.1 hfit.2 (by simp; omega) hd (fun H1 locs1 hP hD hS => ?_)
  rw [wL_set (F' := F) (I' := uI I q b x) (cE_putI ha hf hq) (fun k hk => cE_ne (fun _ => rfl) (uI_ne hk))] at hP
  exact after C hl (ok_t (ok_t hs)) h hP hS (uI_R C.wd.R (ok_h hs) q b) (by_uI C.wd.by (by rw [hq]; show a ≠ 101; omega))
theorem g_putIN {host : String} (hd : decode (mB k) pc = .ok (.putfield i, 3)) (hn : nx = pc + 3) (ha : a < 13) (hb : b < clN a) (hf : frf a b = false) (hfin : (clT a b).2.2.2 = false)
    (hw : Jvm.Cond.fieldLinkNest (mY k).cls i (clT a b).1 (clT a b).2.1 (clT a b).2.2.1 host ∈ lw_tbl) (hq : lay q = (a, m)) (hqn : q < n)
    (hfit : narrow (tyF a b) (tr G (.inr (.inl x))) = tr G (.inr (.inl x)) ∧ fits (tyF a b) (tr G (.inr (.inl x))) = true)
    (h : Go G d k n0 n nx lv r F (uI I q b x) Q) : Go G d k n0 n pc lv (.inr (.inl x) :: .inl (some q) :: r) F I Q := by
  intro p e s mm args below meth c H locs ls C hl hs
  subst hn
  have hm := lay_cl hq ha
  have h0 := wL_at G F I hqn
  rw [cE_obj hq ha] at h0
  show W p (gL G) e (Rm d k n0) s mm args below meth c H locs (n - n0) (sz n - sz n0) _ (F0 mm pc ls (tr G (.inr (.inl x)) :: tr G (.inl (some q)) :: r.map (tr G)))
  rw [tr_w C.wd.ext hqn]
  refine va_putN (D := gD G) (cl := vwCl) (own := (mY k).cls) (ref := (clT a b).1) (host := host) C.1 C.2.1 C.hts (cl_in a ha) (tyF a) (cl_ty a ha) (cl_nm a ha) C.own C.kx.K0 C.wd.2.1 (wL_D G n F I) C.S q h0 (cl_get ha) b hb (va_Nw.use rfl (C.kx.nest _ hw rfl)) (fun _ z => z) hfin (cl_ty a ha b hb) hfit.1 hfit.2 (by simp; omega) hd (fun H1 locs1 hP hD hS => ?_)
  rw [wL_set (F' := F) (I' := uI I q b x) (cE_putI ha hf hq) (fun k hk => cE_ne (fun _ => rfl) (uI_ne hk))] at hP
  exact after C hl (ok_t (ok_t hs)) h hP hS (uI_R C.wd.R (ok_h hs) q b) (by_uI C.wd.by (by rw [hq]; show a ≠ 101; omega))
def isR : FieldType → Bool
  | .object _ => true
  | .array _ => true
  | _ => false
theorem fit_r {t : FieldType} (ht : isR t = true) (w : Option Nat) : narrow t (tr G (.inl w)) = tr G (.inl w) ∧ fits t (tr G (.inl w)) = true := by
  cases t <;> first | (cases ht; done) | (cases w <;> exact ⟨rfl, rfl⟩)
theorem g_putR {w : Option Nat} (hd : decode (mB k) pc = .ok (.putfield i, 3)) (hn : nx = pc + 3) (ha : a < 13) (hb : b < clN a) (hf : frf a b = true) (hfin : (clT a b).2.2.2 = false) (ht : isR (tyF a b) = true)
    (hw : Jvm.Cond.fieldLink (mY k).cls i (clT a b).1 (clT a b).2.1 (clT a b).2.2.1 ∈ goods) (hq : lay q = (a, m)) (hqn : q < n)
    (h : Go G d k n0 n nx lv r (uF F q b w) I Q) : Go G d k n0 n pc lv (.inl w :: .inl (some q) :: r) F I Q := by
  intro p e s mm args below meth c H locs ls C hl hs
  subst hn
  have hm := lay_cl hq ha
  have h0 := wL_at G F I hqn
  rw [cE_obj hq ha] at h0
  show W p (gL G) e (Rm d k n0) s mm args below meth c H locs (n - n0) (sz n - sz n0) _ (F0 mm pc ls (tr G (.inl w) :: tr G (.inl (some q)) :: r.map (tr G)))
  rw [tr_w C.wd.ext hqn]
  refine va_put (D := gD G) (cl := vwCl) (own := (mY k).cls) (ref := (clT a b).1) C.1 C.2.1 C.hts (cl_in a ha) (tyF a) (cl_ty a ha) (cl_nm a ha) C.own C.kx.K0 C.wd.2.1 (wL_D G n F I) C.S q h0 (cl_get ha) b hb (C.hts _ hw) (fun _ z => z) hfin (cl_ty a ha b hb) (fit_r ht w).1 (fit_r ht w).2 (by simp; omega) hd (fun H1 locs1 hP hD hS => ?_)
  rw [wL_set (F' := uF F q b w) (I' := I) (cE_putR ha hf hq) (fun k hk => cE_ne (uF_ne hk) (fun _ => rfl))] at hP
  exact after C hl (ok_t (ok_t hs)) h hP hS C.wd.R C.wd.by
theorem g_putF {w : Option Nat} (hd : decode (mB k) pc = .ok (.putfield i, 3)) (hn : nx = pc + 3) (ha : a < 13) (hb : b < clN a) (hf : frf a b = true) (hfin : (clT a b).2.2.2 = true) (hi2 : mK k = 2) (hdc : (clT a b).1 = (mY k).cls) (ht : isR (tyF a b) = true)
    (hw : Jvm.Cond.fieldLink (mY k).cls i (clT a b).1 (clT a b).2.1 (clT a b).2.2.1 ∈ goods) (hq : lay q = (a, m)) (hqn : q < n)
    (h : Go G d k n0 n nx lv r (uF F q b w) I Q) : Go G d k n0 n pc lv (.inl w :: .inl (some q) :: r) F I Q := by
  intro p e s mm args below meth c H locs ls C hl hs
  subst hn
  have hm := lay_cl hq ha
  have h0 := wL_at G F I hqn
  rw [cE_obj hq ha] at h0
  show W p (gL G) e (Rm d k n0) s mm args below meth c H locs (n - n0) (sz n - sz n0) _ (F0 mm pc ls (tr G (.inl w) :: tr G (.inl (some q)) :: r.map (tr G)))
  rw [tr_w C.wd.ext hqn]
  refine va_putF (D := gD G) (cl := vwCl) (own := (mY k).cls) (ref := (clT a b).1) C.1 C.2.1 C.hts (cl_in a ha) (tyF a) (cl_ty a ha) (cl_nm a ha) C.own C.kx.K0 C.wd.2.1 (wL_D G n F I) C.S q h0 (cl_get ha) b hb (C.hts _ hw) (fun _ z => z) hfin (C.ini hi2) hdc (cl_ty a ha b hb) (fit_r ht w).1 (fit_r ht w).2 (by simp; omega) hd (fun H1 locs1 hP hD hS => ?_)
  rw [wL_set (F' := uF F q b w) (I' := I) (cE_putR ha hf hq) (fun k hk => cE_ne (uF_ne hk) (fun _ => rfl))] at hP
  exact after C hl (ok_t (ok_t hs)) h hP hS C.wd.R C.wd.by
end HEAP
