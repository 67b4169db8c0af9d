/-! the walking machine is right: what wp says of a stretch of code holds of the machine. Own work (rows laid by wip/pm/gen9.py). -/
theorem b2 {a b : Bool} (h : (a && b) = true) : a = true ∧ b = true := by simpa using h
theorem dt {p : Prop} [Decidable p] (h : decide p = true) : p := of_decide_eq_true h
theorem j_ok {j : Nat} (h : j < NM) : mOK j := by
  obtain ⟨⟨h1, h2, h3, h4⟩, -⟩ := jAll j h
  obtain ⟨h5, h6⟩ := mO_lt j h
  have h7 := oC_ne _ h5
  rw [h3] at h7
  exact ⟨h1, h2, h7, h4, h6⟩
theorem j_s {j : Nat} (h : j < NM) (hk : mK j = 0) : Jvm.Cond.static (mY j) ∈ goods := by
  rcases (jAll j h).2 with ⟨_, g⟩ | ⟨e, _⟩ | ⟨e, _⟩
  · exact g
  · omega
  · omega
theorem j_v {j : Nat} (h : j < NM) (hk : mK j = 1) : Jvm.Cond.instanceMethod (mY j) ∈ goods ∧ Jvm.Cond.selects (mY j).cls (mY j) (mY j) ∈ goods := by
  rcases (jAll j h).2 with ⟨e, _⟩ | ⟨_, g⟩ | ⟨e, _⟩
  · omega
  · exact g
  · omega
theorem j_i {j : Nat} (h : j < NM) (hk : mK j = 2) : Jvm.Cond.instanceMethod (mY j) ∈ goods ∧ (mY j).name = "<init>" ∧ mR j = none := by
  rcases (jAll j h).2 with ⟨e, _⟩ | ⟨e, _⟩ | ⟨_, g⟩
  · omega
  · omega
  · exact g
theorem j_o {j : Nat} (h : j < NM) : oC (mO j) = (mY j).cls := (jAll j h).1.2.2.1
theorem j_pn {j : Nat} (h : j < NM) : plainFor (mY j) = true := j_pl h (mO_lt j h).1 (j_o h)

theorem ins_all : ∀ a, a < 13 → Jvm.Cond.instantiable (clC a) (clN a) ∈ goods := c13 ins_0 ins_1 ins_2 ins_3 ins_4 ins_5 ins_6 ins_7 ins_8 ins_9 ins_10 ins_11 ins_12
theorem ini_all : ∀ a, a < 13 → Jvm.Cond.initialized (clC a) ∈ goods := c13 ini_0 ini_1 ini_2 ini_3 ini_4 ini_5 ini_6 ini_7 ini_8 ini_9 ini_10 ini_11 ini_12
theorem lay_m : ∀ q, (lay q).2 < 100000 := by
  intro q
  by_cases h : q < 256
  · have : ∀ q, q < 256 → (lay q).2 < 100000 := by decide +kernel
    exact this q h
  · rw [lay_big (by omega)]
    decide
theorem popN_spec {k : List pV → List pV → Prop} : ∀ (c : Nat) (st acc : List pV), popN c st acc k → ∃ as r, as.length = c ∧ st = as.reverse ++ r ∧ k (as ++ acc) r
  | 0, st, acc, h => ⟨[], st, rfl, rfl, h⟩
  | c + 1, [], acc, h => h.elim
  | c + 1, x :: t, acc, h => by
    obtain ⟨as, r, h1, h2, h3⟩ := popN_spec c t (x :: acc) h
    exact ⟨as ++ [x], r, by simp [h1], by simp [h2], by simpa using h3⟩
theorem swp_spec {x : Int} {d : Nat} {K : Nat → Prop} : ∀ {l : List (Int × Nat)}, swp x d K l → (∃ v t, (v, t) ∈ l ∧ x = v ∧ K t) ∨ ((∀ q ∈ l, x ≠ q.1) ∧ K d)
  | [], h => Or.inr ⟨fun q hq => by (cases hq), h⟩
  | (v, t) :: r, h => by
    by_cases hx : x = v
    · exact Or.inl ⟨v, t, List.mem_cons_self, hx, h.1 hx⟩
    · rcases swp_spec (h.2 hx) with ⟨v', t', h1, h2, h3⟩ | ⟨h1, h2⟩
      · exact Or.inl ⟨v', t', List.mem_cons_of_mem _ h1, h2, h3⟩
      · refine Or.inr ⟨fun q hq => ?_, h2⟩
        rcases List.mem_cons.mp hq with rfl | hq
        · exact hx
        · exact h1 q hq
theorem tsw_mem {pc : Nat} : ∀ {l : List Int} {lo v : Int} {t : Nat}, (v, t) ∈ tsw pc lo l → ∃ (j : Nat) (o : Int), l[j]? = some o ∧ v = lo + (j : Int) ∧ t = ((pc : Int) + o).toNat
  | [], lo, v, t, h => by (cases h)
  | o :: r, lo, v, t, h => by
    rcases List.mem_cons.mp h with h | h
    · cases h
      exact ⟨0, o, rfl, by simp, rfl⟩
    · obtain ⟨j, o', h1, h2, h3⟩ := tsw_mem h
      exact ⟨j + 1, o', by simpa using h1, by rw [h2]; push_cast; omega, h3⟩
theorem mem_tsw {pc : Nat} : ∀ {l : List Int} {lo : Int} {j : Nat}, j < l.length → ∃ t, (lo + (j : Int), t) ∈ tsw pc lo l
  | [], lo, j, h => by simp at h
  | o :: r, lo, 0, h => ⟨((pc : Int) + o).toNat, by simp [tsw]⟩
  | o :: r, lo, j + 1, h => by
    obtain ⟨t, ht⟩ := mem_tsw (pc := pc) (l := r) (lo := lo + 1) (j := j) (by simpa using h)
    refine ⟨t, List.mem_cons_of_mem _ ?_⟩
    rw [show lo + ((j + 1 : Nat) : Int) = lo + 1 + (j : Int) by push_cast; omega]
    exact ht
section MAIN
variable {G : pG} {d k n0 n pc nx a b : Nat} {lv : List (Option pV)} {st r : List pV} {F : pF} {I : pI} {Q : Option pV → pF → pI → Prop} {x : Int} {sw : List (Int × Nat)}
theorem g_tab {df lo hi : Int} {offs : Array Int} {len : Nat} (hd : decode (mB k) pc = .ok (.tableswitch df lo hi offs, len)) (h1 : (pc : Int) + df = (a : Int)) (h2 : sw = tsw pc lo offs.toList) (h3 : hi + 1 = lo + (offs.toList.length : Int)) (h4 : ∀ o ∈ offs.toList, 0 ≤ (pc : Int) + o)
    (h : swp x a (fun t => Go G d k n0 n t lv r F I Q) sw) : Go G d k n0 n pc lv (.inr (.inl x) :: r) F I Q := by
  subst h2
  intro p e s m args below meth c H locs ls C hl hs
  have hx : iR x := ok_h hs
  rcases swp_spec h with ⟨v, t, g1, g2, g3⟩ | ⟨g1, g2⟩
  · obtain ⟨j, o, e1, e2, e3⟩ := tsw_mem g1
    have e4 := h4 o (List.mem_of_getElem? e1)
    have hj : j < offs.toList.length := (List.getElem?_eq_some_iff.mp e1).1
    refine lv_tableIn (x := Int32.ofInt x) (off := o) (tgt := t) C.1 C.2.1 hd (by rw [tI hx]; omega) (by rw [tI hx]; omega) ?_ (by rw [e3]; omega) (g3 p e s m args below meth c H locs ls C hl (ok_t hs))
    rw [tI hx, show (x - lo).toNat = j by omega]
    simpa using e1
  · refine lv_tableOut (x := Int32.ofInt x) (tgt := a) C.1 C.2.1 hd ?_ h1 (g2 p e s m args below meth c H locs ls C hl (ok_t hs))
    rw [tI hx]
    by_cases q1 : x < lo
    · exact Or.inl q1
    · by_cases q2 : hi < x
      · exact Or.inr q2
      · exfalso
        obtain ⟨t, ht⟩ := mem_tsw (pc := pc) (l := offs.toList) (lo := lo) (j := (x - lo).toNat) (by omega)
        refine g1 _ ht ?_
        show x = lo + ((x - lo).toNat : Int)
        omega
theorem lk_off {pc : Nat} {df : Int} {x : Int} : ∀ {l : List (Int × Int)} {P : Nat → Prop}, (∀ q ∈ l, 0 ≤ (pc : Int) + q.2) → (pc : Int) + df = (a : Int) → swp x a P (l.map (fun q => (q.1, ((pc : Int) + q.2).toNat))) → ∃ t, P t ∧ (pc : Int) + Op.lookupswitch.offset l df x = (t : Int)
  | [], P, h1, h2, h3 => ⟨a, h3, h2⟩
  | (v, o) :: l, P, h1, h2, h3 => by
    rw [Op.lookupswitch.offset_cons]
    have h4 := h1 (v, o) List.mem_cons_self
    by_cases hx : x = v
    · rw [if_pos hx.symm]
      refine ⟨((pc : Int) + o).toNat, h3.1 hx, ?_⟩
      simp only at h4
      omega
    · rw [if_neg (fun z => hx z.symm)]
      exact lk_off (fun q hq => h1 q (List.mem_cons_of_mem _ hq)) h2 (h3.2 hx)
theorem g_lks {df : Int} {ps : Array (Int × Int)} {len : Nat} (hd : decode (mB k) pc = .ok (.lookupswitch df ps, len)) (h1 : (pc : Int) + df = (a : Int)) (h2 : ps.toList.map (fun q => (q.1, ((pc : Int) + q.2).toNat)) = sw) (h3 : (ps.toList.zip (ps.toList.drop 1)).all (fun (a, next) => a.1 < next.1) = true) (h4 : ∀ q ∈ ps.toList, 0 ≤ (pc : Int) + q.2)
    (h : swp x a (fun t => Go G d k n0 n t lv r F I Q) sw) : Go G d k n0 n pc lv (.inr (.inl x) :: r) F I Q := by
  subst h2
  intro p e s m args below meth c H locs ls C hl hs
  have hx : iR x := ok_h hs
  obtain ⟨t, g1, g2⟩ := lk_off h4 h1 h
  exact lv_lookup (x := Int32.ofInt x) (tgt := t) C.1 C.2.1 hd h3 rfl (by rw [tI hx]; exact g2) (g1 p e s m args below meth c H locs ls C hl (ok_t hs))
theorem swp_mono {P P' : Nat → Prop} (hp : ∀ t, P t → P' t) : ∀ {l : List (Int × Nat)}, swp x a P l → swp x a P' l
  | [], h => hp _ h
  | (v, t) :: r, h => ⟨fun z => hp _ (h.1 z), fun z => swp_mono hp (h.2 z)⟩
theorem br_mono {c : Jvm.ClassFile.Cond} {x y : Int} {P P' R R' : Prop} (h1 : P → P') (h2 : R → R') (h : br c x y P R) : br c x y P' R' := by
  cases c <;> exact ⟨fun z => h1 (h.1 z), fun z => h2 (h.2 z)⟩
theorem ls1_mono {P P' : List (Option pV) → Prop} (hp : ∀ t, P t → P' t) {v : pV} : ∀ {lv : List (Option pV)} {a : Nat}, ls1 lv a v P → ls1 lv a v P' := by
  intro lv
  induction lv generalizing P P' with
  | nil => intro a h; exact hp _ h
  | cons x t ih =>
    intro a h
    match a, h with
    | 0, h => exact hp _ h
    | 1, h =>
      match x, h with
      | none, h => exact ih (P := fun t' => P (none :: t')) (P' := fun t' => P' (none :: t')) (fun t h => hp _ h) h
      | some (.inl r), h => exact ih (P := fun t' => P (some (.inl r) :: t')) (P' := fun t' => P' (some (.inl r) :: t')) (fun t h => hp _ h) h
      | some (.inr (.inl z)), h => exact ih (P := fun t' => P (some (.inr (.inl z)) :: t')) (P' := fun t' => P' (some (.inr (.inl z)) :: t')) (fun t h => hp _ h) h
      | some (.inr (.inr z)), h => exact ih (P := fun t' => P (none :: t')) (P' := fun t' => P' (none :: t')) (fun t h => hp _ h) h
    | j + 2, h => exact ih (P := fun t' => P (x :: t')) (P' := fun t' => P' (x :: t')) (fun t h => hp _ h) h
theorem ls2_mono {P P' : List (Option pV) → Prop} (hp : ∀ t, P t → P' t) {v : pV} : ∀ {lv : List (Option pV)} {a : Nat}, ls2 lv a v P → ls2 lv a v P' := by
  intro lv
  induction lv generalizing P P' with
  | nil => intro a h; exact hp _ h
  | cons x t ih =>
    intro a h
    match a, h with
    | 0, h =>
      match t, h with
      | [], h => exact hp _ h
      | _ :: _, h => exact hp _ h
    | 1, h =>
      match x, h with
      | none, h => exact ih (P := fun t' => P (none :: t')) (P' := fun t' => P' (none :: t')) (fun t h => hp _ h) h
      | some (.inl r), h => exact ih (P := fun t' => P (some (.inl r) :: t')) (P' := fun t' => P' (some (.inl r) :: t')) (fun t h => hp _ h) h
      | some (.inr (.inl z)), h => exact ih (P := fun t' => P (some (.inr (.inl z)) :: t')) (P' := fun t' => P' (some (.inr (.inl z)) :: t')) (fun t h => hp _ h) h
      | some (.inr (.inr z)), h => exact ih (P := fun t' => P (none :: t')) (P' := fun t' => P' (none :: t')) (fun t h => hp _ h) h
    | j + 2, h => exact ih (P := fun t' => P (x :: t')) (P' := fun t' => P' (x :: t')) (fun t h => hp _ h) h
theorem Met.mono {l : Launch} {y : MethodName} {ws : List Jvm.Cond} {rm : Room} {Pc : Array Value → State → Prop} {Q1 Q2 : Array Value → State → Outcome → State → Prop} {mc ms : Nat} {free : Addr → Prop} (hq : ∀ a st o t, Q1 a st o t → Q2 a st o t) (h : Met l y ws rm Pc Q1 mc ms free) : Met l y ws rm Pc Q2 mc ms free := by
  intro p e ha hc hk s m args below hf hap hP hK
  obtain ⟨t, o, h1, h2, h3, h4, h5⟩ := h p e ha hc hk s m args below hf hap hP hK
  exact ⟨t, o, h1, h2, h3, hq _ _ _ _ h4, h5⟩
theorem Call_mono {j : Nat} {as : List pV} {Q1 Q2 : Option pV → pF → pI → Prop} (hq : ∀ r F I, Q1 r F I → Q2 r F I) (h : Call G d j as n F I Q1) : Call G d j as n F I Q2 := by
  intro hok
  refine Met.mono (fun a st o t g => ⟨?_, g.2⟩) (h hok)
  obtain ⟨r, F', I', g1, g2, g3⟩ := g.1
  exact ⟨r, F', I', g1, hq _ _ _ g2, g3⟩
end MAIN
theorem nar_by {x : Int} (h : -128 ≤ x ∧ x < 128) : narrow .byte (.int (Int32.ofInt x)) = .int (Int32.ofInt x) := by
  show Value.int (Int32.ofInt x).toInt8.toInt32 = _
  rw [n_i2b (by unfold iR; omega), show wb x = x by unfold wb; omega]
theorem nar_c {x : Int} (h : 0 ≤ x ∧ x < 65536) : narrow .char (.int (Int32.ofInt x)) = .int (Int32.ofInt x) := by
  show Value.int ((Int32.ofInt x).toUInt32 % 65536).toInt32 = _
  rw [n_i2c (by unfold iR; omega), show x % 65536 = x by omega]

section STEP
variable {G : pG} {d k n0 n pc : Nat} {lv : List (Option pV)} {st : List pV} {F : pF} {I : pI} {Q : Option pV → pF → pI → Prop} {K : Nat → List (Option pV) → List pV → Nat → pF → pI → Prop} {e : pE}
theorem oc_c {j : Nat} (h : mO j < 13) : oC (mO j) = clC (mO j) := by
  have : ∀ o, o < 13 → oC o = clC o := c13 rfl rfl rfl rfl rfl rfl rfl rfl rfl rfl rfl rfl rfl
  exact this _ h
theorem cl_dc : ∀ a, a < 13 → ∀ b, b < clN a → (clT a b).1 = clC a := by
  have h : ∀ a, a < 13 → ∀ b, b < clN a → (clT a b).1 = clC a := c13 (by decide) (by decide) (by decide) (by decide) (by decide) (by decide) (by decide) (by decide) (by decide) (by decide) (by decide) (by decide) (by decide)
  exact h
set_option maxHeartbeats 4000000 in
theorem stp_Go (ho : oC (mO k) = (mY k).cls) (hc : chkE k pc e = true) (hK : ∀ pc' lv' st' n' F' I', K pc' lv' st' n' F' I' → Go G d k n0 n' pc' lv' st' F' I' Q) (hS : stp G d k n0 e lv st n F I Q K) : Go G d k n0 n pc lv st F I Q := by
  obtain ⟨ins, nx, a, b, h, f, z, v, sw⟩ := e
  obtain ⟨hd0, hi⟩ := b2 hc
  have hd : decode (mB k) pc = .ok (ins, nx - pc) := dt hd0
  clear hd0 hc
  cases ins with
  | iconst i =>
    dsimp only [stp, chkI] at hS hi
    obtain ⟨hn, hi⟩ := b2 hi
    have hn := dt hn
    rw [show nx - pc = 1 by omega] at hd
    obtain ⟨x, rfl, h1, h2⟩ := v32_ok hi
    exact g_iconst hd hn h1 h2 (hK _ _ _ _ _ _ hS)
  | bipush i =>
    dsimp only [stp, chkI] at hS hi
    obtain ⟨hn, hi⟩ := b2 hi
    have hn := dt hn
    rw [show nx - pc = 2 by omega] at hd
    obtain ⟨x, rfl, h1, h2⟩ := v32_ok hi
    exact g_bipush hd hn h1 h2 (hK _ _ _ _ _ _ hS)
  | sipush i =>
    dsimp only [stp, chkI] at hS hi
    obtain ⟨hn, hi⟩ := b2 hi
    have hn := dt hn
    rw [show nx - pc = 3 by omega] at hd
    obtain ⟨x, rfl, h1, h2⟩ := v32_ok hi
    exact g_sipush hd hn h1 h2 (hK _ _ _ _ _ _ hS)
  | lconst i =>
    dsimp only [stp, chkI] at hS hi
    obtain ⟨hn, hi⟩ := b2 hi
    have hn := dt hn
    rw [show nx - pc = 1 by omega] at hd
    obtain ⟨x, rfl, h1, h2⟩ := v64_ok hi
    exact g_lconst hd hn h1 h2 (hK _ _ _ _ _ _ hS)
  | ldc i =>
    dsimp only [stp, chkI] at hS hi
    obtain ⟨hn, hi⟩ := b2 hi
    have hn := dt hn
    rw [show nx - pc = 2 by omega] at hd
    split at hi
    next =>
      obtain ⟨h1, hi⟩ := b2 hi
      obtain ⟨h2, h3⟩ := b2 hi
      have h4 := dA_all SD_all (dt h2)
      have h3 := dt h3
      subst h3
      exact g_ldcS hd hn (dt h1) h4.2 (h4.1.trans ho) (hK _ _ _ _ _ _ hS)
    next =>
      split at hi
      next x =>
        obtain ⟨h1, h2⟩ := b2 hi
        obtain ⟨h1, h3⟩ := b2 h1
        have h4 := dA_all CD_all (dt h2)
        unfold cWd at h4
        rw [ho] at h4
        exact g_ldc hd hn h4 ⟨dt h1, dt h3⟩ (hK _ _ _ _ _ _ hS)
      next => cases hi
  | ldc_w i =>
    dsimp only [stp, chkI] at hS hi
    obtain ⟨hn, hi⟩ := b2 hi
    have hn := dt hn
    rw [show nx - pc = 3 by omega] at hd
    split at hi
    next x =>
      obtain ⟨h1, h2⟩ := b2 hi
      obtain ⟨h1, h3⟩ := b2 h1
      have h4 := dA_all CD_all (dt h2)
      unfold cWd at h4
      rw [ho] at h4
      exact g_ldcw hd hn h4 ⟨dt h1, dt h3⟩ (hK _ _ _ _ _ _ hS)
    next => cases hi
  | ldc2_w i =>
    dsimp only [stp, chkI] at hS hi
    obtain ⟨hn, hi⟩ := b2 hi
    have hn := dt hn
    rw [show nx - pc = 3 by omega] at hd
    split at hi
    next x =>
      obtain ⟨h1, h2⟩ := b2 hi
      obtain ⟨h1, h3⟩ := b2 h1
      have h4 := dA_all CL_all (dt h2)
      unfold lWd at h4
      rw [ho] at h4
      exact g_ldc2 hd hn h4 ⟨dt h1, dt h3⟩ (hK _ _ _ _ _ _ hS)
    next => cases hi
  | aconst_null =>
    dsimp only [stp, chkI] at hS hi
    have hn := dt hi
    rw [show nx - pc = 1 by omega] at hd
    exact g_null hd hn (hK _ _ _ _ _ _ hS)
  | iload_n i =>
    dsimp only [stp, chkI] at hS hi
    obtain ⟨hn, hi⟩ := b2 hi
    have hn := dt hn
    rw [show nx - pc = 1 by omega] at hd
    split at hS
    next x hx => exact g_iload_n hd hn (dt hi) hx (hK _ _ _ _ _ _ hS)
    next => exact hS.elim
  | lload_n i =>
    dsimp only [stp, chkI] at hS hi
    obtain ⟨hn, hi⟩ := b2 hi
    have hn := dt hn
    rw [show nx - pc = 1 by omega] at hd
    split at hS
    next x hx => exact g_lload_n hd hn (dt hi) hx (hK _ _ _ _ _ _ hS)
    next => exact hS.elim
  | aload_n i =>
    dsimp only [stp, chkI] at hS hi
    obtain ⟨hn, hi⟩ := b2 hi
    have hn := dt hn
    rw [show nx - pc = 1 by omega] at hd
    split at hS
    next x hx => exact g_aload_n hd hn (dt hi) hx (hK _ _ _ _ _ _ hS)
    next => exact hS.elim
  | iload i =>
    dsimp only [stp, chkI] at hS hi
    obtain ⟨hn, hi⟩ := b2 hi
    have hn := dt hn
    rw [show nx - pc = 2 by omega] at hd
    have hi := dt hi
    subst hi
    split at hS
    next x hx => exact g_iload hd hn hx (hK _ _ _ _ _ _ hS)
    next => exact hS.elim
  | lload i =>
    dsimp only [stp, chkI] at hS hi
    obtain ⟨hn, hi⟩ := b2 hi
    have hn := dt hn
    rw [show nx - pc = 2 by omega] at hd
    have hi := dt hi
    subst hi
    split at hS
    next x hx => exact g_lload hd hn hx (hK _ _ _ _ _ _ hS)
    next => exact hS.elim
  | aload i =>
    dsimp only [stp, chkI] at hS hi
    obtain ⟨hn, hi⟩ := b2 hi
    have hn := dt hn
    rw [show nx - pc = 2 by omega] at hd
    have hi := dt hi
    subst hi
    split at hS
    next x hx => exact g_aload hd hn hx (hK _ _ _ _ _ _ hS)
    next => exact hS.elim
  | istore_n i =>
    dsimp only [stp, chkI] at hS hi
    obtain ⟨hn, hi⟩ := b2 hi
    have hn := dt hn
    rw [show nx - pc = 1 by omega] at hd
    obtain ⟨h1, h2⟩ := b2 hi
    split at hS
    next => exact g_istore_n hd hn (dt h1) (dt h2) (ls1_mono (fun _ g => hK _ _ _ _ _ _ g) hS)
    next => exact hS.elim
  | astore_n i =>
    dsimp only [stp, chkI] at hS hi
    obtain ⟨hn, hi⟩ := b2 hi
    have hn := dt hn
    rw [show nx - pc = 1 by omega] at hd
    obtain ⟨h1, h2⟩ := b2 hi
    split at hS
    next => exact g_astore_n hd hn (dt h1) (dt h2) (ls1_mono (fun _ g => hK _ _ _ _ _ _ g) hS)
    next => exact hS.elim
  | lstore_n i =>
    dsimp only [stp, chkI] at hS hi
    obtain ⟨hn, hi⟩ := b2 hi
    have hn := dt hn
    rw [show nx - pc = 1 by omega] at hd
    obtain ⟨h1, h2⟩ := b2 hi
    split at hS
    next => exact g_lstore_n hd hn (dt h1) (dt h2) (ls2_mono (fun _ g => hK _ _ _ _ _ _ g) hS)
    next => exact hS.elim
  | istore i =>
    dsimp only [stp, chkI] at hS hi
    obtain ⟨hn, hi⟩ := b2 hi
    have hn := dt hn
    rw [show nx - pc = 2 by omega] at hd
    obtain ⟨h1, h2⟩ := b2 hi
    have h1 := dt h1
    subst h1
    split at hS
    next => exact g_istore hd hn (dt h2) (ls1_mono (fun _ g => hK _ _ _ _ _ _ g) hS)
    next => exact hS.elim
  | astore i =>
    dsimp only [stp, chkI] at hS hi
    obtain ⟨hn, hi⟩ := b2 hi
    have hn := dt hn
    rw [show nx - pc = 2 by omega] at hd
    obtain ⟨h1, h2⟩ := b2 hi
    have h1 := dt h1
    subst h1
    split at hS
    next => exact g_astore hd hn (dt h2) (ls1_mono (fun _ g => hK _ _ _ _ _ _ g) hS)
    next => exact hS.elim
  | lstore i =>
    dsimp only [stp, chkI] at hS hi
    obtain ⟨hn, hi⟩ := b2 hi
    have hn := dt hn
    rw [show nx - pc = 2 by omega] at hd
    obtain ⟨h1, h2⟩ := b2 hi
    have h1 := dt h1
    subst h1
    split at hS
    next => exact g_lstore hd hn (dt h2) (ls2_mono (fun _ g => hK _ _ _ _ _ _ g) hS)
    next => exact hS.elim
  | iinc i c =>
    dsimp only [stp, chkI] at hS hi
    obtain ⟨hn, hi⟩ := b2 hi
    have hn := dt hn
    rw [show nx - pc = 3 by omega] at hd
    obtain ⟨h1, hi⟩ := b2 hi
    obtain ⟨h2, h3⟩ := b2 hi
    have h1 := dt h1
    have h3 := dt h3
    subst h1
    subst h3
    split at hS
    next x hx => exact g_iinc hd hn (dt h2) hx (ls1_mono (fun _ g => hK _ _ _ _ _ _ g) hS)
    next => exact hS.elim
  | iadd =>
    dsimp only [stp, chkI] at hS hi
    have hn := dt hi
    rw [show nx - pc = 1 by omega] at hd
    split at hS
    next => exact g_iadd hd hn (hK _ _ _ _ _ _ hS)
    next => exact hS.elim
  | isub =>
    dsimp only [stp, chkI] at hS hi
    have hn := dt hi
    rw [show nx - pc = 1 by omega] at hd
    split at hS
    next => exact g_isub hd hn (hK _ _ _ _ _ _ hS)
    next => exact hS.elim
  | imul =>
    dsimp only [stp, chkI] at hS hi
    have hn := dt hi
    rw [show nx - pc = 1 by omega] at hd
    split at hS
    next => exact g_imul hd hn (hK _ _ _ _ _ _ hS)
    next => exact hS.elim
  | iand =>
    dsimp only [stp, chkI] at hS hi
    have hn := dt hi
    rw [show nx - pc = 1 by omega] at hd
    split at hS
    next => exact g_iand hd hn (hK _ _ _ _ _ _ hS)
    next => exact hS.elim
  | ior =>
    dsimp only [stp, chkI] at hS hi
    have hn := dt hi
    rw [show nx - pc = 1 by omega] at hd
    split at hS
    next => exact g_ior hd hn (hK _ _ _ _ _ _ hS)
    next => exact hS.elim
  | ixor =>
    dsimp only [stp, chkI] at hS hi
    have hn := dt hi
    rw [show nx - pc = 1 by omega] at hd
    split at hS
    next => exact g_ixor hd hn (hK _ _ _ _ _ _ hS)
    next => exact hS.elim
  | ishl =>
    dsimp only [stp, chkI] at hS hi
    have hn := dt hi
    rw [show nx - pc = 1 by omega] at hd
    split at hS
    next => exact g_ishl hd hn (hK _ _ _ _ _ _ hS)
    next => exact hS.elim
  | ishr =>
    dsimp only [stp, chkI] at hS hi
    have hn := dt hi
    rw [show nx - pc = 1 by omega] at hd
    split at hS
    next => exact g_ishr hd hn (hK _ _ _ _ _ _ hS)
    next => exact hS.elim
  | iushr =>
    dsimp only [stp, chkI] at hS hi
    have hn := dt hi
    rw [show nx - pc = 1 by omega] at hd
    split at hS
    next => exact g_iushr hd hn (hK _ _ _ _ _ _ hS)
    next => exact hS.elim
  | ladd =>
    dsimp only [stp, chkI] at hS hi
    have hn := dt hi
    rw [show nx - pc = 1 by omega] at hd
    split at hS
    next => exact g_ladd hd hn (hK _ _ _ _ _ _ hS)
    next => exact hS.elim
  | lsub =>
    dsimp only [stp, chkI] at hS hi
    have hn := dt hi
    rw [show nx - pc = 1 by omega] at hd
    split at hS
    next => exact g_lsub hd hn (hK _ _ _ _ _ _ hS)
    next => exact hS.elim
  | lmul =>
    dsimp only [stp, chkI] at hS hi
    have hn := dt hi
    rw [show nx - pc = 1 by omega] at hd
    split at hS
    next => exact g_lmul hd hn (hK _ _ _ _ _ _ hS)
    next => exact hS.elim
  | land =>
    dsimp only [stp, chkI] at hS hi
    have hn := dt hi
    rw [show nx - pc = 1 by omega] at hd
    split at hS
    next => exact g_land hd hn (hK _ _ _ _ _ _ hS)
    next => exact hS.elim
  | lor =>
    dsimp only [stp, chkI] at hS hi
    have hn := dt hi
    rw [show nx - pc = 1 by omega] at hd
    split at hS
    next => exact g_lor hd hn (hK _ _ _ _ _ _ hS)
    next => exact hS.elim
  | lshl =>
    dsimp only [stp, chkI] at hS hi
    have hn := dt hi
    rw [show nx - pc = 1 by omega] at hd
    split at hS
    next => exact g_lshl hd hn (hK _ _ _ _ _ _ hS)
    next => exact hS.elim
  | lshr =>
    dsimp only [stp, chkI] at hS hi
    have hn := dt hi
    rw [show nx - pc = 1 by omega] at hd
    split at hS
    next => exact g_lshr hd hn (hK _ _ _ _ _ _ hS)
    next => exact hS.elim
  | lcmp =>
    dsimp only [stp, chkI] at hS hi
    have hn := dt hi
    rw [show nx - pc = 1 by omega] at hd
    split at hS
    next => exact g_lcmp hd hn (hK _ _ _ _ _ _ hS)
    next => exact hS.elim
  | ineg =>
    dsimp only [stp, chkI] at hS hi
    have hn := dt hi
    rw [show nx - pc = 1 by omega] at hd
    split at hS
    next => exact g_ineg hd hn (hK _ _ _ _ _ _ hS)
    next => exact hS.elim
  | lneg =>
    dsimp only [stp, chkI] at hS hi
    have hn := dt hi
    rw [show nx - pc = 1 by omega] at hd
    split at hS
    next => exact g_lneg hd hn (hK _ _ _ _ _ _ hS)
    next => exact hS.elim
  | i2l =>
    dsimp only [stp, chkI] at hS hi
    have hn := dt hi
    rw [show nx - pc = 1 by omega] at hd
    split at hS
    next => exact g_i2l hd hn (hK _ _ _ _ _ _ hS)
    next => exact hS.elim
  | l2i =>
    dsimp only [stp, chkI] at hS hi
    have hn := dt hi
    rw [show nx - pc = 1 by omega] at hd
    split at hS
    next => exact g_l2i hd hn (hK _ _ _ _ _ _ hS)
    next => exact hS.elim
  | i2b =>
    dsimp only [stp, chkI] at hS hi
    have hn := dt hi
    rw [show nx - pc = 1 by omega] at hd
    split at hS
    next => exact g_i2b hd hn (hK _ _ _ _ _ _ hS)
    next => exact hS.elim
  | i2s =>
    dsimp only [stp, chkI] at hS hi
    have hn := dt hi
    rw [show nx - pc = 1 by omega] at hd
    split at hS
    next => exact g_i2s hd hn (hK _ _ _ _ _ _ hS)
    next => exact hS.elim
  | i2c =>
    dsimp only [stp, chkI] at hS hi
    have hn := dt hi
    rw [show nx - pc = 1 by omega] at hd
    split at hS
    next => exact g_i2c hd hn (hK _ _ _ _ _ _ hS)
    next => exact hS.elim
  | idiv =>
    dsimp only [stp, chkI] at hS hi
    have hn := dt hi
    rw [show nx - pc = 1 by omega] at hd
    split at hS
    next => exact g_idiv hd hn hS.1 (hK _ _ _ _ _ _ hS.2)
    next => exact hS.elim
  | irem =>
    dsimp only [stp, chkI] at hS hi
    have hn := dt hi
    rw [show nx - pc = 1 by omega] at hd
    split at hS
    next => exact g_irem hd hn hS.1 (hK _ _ _ _ _ _ hS.2)
    next => exact hS.elim
  | ldiv =>
    dsimp only [stp, chkI] at hS hi
    have hn := dt hi
    rw [show nx - pc = 1 by omega] at hd
    split at hS
    next => exact g_ldiv hd hn hS.1 (hK _ _ _ _ _ _ hS.2)
    next => exact hS.elim
  | dup =>
    dsimp only [stp, chkI] at hS hi
    have hn := dt hi
    rw [show nx - pc = 1 by omega] at hd
    split at hS
    next => exact g_dupI hd hn (hK _ _ _ _ _ _ hS)
    next => exact g_dupA hd hn (hK _ _ _ _ _ _ hS)
    next => exact hS.elim
  | dup2 =>
    dsimp only [stp, chkI] at hS hi
    have hn := dt hi
    rw [show nx - pc = 1 by omega] at hd
    split at hS
    next => exact g_dup2 hd hn (hK _ _ _ _ _ _ hS)
    next => exact hS.elim
  | pop =>
    dsimp only [stp, chkI] at hS hi
    have hn := dt hi
    rw [show nx - pc = 1 by omega] at hd
    split at hS
    next => exact g_popI hd hn (hK _ _ _ _ _ _ hS)
    next => exact g_popA hd hn (hK _ _ _ _ _ _ hS)
    next => exact hS.elim
  | pop2 =>
    dsimp only [stp, chkI] at hS hi
    have hn := dt hi
    rw [show nx - pc = 1 by omega] at hd
    split at hS
    next => exact g_pop2 hd hn (hK _ _ _ _ _ _ hS)
    next => exact hS.elim
  | goto off =>
    dsimp only [stp, chkI] at hS hi
    obtain ⟨hn, hi⟩ := b2 hi
    have hn := dt hn
    rw [show nx - pc = 3 by omega] at hd
    exact g_goto hd (dt hi) (hK _ _ _ _ _ _ hS)
  | if_icmp c off =>
    dsimp only [stp, chkI] at hS hi
    obtain ⟨hn, hi⟩ := b2 hi
    have hn := dt hn
    rw [show nx - pc = 3 by omega] at hd
    split at hS
    next => exact g_icmp hd hn (dt hi) (br_mono (fun g => hK _ _ _ _ _ _ g) (fun g => hK _ _ _ _ _ _ g) hS)
    next => exact hS.elim
  | ifCond c off =>
    dsimp only [stp, chkI] at hS hi
    obtain ⟨hn, hi⟩ := b2 hi
    have hn := dt hn
    rw [show nx - pc = 3 by omega] at hd
    split at hS
    next => exact g_if hd hn (dt hi) (br_mono (fun g => hK _ _ _ _ _ _ g) (fun g => hK _ _ _ _ _ _ g) hS)
    next => exact hS.elim
  | ifnull off =>
    dsimp only [stp, chkI] at hS hi
    obtain ⟨hn, hi⟩ := b2 hi
    have hn := dt hn
    rw [show nx - pc = 3 by omega] at hd
    split at hS
    next => exact g_ifnullN hd (dt hi) (hK _ _ _ _ _ _ hS)
    next => exact g_ifnullS hd hn (hK _ _ _ _ _ _ hS)
    next => exact hS.elim
  | ifnonnull off =>
    dsimp only [stp, chkI] at hS hi
    obtain ⟨hn, hi⟩ := b2 hi
    have hn := dt hn
    rw [show nx - pc = 3 by omega] at hd
    split at hS
    next => exact g_ifnonnullN hd hn (hK _ _ _ _ _ _ hS)
    next => exact g_ifnonnullS hd (dt hi) (hK _ _ _ _ _ _ hS)
    next => exact hS.elim
  | tableswitch df lo hi0 offs =>
    dsimp only [stp, chkI] at hS hi
    obtain ⟨h1, hi⟩ := b2 hi
    obtain ⟨h2, hi⟩ := b2 hi
    obtain ⟨h3, hi⟩ := b2 hi
    obtain ⟨h4, hi⟩ := b2 hi
    split at hS
    next => exact g_tab hd (dt h1) (dt h2) (dt h3) (fun o ho => dt (List.all_eq_true.mp h4 o ho)) (swp_mono (fun _ g => hK _ _ _ _ _ _ g) hS)
    next => exact hS.elim
  | lookupswitch df ps =>
    dsimp only [stp, chkI] at hS hi
    obtain ⟨h1, hi⟩ := b2 hi
    obtain ⟨h2, hi⟩ := b2 hi
    obtain ⟨h3, h4⟩ := b2 hi
    split at hS
    next => exact g_lks hd (dt h1) (dt h2) h3 (fun o ho => dt (List.all_eq_true.mp h4 o ho)) (swp_mono (fun _ g => hK _ _ _ _ _ _ g) hS)
    next => exact hS.elim
  | getstatic i =>
    dsimp only [stp, chkI] at hS hi
    obtain ⟨hn, hi⟩ := b2 hi
    have hn := dt hn
    rw [show nx - pc = 3 by omega] at hd
    split at hi
    next =>
      obtain ⟨h1, h2⟩ := b2 hi
      have h1 := dt h1
      subst h1
      have h4 : sWd (mO k, i, 1) ∈ goods := dA_all SP_all (dt h2)
      have h4 : Jvm.Cond.fieldLink (oC (mO k)) i "StrengthHouse$Piece" "ABOVE" "[I" ∈ goods := h4
      rw [ho] at h4
      exact g_stat (v := .inl (some (EXT + 1))) hd hn h4 (fun s H hX => hX.2.1.2) trivial (hK _ _ _ _ _ _ hS)
    next =>
      obtain ⟨h1, h2⟩ := b2 hi
      have h1 := dt h1
      subst h1
      have h4 : sWd (mO k, i, 2) ∈ goods := dA_all SP_all (dt h2)
      have h4 : Jvm.Cond.fieldLink (oC (mO k)) i "StrengthHouse$Voices" "BODIES" "[I" ∈ goods := h4
      rw [ho] at h4
      exact g_stat (v := .inl (some (EXT + 2))) hd hn h4 (fun s H hX => hX.2.2.1.2) trivial (hK _ _ _ _ _ _ hS)
    next =>
      obtain ⟨h1, h2⟩ := b2 hi
      have h1 := dt h1
      subst h1
      have h4 : sWd (mO k, i, 3) ∈ goods := dA_all SP_all (dt h2)
      have h4 : Jvm.Cond.fieldLink (oC (mO k)) i "java/lang/String" "COMPACT_STRINGS" "Z" ∈ goods := h4
      rw [ho] at h4
      exact g_stat (v := .inr (.inl 1)) hd hn h4 (fun s H hX => hX.2.2.2.1) (by show iR 1; unfold iR; omega) (hK _ _ _ _ _ _ hS)
    next =>
      have h4 : sWd (mO k, i, 4) ∈ goods := dA_all SP_all (dt hi)
      have h4 : Jvm.Cond.fieldLink (oC (mO k)) i "jdk/internal/util/Preconditions" "SIOOBE_FORMATTER" "Ljava/util/function/BiFunction;" ∈ goods := h4
      rw [ho] at h4
      intro p e s m args below meth c H locs ls C hl hs
      have hok : okV (gS G) := by rcases C.kx.sio with q | q <;> (rw [q]; trivial)
      exact g_stat hd hn h4 (fun s H hX => hX.2.2.2.2.1) hok (hK _ _ _ _ _ _ hS) p e s m args below meth c H locs ls C hl hs
    next => cases hi
  | getfield i =>
    dsimp only [stp, chkI] at hS hi
    obtain ⟨hn, hi⟩ := b2 hi
    have hn := dt hn
    rw [show nx - pc = 3 by omega] at hd
    split at hS
    next q r =>
      split at hi
      next =>
        obtain ⟨j, g1, g2, g3⟩ := hS
        have h4 : sWd (mO k, i, 5) ∈ goods := dA_all SP_all (dt hi)
        have h4 : Jvm.Cond.fieldLink (oC (mO k)) i "java/lang/String" "value" "[B" ∈ goods := h4
        rw [ho] at h4
        exact g_val hd hn h4 g1 g2 (hK _ _ _ _ _ _ g3)
      next =>
        obtain ⟨j, g1, g2, g3⟩ := hS
        have h4 : sWd (mO k, i, 6) ∈ goods := dA_all SP_all (dt hi)
        have h4 : Jvm.Cond.fieldLink (oC (mO k)) i "java/lang/String" "coder" "B" ∈ goods := h4
        rw [ho] at h4
        exact g_cod hd hn h4 g1 g2 (hK _ _ _ _ _ _ g3)
      next =>
          obtain ⟨m, g1, g2, g3⟩ := hS
          obtain ⟨h1, hi⟩ := b2 hi
          obtain ⟨h2, hi⟩ := b2 hi
          obtain ⟨h3, h4⟩ := b2 hi
          have h5 := dA_all FD_all (dt h4)
          unfold fW at h5
          rw [ho] at h5
          exact g_getI hd hn (dt h1) (dt h2) (dt h3) h5 g1 g2 (hK _ _ _ _ _ _ g3)
      next =>
          obtain ⟨m, g1, g2, g3⟩ := hS
          obtain ⟨h1, hi⟩ := b2 hi
          obtain ⟨h2, hi⟩ := b2 hi
          obtain ⟨h3, h4⟩ := b2 hi
          have h5 := dA_all FD_all (dt h4)
          unfold fW at h5
          rw [ho] at h5
          exact g_getI hd hn (dt h1) (dt h2) (dt h3) h5 g1 g2 (hK _ _ _ _ _ _ g3)
      next =>
          obtain ⟨m, g1, g2, g3⟩ := hS
          obtain ⟨h1, hi⟩ := b2 hi
          obtain ⟨h2, hi⟩ := b2 hi
          obtain ⟨h3, h4⟩ := b2 hi
          have h5 := dA_all FN_all (dt h4)
          unfold fN at h5
          rw [ho] at h5
          exact g_getIN hd hn (dt h1) (dt h2) (dt h3) h5 g1 g2 (hK _ _ _ _ _ _ g3)
      next =>
          obtain ⟨m, g1, g2, g3⟩ := hS
          obtain ⟨h1, hi⟩ := b2 hi
          obtain ⟨h2, hi⟩ := b2 hi
          obtain ⟨h3, h4⟩ := b2 hi
          have h5 := dA_all FN_all (dt h4)
          unfold fN at h5
          rw [ho] at h5
          exact g_getIN hd hn (dt h1) (dt h2) (dt h3) h5 g1 g2 (hK _ _ _ _ _ _ g3)
      next =>
          obtain ⟨m, g1, g2, g3⟩ := hS
          obtain ⟨h1, hi⟩ := b2 hi
          obtain ⟨h2, hi⟩ := b2 hi
          obtain ⟨h3, h4⟩ := b2 hi
          have h5 := dA_all FD_all (dt h4)
          unfold fW at h5
          rw [ho] at h5
          exact g_getR hd hn (dt h1) (dt h2) (dt h3) h5 g1 g2 (fun w hw => hK _ _ _ _ _ _ (g3 w hw))
      next =>
          obtain ⟨m, g1, g2, g3⟩ := hS
          obtain ⟨h1, hi⟩ := b2 hi
          obtain ⟨h2, hi⟩ := b2 hi
          obtain ⟨h3, h4⟩ := b2 hi
          have h5 := dA_all FN_all (dt h4)
          unfold fN at h5
          rw [ho] at h5
          exact g_getRN hd hn (dt h1) (dt h2) (dt h3) h5 g1 g2 (fun w hw => hK _ _ _ _ _ _ (g3 w hw))
      next => cases hi
    next => exact hS.elim
  | putfield i =>
    dsimp only [stp, chkI] at hS hi
    obtain ⟨hn, hi⟩ := b2 hi
    have hn := dt hn
    rw [show nx - pc = 3 by omega] at hd
    obtain ⟨p1, hi⟩ := b2 hi
    obtain ⟨p2, hi⟩ := b2 hi
    have p1 := dt p1
    have p2 := dt p2
    split at hS
    next x q r =>
      split at hi
      next =>
        obtain ⟨m, g1, g2, g3⟩ := hS
        obtain ⟨h1, hi⟩ := b2 hi
        obtain ⟨h2, hi⟩ := b2 hi
        obtain ⟨h3, h4⟩ := b2 hi
        have h5 := dA_all FD_all (dt h4)
        unfold fW at h5
        rw [ho] at h5
        have h3 := dt h3
        exact g_putI hd hn p1 p2 (dt h1) (dt h2) h5 g1 g2 (by rw [h3]; exact fit_i x) (hK _ _ _ _ _ _ g3)
      next =>
        obtain ⟨m, g1, g2, g3⟩ := hS
        obtain ⟨h1, hi⟩ := b2 hi
        obtain ⟨h2, hi⟩ := b2 hi
        obtain ⟨h3, h4⟩ := b2 hi
        have h5 := dA_all FN_all (dt h4)
        unfold fN at h5
        rw [ho] at h5
        have h3 := dt h3
        exact g_putIN hd hn p1 p2 (dt h1) (dt h2) h5 g1 g2 (by rw [h3]; exact fit_i x) (hK _ _ _ _ _ _ g3)
      next =>
        obtain ⟨m, g1, g2, g0, g3⟩ := hS
        obtain ⟨h1, hi⟩ := b2 hi
        obtain ⟨h2, hi⟩ := b2 hi
        obtain ⟨h3, h4⟩ := b2 hi
        have h5 := dA_all FD_all (dt h4)
        unfold fW at h5
        rw [ho] at h5
        have h3 := dt h3
        exact g_putI hd hn p1 p2 (dt h1) (dt h2) h5 g1 g2 (by rw [h3]; exact fit_z g0) (hK _ _ _ _ _ _ g3)
      next =>
        obtain ⟨m, g1, g2, g0, g3⟩ := hS
        obtain ⟨h1, hi⟩ := b2 hi
        obtain ⟨h2, hi⟩ := b2 hi
        obtain ⟨h3, h4⟩ := b2 hi
        have h5 := dA_all FN_all (dt h4)
        unfold fN at h5
        rw [ho] at h5
        have h3 := dt h3
        exact g_putIN hd hn p1 p2 (dt h1) (dt h2) h5 g1 g2 (by rw [h3]; exact fit_z g0) (hK _ _ _ _ _ _ g3)
      next => exact hS.elim
      next => exact hS.elim
      next => cases hi
    next w q r =>
      split at hi
      next => exact hS.elim
      next => exact hS.elim
      next => exact hS.elim
      next => exact hS.elim
      next =>
        obtain ⟨m, g1, g2, g3⟩ := hS
        obtain ⟨h1, hi⟩ := b2 hi
        obtain ⟨h2, hi⟩ := b2 hi
        obtain ⟨h3, h4⟩ := b2 hi
        have h5 := dA_all FD_all (dt h4)
        unfold fW at h5
        rw [ho] at h5
        exact g_putR hd hn p1 p2 (dt h1) (dt h2) h3 h5 g1 g2 (hK _ _ _ _ _ _ g3)
      next =>
        obtain ⟨m, g1, g2, g3⟩ := hS
        obtain ⟨h1, hi⟩ := b2 hi
        obtain ⟨h2, hi⟩ := b2 hi
        obtain ⟨h3, hi⟩ := b2 hi
        obtain ⟨h4, hi⟩ := b2 hi
        obtain ⟨h6, h7⟩ := b2 hi
        have h5 := dA_all FD_all (dt h7)
        unfold fW at h5
        rw [ho] at h5
        have h6 := dt h6
        exact g_putF hd hn p1 p2 (dt h1) (dt h2) (dt h4) (by rw [cl_dc a p1 b p2, ← ho, h6]; exact (c13 (P := fun o => clC o = oC o) rfl rfl rfl rfl rfl rfl rfl rfl rfl rfl rfl rfl rfl) a p1) h3 h5 g1 g2 (hK _ _ _ _ _ _ g3)
      next => cases hi
    next => exact hS.elim
  | iaload =>
    dsimp only [stp, chkI] at hS hi
    have hn := dt hi
    rw [show nx - pc = 1 by omega] at hd
    split at hS
    next i q r =>
      split at hS
      next =>
        obtain ⟨m, g1, g2, g3, g4, g5⟩ := hS
        exact g_iald hd hn g1 g2 g3 g4 (hK _ _ _ _ _ _ g5)
      next => exact g_scr hd hn hS.1 hS.2.1 hS.2.2.1 (hK _ _ _ _ _ _ hS.2.2.2)
      next =>
        rcases hS with ⟨g1, g2, g3, g4⟩ | ⟨g1, g2, g3, g4⟩
        · exact g_above hd hn g1 g2 g3 (hK _ _ _ _ _ _ g4)
        · exact g_bodies hd hn g1 g2 g3 (hK _ _ _ _ _ _ g4)
    next => exact hS.elim
  | baload =>
    dsimp only [stp, chkI] at hS hi
    have hn := dt hi
    rw [show nx - pc = 1 by omega] at hd
    split at hS
    next i q r =>
      split at hS
      next =>
        obtain ⟨m, g1, g2, g3, g4, g5⟩ := hS
        exact g_bald hd hn g1 g2 g3 g4 (hK _ _ _ _ _ _ g5)
      next =>
        obtain ⟨j, g1, g2, g3, g4, g5⟩ := hS
        exact g_strb hd hn g1 g2 g3 g4 (hK _ _ _ _ _ _ g5)
    next => exact hS.elim
  | aaload =>
    dsimp only [stp, chkI] at hS hi
    have hn := dt hi
    rw [show nx - pc = 1 by omega] at hd
    split at hS
    next i q r =>
      obtain ⟨t, m, g0, g1, g2, g3, g4, g5⟩ := hS
      exact g_aald hd hn g0 g1 g2 g3 g4 (fun w hw => hK _ _ _ _ _ _ (g5 w hw))
    next => exact hS.elim
  | iastore =>
    dsimp only [stp, chkI] at hS hi
    have hn := dt hi
    rw [show nx - pc = 1 by omega] at hd
    split at hS
    next =>
      obtain ⟨m, g1, g2, g3, g4, g5⟩ := hS
      exact g_iast hd hn g1 g2 g3 g4 (hK _ _ _ _ _ _ g5)
    next => exact hS.elim
  | bastore =>
    dsimp only [stp, chkI] at hS hi
    have hn := dt hi
    rw [show nx - pc = 1 by omega] at hd
    split at hS
    next =>
      obtain ⟨m, g1, g2, g3, g4, g5⟩ := hS
      exact g_bast hd hn g1 g2 g3 g4 (hK _ _ _ _ _ _ g5)
    next => exact hS.elim
  | aastore =>
    dsimp only [stp, chkI] at hS hi
    have hn := dt hi
    rw [show nx - pc = 1 by omega] at hd
    split at hS
    next =>
      obtain ⟨t, m, g1, g2, g3, g4, g0, g5⟩ := hS
      exact g_aast hd hn g1 g2 g3 g4 g0 (hK _ _ _ _ _ _ g5)
    next => exact hS.elim
  | arraylength =>
    dsimp only [stp, chkI] at hS hi
    have hn := dt hi
    rw [show nx - pc = 1 by omega] at hd
    split at hS
    next q r =>
      split at hS
      next =>
        obtain ⟨t, m, g0, g1, g2, g3⟩ := hS
        exact g_alen hd hn g0 g1 g2 (by have := lay_m q; rw [g1] at this; exact this) (hK _ _ _ _ _ _ g3)
      next => exact g_scrl hd hn hS.1 (hK _ _ _ _ _ _ hS.2)
      next =>
        rcases hS with ⟨g1, g2⟩ | ⟨g1, g2⟩ | ⟨j, g1, g2, g3⟩
        · exact g_abovel hd hn g1 (hK _ _ _ _ _ _ g2)
        · exact g_bodiesl hd hn g1 (hK _ _ _ _ _ _ g2)
        · exact g_strl hd hn g1 g2 (hK _ _ _ _ _ _ g3)
    next => exact hS.elim
  | new i =>
    dsimp only [stp, chkI] at hS hi
    obtain ⟨hn, hi⟩ := b2 hi
    have hn := dt hn
    rw [show nx - pc = 3 by omega] at hd
    obtain ⟨h1, h2⟩ := b2 hi
    have h1 := dt h1
    have h5 := dA_all LD_all (dt h2)
    unfold kWd at h5
    rw [ho] at h5
    exact g_new hd hn h1 h5 (ins_all a h1) (ini_all a h1) hS.1 hS.2.1 hS.2.2.1 (hK _ _ _ _ _ _ hS.2.2.2)
  | newarray t =>
    dsimp only [stp, chkI] at hS hi
    obtain ⟨hn, hi⟩ := b2 hi
    have hn := dt hn
    rw [show nx - pc = 2 by omega] at hd
    split at hS
    next x r =>
      obtain ⟨g1, g2, g3, g4, g5, g6⟩ := hS
      rw [Bool.or_eq_true] at hi
      rcases hi with hi | hi
      · obtain ⟨h1, h2⟩ := b2 hi
        have h1 := dt h1
        have h2 := dt h2
        subst h1
        exact g_newa hd hn (Or.inl ⟨rfl, h2⟩) ac_i g1 g2 g3 g4 g5 (hK _ _ _ _ _ _ g6)
      · obtain ⟨h1, h2⟩ := b2 hi
        have h1 := dt h1
        have h2 := dt h2
        subst h1
        exact g_newa hd hn (Or.inr ⟨rfl, h2⟩) ac_b g1 g2 g3 g4 g5 (hK _ _ _ _ _ _ g6)
    next => exact hS.elim
  | anewarray i =>
    dsimp only [stp, chkI] at hS hi
    obtain ⟨hn, hi⟩ := b2 hi
    have hn := dt hn
    rw [show nx - pc = 3 by omega] at hd
    obtain ⟨h1, h2⟩ := b2 hi
    have h5 := dA_all LD_all (dt h2)
    unfold kWd at h5
    rw [ho] at h5
    split at hS
    next x r =>
      obtain ⟨g1, g2, g3, g4, g5, g6⟩ := hS
      exact g_anew hd hn (dt h1) h5 g1 g2 g3 g4 g5 (hK _ _ _ _ _ _ g6)
    next => exact hS.elim
  | invokestatic i =>
    dsimp only [stp, chkI] at hS hi
    obtain ⟨hn, hi⟩ := b2 hi
    have hn := dt hn
    rw [show nx - pc = 3 by omega] at hd
    split at hi
    next =>
      split at hS
      next =>
        split at hS
        next =>
          obtain ⟨t, m1, m2, g1, g2, g3, g4, g5, g6, g7, g8, g9, g10, g11, g12, g13⟩ := hS
          have h4 : sWd (mO k, i, 7) ∈ goods := dA_all SP_all (dt hi)
          have h4 : Jvm.Cond.methodLink (oC (mO k)) i arraycopyName ∈ goods := h4
          rw [ho] at h4
          exact g_copy hd hn h4 cp_nat cp_stat cp_ini g1 g2 g3 g4 g5 g6 g7 g8 g9 g10 g11 g12 (hK _ _ _ _ _ _ g13)
        next => exact hS.elim
      next hne => exact absurd rfl hne
    next =>
      obtain ⟨h1, hi⟩ := b2 hi
      obtain ⟨h2, hi⟩ := b2 hi
      obtain ⟨h3, hi⟩ := b2 hi
      obtain ⟨h4, h5⟩ := b2 hi
      have h1 := dt h1
      have h2 := dt h2
      have h3 := dt h3
      have h6 := dA_all MD_all (dt h5)
      unfold mWd at h6
      rw [ho] at h6
      cases d with
      | zero => exact hS.elim
      | succ d =>
        obtain ⟨as, r, e1, e2, e3⟩ := popN_spec _ _ _ hS
        rw [List.append_nil] at e3
        subst e2
        cases hb : Nat.ble (ctgs r) 8 with
        | false => rw [hb] at e3; exact e3.elim
        | true =>
          rw [hb] at e3
          have e3 : CallN G d a as n F I _ := e3
          obtain ⟨e3⟩ := e3
          refine g_callS (j := a) hd hn (j_ok h1) (j_s h1 (dt h4)) h6 (by rw [e1, h2]) (Nat.le_of_ble_eq_true hb) h3 (Call_mono (fun rv F' I' g => ?_) e3)
          rw [h3]
          cases rv with
          | none => exact hK _ _ _ _ _ _ g
          | some w => exact hK _ _ _ _ _ _ g
    next =>
      obtain ⟨h1, hi⟩ := b2 hi
      obtain ⟨h2, hi⟩ := b2 hi
      obtain ⟨h3, hi⟩ := b2 hi
      obtain ⟨h4, h5⟩ := b2 hi
      have h1 := dt h1
      have h2 := dt h2
      have h3 := dt h3
      have h6 := dA_all MN_all (dt h5)
      unfold mNd at h6
      rw [ho] at h6
      cases d with
      | zero => exact hS.elim
      | succ d =>
        obtain ⟨as, r, e1, e2, e3⟩ := popN_spec _ _ _ hS
        rw [List.append_nil] at e3
        subst e2
        cases hb : Nat.ble (ctgs r) 8 with
        | false => rw [hb] at e3; exact e3.elim
        | true =>
          rw [hb] at e3
          have e3 : CallN G d a as n F I _ := e3
          obtain ⟨e3⟩ := e3
          refine g_callSN (j := a) hd hn (j_ok h1) (j_s h1 (dt h4)) h6 (by rw [e1, h2]) (Nat.le_of_ble_eq_true hb) h3 (Call_mono (fun rv F' I' g => ?_) e3)
          rw [h3]
          cases rv with
          | none => exact hK _ _ _ _ _ _ g
          | some w => exact hK _ _ _ _ _ _ g
    next => cases hi
  | invokevirtual i =>
    dsimp only [stp, chkI] at hS hi
    obtain ⟨hn, hi⟩ := b2 hi
    have hn := dt hn
    rw [show nx - pc = 3 by omega] at hd
    obtain ⟨h1, hi⟩ := b2 hi
    obtain ⟨h2, hi⟩ := b2 hi
    obtain ⟨h3, hi⟩ := b2 hi
    obtain ⟨h4, hi⟩ := b2 hi
    obtain ⟨h5, hi⟩ := b2 hi
    have h1 := dt h1
    have h2 := dt h2
    have h3 := dt h3
    obtain ⟨iv1, iv2⟩ := j_v h1 (dt h4)
    cases d with
    | zero => exact hS.elim
    | succ d =>
      obtain ⟨as, r, e1, e2, e3⟩ := popN_spec _ _ _ hS
      rw [List.append_nil] at e3
      subst e2
      match as, e1, e3 with
      | [], e1, e3 => exact e3.elim
      | .inr _ :: _, e1, e3 => exact e3.elim
      | .inl none :: _, e1, e3 => exact e3.elim
      | .inl (some q) :: as, e1, e3 =>
        dsimp only at e3
        cases hb : Nat.ble (ctgs r) 8 with
        | false => rw [hb] at e3; exact e3.elim
        | true =>
          rw [hb] at e3
          obtain ⟨e3, ⟨e4⟩⟩ := e3
          have hrc : Rcv G n q (mY a).cls := by
            match v, h5, e3 with
            | .inl none, _, e3 => exact e3.elim
            | .inr _, _, e3 => exact e3.elim
            | .inl (some c), h5, e3 =>
              dsimp only at h5 e3
              cases hcb : Nat.beq c 130 with
              | true =>
                rw [hcb] at h5 e3
                obtain ⟨i0, g1, g2⟩ := e3
                refine Or.inr ⟨i0, g1, g2, ?_⟩
                rw [← j_o h1, dt h5]
                rfl
              | false =>
                rw [hcb] at h5 e3
                obtain ⟨m0, g1, g2⟩ := e3
                obtain ⟨f1, f2⟩ := b2 h5
                have f1 := dt f1
                have f2 := dt f2
                refine Or.inl ⟨c, m0, f1, ?_, g1, g2⟩
                rw [← j_o h1, oc_c (by rw [f2]; exact f1), f2]
          have hlen : as.length = mN a := by
            have : as.length + 1 = b + 1 := e1
            omega
          rw [show (Sum.inl (some q) :: as : List pV).reverse ++ r = as.reverse ++ .inl (some q) :: r by simp]
          have hk2 : ∀ (rv : Option pV) (F' : pF) (I' : pI), (match rv with
              | none => K nx lv r n F' I'
              | some w => K nx lv (w :: r) n F' I') → (match rv with
              | none => Go G (d + 1) k n0 (n + alc a) nx lv r F' I' Q
              | some w => Go G (d + 1) k n0 (n + alc a) nx lv (w :: r) F' I' Q) := by
            intro rv F' I' g
            rw [h3]
            cases rv with
            | none => exact hK _ _ _ _ _ _ g
            | some w => exact hK _ _ _ _ _ _ g
          split at hi
          next =>
            have h6 := dA_all MD_all (dt hi)
            unfold mWd at h6
            rw [ho] at h6
            exact g_callV (j := a) hd hn (j_ok h1) iv1 iv2 h6 hrc hlen (Nat.le_of_ble_eq_true hb) h3 (Call_mono hk2 e4)
          next =>
            have h6 := dA_all MN_all (dt hi)
            unfold mNd at h6
            rw [ho] at h6
            exact g_callVN (j := a) hd hn (j_ok h1) iv1 iv2 h6 hrc hlen (Nat.le_of_ble_eq_true hb) h3 (Call_mono hk2 e4)
          next => cases hi
  | invokespecial i =>
    dsimp only [stp, chkI] at hS hi
    obtain ⟨hn, hi⟩ := b2 hi
    have hn := dt hn
    rw [show nx - pc = 3 by omega] at hd
    split at hi
    next =>
      split at hS
      next =>
        split at hS
        next w r =>
          have h4 : sWd (mO k, i, 8) ∈ goods := dA_all SP_all (dt hi)
          have h4 : Jvm.Cond.methodLink (oC (mO k)) i objectInit ∈ goods := h4
          rw [ho] at h4
          exact g_obj hd hn h4 in_obj code_obj hS.1 hS.2.1 (hK _ _ _ _ _ _ hS.2.2)
        next => exact hS.elim
      next hne => exact absurd rfl hne
    next =>
      obtain ⟨h1, hi⟩ := b2 hi
      obtain ⟨h2, hi⟩ := b2 hi
      obtain ⟨h3, hi⟩ := b2 hi
      obtain ⟨h4, h5⟩ := b2 hi
      have h1 := dt h1
      have h2 := dt h2
      have h3 := dt h3
      subst h3
      obtain ⟨iv1, iv2, iv3⟩ := j_i h1 (dt h4)
      have h6 := dA_all MD_all (dt h5)
      unfold mWd at h6
      rw [ho] at h6
      cases d with
      | zero => exact hS.elim
      | succ d =>
        obtain ⟨as, r, e1, e2, e3⟩ := popN_spec _ _ _ hS
        rw [List.append_nil] at e3
        subst e2
        match as, e1, e3 with
        | [], e1, e3 => exact e3.elim
        | .inr _ :: _, e1, e3 => exact e3.elim
        | .inl none :: _, e1, e3 => exact e3.elim
        | .inl (some q) :: as, e1, e3 =>
          dsimp only at e3
          obtain ⟨g1, g2, ⟨g3⟩⟩ := e3
          have hlen : as.length = mN a := by
            have : as.length + 1 = b + 1 := e1
            omega
          rw [show (Sum.inl (some q) :: as : List pV).reverse ++ r = as.reverse ++ .inl (some q) :: r by simp]
          refine g_callI (j := a) hd hn (j_ok h1) iv2 iv3 iv1 h6 hlen g1 g2 (Call_mono (fun rv F' I' g => ?_) g3)
          cases rv with
          | none => exact hK _ _ _ _ _ _ g
          | some w => exact g.elim
    next =>
      obtain ⟨h1, hi⟩ := b2 hi
      obtain ⟨h2, hi⟩ := b2 hi
      obtain ⟨h3, hi⟩ := b2 hi
      obtain ⟨h4, h5⟩ := b2 hi
      have h1 := dt h1
      have h2 := dt h2
      have h3 := dt h3
      subst h3
      obtain ⟨iv1, iv2, iv3⟩ := j_i h1 (dt h4)
      have h6 := dA_all MN_all (dt h5)
      unfold mNd at h6
      rw [ho] at h6
      cases d with
      | zero => exact hS.elim
      | succ d =>
        obtain ⟨as, r, e1, e2, e3⟩ := popN_spec _ _ _ hS
        rw [List.append_nil] at e3
        subst e2
        match as, e1, e3 with
        | [], e1, e3 => exact e3.elim
        | .inr _ :: _, e1, e3 => exact e3.elim
        | .inl none :: _, e1, e3 => exact e3.elim
        | .inl (some q) :: as, e1, e3 =>
          dsimp only at e3
          obtain ⟨g1, g2, ⟨g3⟩⟩ := e3
          have hlen : as.length = mN a := by
            have : as.length + 1 = b + 1 := e1
            omega
          rw [show (Sum.inl (some q) :: as : List pV).reverse ++ r = as.reverse ++ .inl (some q) :: r by simp]
          refine g_callIN (j := a) hd hn (j_ok h1) iv2 iv3 iv1 h6 hlen g1 g2 (Call_mono (fun rv F' I' g => ?_) g3)
          cases rv with
          | none => exact hK _ _ _ _ _ _ g
          | some w => exact g.elim
    next => cases hi
  | ireturn =>
    dsimp only [stp, chkI] at hS hi
    obtain ⟨hn, hi⟩ := b2 hi
    have hn := dt hn
    rw [show nx - pc = 1 by omega] at hd
    split at hS
    next x =>
      obtain ⟨g1, g2⟩ := hS
      split at hi
      next => exact g_iret hd (dt hi) rfl g1 g2
      next => exact g_iret hd (dt hi) (fit_z (G := G) g2.1).1 g1 g2.2
      next => exact g_iret hd (dt hi) (nar_c g2.1) g1 g2.2
      next h0 h1 h2 =>
        have g2 : (-128 ≤ x ∧ x < 128) ∧ Q (some (.inr (.inl x))) F I := by
          split at g2
          next => exact absurd rfl h0
          next => exact absurd rfl h1
          next => exact absurd rfl h2
          next => exact g2
        exact g_iret hd (dt hi) (nar_by g2.1) g1 g2.2
    next => exact hS.elim
  | lreturn =>
    dsimp only [stp, chkI] at hS hi
    obtain ⟨hn, hi⟩ := b2 hi
    have hn := dt hn
    rw [show nx - pc = 1 by omega] at hd
    split at hS
    next => exact g_lret hd (dt hi) hS.1 hS.2
    next => exact hS.elim
  | areturn =>
    dsimp only [stp, chkI] at hS hi
    obtain ⟨hn, hi⟩ := b2 hi
    have hn := dt hn
    rw [show nx - pc = 1 by omega] at hd
    split at hS
    next =>
      split at hi
      next hr => exact g_aret hd hr (Or.inl ⟨_, rfl⟩) hS.1 hS.2
      next hr => exact g_aret hd hr (Or.inr ⟨_, rfl⟩) hS.1 hS.2
      next => cases hi
    next => exact hS.elim
  | return_ =>
    dsimp only [stp, chkI] at hS hi
    obtain ⟨hn, hi⟩ := b2 hi
    have hn := dt hn
    rw [show nx - pc = 1 by omega] at hd
    split at hS
    next => exact g_vret hd (dt hi) hS.1 hS.2
    next => exact hS.elim
  | _ => exact hS.elim
end STEP
theorem wp_Go {G : pG} {d k n0 : Nat} {t : pT} {cuts : List Nat} {Q : Option pV → pF → pI → Prop} (ho : oC (mO k) = (mY k).cls) (hc : chkT k t = true) : ∀ (N pc : Nat) (lv : List (Option pV)) (st : List pV) (n : Nat) (F : pF) (I : pI), wp G d k n0 t cuts Q N pc lv st n F I → Go G d k n0 n pc lv st F I Q
  | 0, _, _, _, _, _, _, h => h.elim id
  | N + 1, pc, lv, st, n, F, I, h => by
    unfold wp at h
    cases hp : pAt t pc with
    | none => rw [hp] at h; exact h.elim
    | some e =>
      rw [hp] at h
      refine stp_Go ho (pAt_chk hc hp) (fun pc' lv' st' n' F' I' g => ?_) h
      cases hm : mmb cuts pc' with
      | true => rw [hm] at g; exact g.elim id
      | false => rw [hm] at g; exact wp_Go ho hc N _ _ _ _ _ _ g
/-- a stretch of a method -/
theorem Go_wp {G : pG} {d k n0 n pc : Nat} {t : pT} {lv : List (Option pV)} {st : List pV} {F : pF} {I : pI} {Q : Option pV → pF → pI → Prop} (hk : k < NM) (hc : chkT k t = true) (cuts : List Nat) (h : wp G d k n0 t cuts Q 2000 pc lv st n F I) : GoN G d k n0 n pc lv st F I Q := ⟨wp_Go (j_o hk) hc _ _ _ _ _ _ _ h⟩
/-- a whole method -/
theorem Call_wp {G : pG} {d k n : Nat} {t : pT} {as : List pV} {lv : List (Option pV)} {F : pF} {I : pI} {Q : Option pV → pF → pI → Prop} (hk : k < NM) (hc : chkT k t = true) (cuts : List Nat) (hlv : lvE k as = lv) (hlen : Nat.ble (lvA as).length (mL k) = true) (h : wp G d k n t cuts Q 2000 0 lv [] n F I) : CallN G d k as n F I Q := by
  refine ⟨Call_Go (j_ok hk) (j_pn hk) (fun e => (j_i hk e).2.1) (Nat.le_of_ble_eq_true hlen) ?_⟩
  rw [hlv]
  exact (Go_wp hk hc cuts h).elim id
theorem CallN_mono {G : pG} {d j n : Nat} {as : List pV} {F : pF} {I : pI} {Q1 Q2 : Option pV → pF → pI → Prop} (hq : ∀ r F I, Q1 r F I → Q2 r F I) (h : CallN G d j as n F I Q1) : CallN G d j as n F I Q2 := ⟨Call_mono hq (h.elim id)⟩
