/-! calls, returns, entries, for the walking machine. Own work. -/
theorem nest_warm {w : Jvm.Cond} (hn : isNest w = true) {s U : State} (hW : s.WarmedH U.vm) (h : va_Nw w s) : va_Nw w U := by
  cases w <;> first | (cases hn; done) | exact va_Nw.warmF hW h | exact va_Nw.warmM hW h
theorem KX.mv {G : pG} {s U : State} {H H' : Heap} (h : KX G s H) (hW : s.WarmedH U.vm) (hq : ∀ q : Nat, q < H.size → ¬ A0 G q → H'[q]? = H[q]?) : KX G U H' := by
  obtain ⟨⟨h1, h1'⟩, ⟨h2, h2'⟩, ⟨h3, h3'⟩, h4, h5, h6, h7, h8, h9, ⟨a1, a2, a3, a4⟩, h11⟩ := h
  have hv := hW.alike
  refine ⟨⟨(h1.kept ?_).moved hv, h1'⟩, ⟨(h2.kept hq).moved hv, (h2'.kept hq).moved hv⟩, ⟨(h3.kept hq).moved hv, (h3'.kept hq).moved hv⟩, (h4.kept hq).moved hv, (h5.kept hq).moved hv, fun i hi => ?_, fun c q hc => u_Kn_moved hv (h7 c q hc), fun t ht => ⟨arrOfT_moved hv (h8 t ht).1, (h8 t ht).2.moved hv⟩, fun w hw hn => nest_warm hn hW (h9 w hw hn), ⟨a1.moved hv, a2.moved hv, a3.moved hv, a4.moved hv⟩, h11⟩
  · obtain ⟨scr, g1, -⟩ := h1
    exact hq _ (Array.getElem?_eq_some_iff.mp g1).1 (Nat.not_le.mpr h1')
  · obtain ⟨t1, t2, t3, t4, t5⟩ := h6 i hi
    exact ⟨(t1.kept hq).moved hv, (t2.kept hq).moved hv, (t3.kept hq).moved hv, (t4.kept hq).moved hv, t5.warm hW⟩
theorem Pc_blind (G : pG) (as : List pV) (n : Nat) (F : pF) (I : pI) : FrameBlind (Pc G as n F I) := by
  intro a U g mk h
  exact ⟨h.1, h.2.1.mv (State.WarmedH.refl U) (fun _ _ _ => rfl), h.2.2⟩
section CALLS
variable {p : Program} {l : Launch} {e : Env} {R : Room} {s : State} {m : MethodId} {args : Array Value} {below : List Frame} {meth : Method} {c : Code} {H : Heap} {locs : List Loc} {cells slots : Nat} {Q : State → Prop}
variable {pc : Nat} {ls : Array Slot} {rest st0 : List Value} {A1 : Nat → Prop} {mc ms : Nat} {free : Addr → Prop} {Qa : State → Outcome → State → Prop}
theorem after_call (hr : va_Run p l e R s m args below meth c H locs cells slots mc ms (F0 m pc ls st0) rest Qa free)
    (kk : ∀ (v : Option Value) (st t : State) (L : List Loc), st.heap = H → Qa st (.returned v) t → (∀ q ∈ L, free q.base) → W p l e R s m args below meth c t.heap (locs ++ L) (cells + mc) (slots + ms) Q (F0 m (pc + 3) ls (v.toList ++ rest))) : W p l e R s m args below meth c H locs cells slots Q (F0 m pc ls st0) := by
  intro T hT X
  obtain ⟨v, st₀, t, T', L, h0, X', hL, e1, e2, hqa, st⟩ := hr T hT X
  obtain ⟨t2, a1, b1⟩ := kk v st₀ t L h0 hqa hL T' e1 X'
  exact ⟨t2, st t2 a1, b1⟩
end CALLS
/-- what the tables say of method j -/
def mOK (j : Nat) : Prop := Jvm.Cond.code (mY j) (mB j) (mL j) (mR j) ∈ goods ∧ Jvm.Cond.initialized (mY j).cls ∈ goods ∧ ((mY j).cls ≠ "java/lang/invoke/MethodHandle" ∧ (mY j).cls ≠ "java/lang/invoke/VarHandle") ∧ (parseMethodDescriptor (mY j).desc).map (fun d => d.parameters.length) = some (mN j) ∧ mL j ≤ 40
section CL
variable {G : pG} {d k n0 n pc nx a b i q mm j : Nat} {lv : List (Option pV)} {r as : List pV} {F : pF} {I : pI} {Q : Option pV → pF → pI → Prop} {x y z : Int} {v : pV}
theorem good_word {w : Jvm.Cond} (h : w ∈ goods) : (w.onTables && w.keeps) = true ∨ ∃ ty, w = .arrayClass ty := good_of_word (List.mem_filter.mp h).2
/-- the words of a callee hold later, too -/
theorem ws_later {s : State} {args : Array Value} (hts : ∀ w ∈ goods, w.before args s = true) (hj : Jvm.Cond.code (mY j) (mB j) (mL j) (mR j) ∈ goods) : ∀ w ∈ mW j, ∀ (a' : Array Value) (U : State), s.WarmedH U.vm → w.before a' U = true := by
  intro w hw a' U hW
  have hg : w ∈ goods := by
    rcases List.mem_cons.mp hw with rfl | h
    · exact hj
    · exact h
  exact word_at hW (good_word hg) (hts w hg)
theorem back_to {p : Program} {e : Env} {s : State} {m : MethodId} {args : Array Value} {below : List Frame} {meth : Method} {c : Code} {H : Heap} {locs : List Loc} {ls : Array Slot} {st0 : List Value} {rest : List pV} {arr : Array Value}
    (C : Ct G d k n0 n F I p e s m args meth c H locs) (hl : Hs G k ls lv) (hrs : ∀ v ∈ rest, okV v) (hnz : n + alc j ≤ n0 + alc k)
    (hr : va_Run p (gL G) e (Rm d k n0) s m args below meth c H locs (n - n0) (sz n - sz n0) (alc j) (sz (n + alc j) - sz n) (F0 m pc ls st0) (rest.map (tr G)) (fun st o t => Qc G (n + alc j) (fun rv F' I' => match rv with
      | none => Go G d k n0 (n + alc j) (pc + 3) lv rest F' I' Q
      | some w => Go G d k n0 (n + alc j) (pc + 3) lv (w :: rest) F' I' Q) arr st o t ∧ va_F (A0 G) st t) (A0 G)) :
    W p (gL G) e (Rm d k n0) s m args below meth c H locs (n - n0) (sz n - sz n0) (MQ below (fun a st o t => Qc G (n0 + alc k) Q a st o t ∧ va_F (A0 G) st t) args s (alc k) (sz (n0 + alc k) - sz n0) (A0 G)) (F0 m pc ls st0) := by
  refine after_call hr (fun v st t L h0 hq hL => ?_)
  obtain ⟨⟨rv, F', I', e1, e2, e3, e4⟩, e5⟩ := hq
  have hn0 := C.n0
  have g1 := sz_le hn0
  have g2 := sz_le (Nat.le_add_right n (alc j))
  rw [show n - n0 + alc j = n + alc j - n0 by omega, show sz n - sz n0 + (sz (n + alc j) - sz n) = sz (n + alc j) - sz n0 by omega]
  have hS : va_S (A0 G) s.heap t.heap (locs ++ L) := by
    refine ⟨Nat.le_trans C.S.1 (by rw [← h0]; exact e5.1), fun q g3 g4 => ?_, fun q hq => ?_⟩
    · rw [e5.2 q (by rw [h0]; exact Nat.lt_of_lt_of_le g3 C.S.1) g4, h0]
      exact C.S.2.1 q g3 g4
    · rcases List.mem_append.mp hq with h | h
      · exact C.S.2.2 q h
      · exact hL q h
  cases rv with
  | none =>
    cases e1
    exact e2 p e s m args below meth c t.heap (locs ++ L) ls (C.mv (by omega) hnz e3 hS) hl hrs
  | some w =>
    cases e1
    exact e2 p e s m args below meth c t.heap (locs ++ L) ls (C.mv (by omega) hnz e3 hS) hl (ok_c (e4 w rfl) hrs)
theorem room_ok (hn : n0 ≤ n) (hj : mL j ≤ 40) (hnz : n + alc j ≤ n0 + alc k) : ((Rm d j n).cells = alc j ∧ (Rm d j n).slots = sz (n + alc j) - sz n ∧ (Rm d j n).frames + 1 ≤ (Rm (d + 1) k n0).frames ∧ 8 + (mL j + 11) + (Rm d j n).locals ≤ (Rm (d + 1) k n0).locals) ∧ (n - n0 + alc j ≤ (Rm (d + 1) k n0).cells ∧ sz n - sz n0 + (sz (n + alc j) - sz n) ≤ (Rm (d + 1) k n0).slots) := by
  have h1 := sz_le hn
  have h2 := sz_le (Nat.le_add_right n (alc j))
  have h3 := sz_le hnz
  refine ⟨⟨rfl, rfl, Nat.le_refl _, ?_⟩, ?_, ?_⟩
  · show 8 + (mL j + 11) + 64 * d ≤ 64 * (d + 1)
    omega
  · show n - n0 + alc j ≤ alc k
    omega
  · show sz n - sz n0 + (sz (n + alc j) - sz n) ≤ sz (n0 + alc k) - sz n0
    omega
theorem args_arr (G : pG) (as : List pV) : (as.map (tr G)).toArray = (as.map (tr G)).toArray := rfl
theorem pre_at {p : Program} {e : Env} {s : State} {m : MethodId} {args : Array Value} {meth : Method} {c : Code} {H : Heap} {locs : List Loc} (C : Ct G d k n0 n F I p e s m args meth c H locs) : ∀ U : State, U.heap = H → s.WarmedH U.vm → Pc G as n F I (as.map (tr G)).toArray U := by
  intro U hU hW
  refine ⟨rfl, C.kx.mv hW (fun q g1 g2 => ?_), by rw [hU]; exact C.wd⟩
  rw [hU]
  exact C.S.2.1 q g1 g2
theorem g_callS (hd : decode (mB k) pc = .ok (.invokestatic i, 3)) (hn : nx = pc + 3) (hj : mOK j) (hst : Jvm.Cond.static (mY j) ∈ goods) (hlk : Jvm.Cond.methodLink (mY k).cls i (mY j) ∈ goods) (hlen : as.length = mN j) (hr : ctgs r ≤ 8) (hz : alc j = 0)
    (h : Call G d j as n F I (fun rv F' I' => match rv with
      | none => Go G (d + 1) k n0 (n + alc j) nx lv r F' I' Q
      | some w => Go G (d + 1) k n0 (n + alc j) nx lv (w :: r) F' I' Q)) : Go G (d + 1) k n0 n pc lv (as.reverse ++ r) F I Q := by
  intro p e s m args below meth c H locs ls C hl hs
  subst hn
  obtain ⟨j1, j2, j3, j4, j5⟩ := hj
  have hnz : n + alc j ≤ n0 + alc k := by rw [hz]; exact C.n1
  obtain ⟨⟨q1, q2, q3, q4⟩, q5⟩ := room_ok (d := d) C.n0 j5 hnz
  have hok : ∀ v ∈ as, okV v := fun v hv => hs v (List.mem_append_left _ (List.mem_reverse.mpr hv))
  have hM := h hok
  refine back_to C hl (fun v hv => hs v (List.mem_append_right _ hv)) hnz (arr := (as.map (tr G)).toArray) ?_
  refine va_runS (As := as.map (tr G)) (Ts := goods) (nL := mL k) ⟨C.1, C.2.1, C.2.2.2.2.1, C.own, C.hts⟩ hM ⟨⟨q1, q2, q3, q4, ws_later C.hts j1, List.mem_cons_self, C.hts _ j1, C.hts _ j2, j3, fun sig hsig => ?_, C.hts _ hlk⟩, C.hts _ hst⟩ ⟨Pc_blind G as n F I, pre_at C⟩ rfl rfl hl.1 (by show List.map (tr G) (as.reverse ++ r) = _; rw [List.map_append, List.map_reverse]) (lv_room (by rw [ctgs_sum]; exact hr)) hd q5
  · rw [hsig] at j4
    rw [List.length_map, hlen]
    exact (Option.some.inj j4).symm
theorem g_callSN {host : String} (hd : decode (mB k) pc = .ok (.invokestatic i, 3)) (hn : nx = pc + 3) (hj : mOK j) (hst : Jvm.Cond.static (mY j) ∈ goods) (hlk : Jvm.Cond.methodLinkNest (mY k).cls i (mY j) host ∈ lw_tbl) (hlen : as.length = mN j) (hr : ctgs r ≤ 8) (hz : alc j = 0)
    (h : Call G d j as n F I (fun rv F' I' => match rv with
      | none => Go G (d + 1) k n0 (n + alc j) nx lv r F' I' Q
      | some w => Go G (d + 1) k n0 (n + alc j) nx lv (w :: r) F' I' Q)) : Go G (d + 1) k n0 n pc lv (as.reverse ++ r) F I Q := by
  intro p e s m args below meth c H locs ls C hl hs
  subst hn
  obtain ⟨j1, j2, j3, j4, j5⟩ := hj
  have hnz : n + alc j ≤ n0 + alc k := by rw [hz]; exact C.n1
  obtain ⟨⟨q1, q2, q3, q4⟩, q5⟩ := room_ok (d := d) C.n0 j5 hnz
  have hok : ∀ v ∈ as, okV v := fun v hv => hs v (List.mem_append_left _ (List.mem_reverse.mpr hv))
  have hM := h hok
  refine back_to C hl (fun v hv => hs v (List.mem_append_right _ hv)) hnz (arr := (as.map (tr G)).toArray) ?_
  refine va_runSN (As := as.map (tr G)) (Ts := goods) (nL := mL k) (host := host) ⟨C.1, C.2.1, C.2.2.2.2.1, C.own, C.hts⟩ hM ⟨⟨⟨q1, q2, q3, q4, ws_later C.hts j1, List.mem_cons_self⟩, C.hts _ j1, C.hts _ j2, j3, fun sig hsig => ?_, va_Nw.use rfl (C.kx.nest _ hlk rfl)⟩, C.hts _ hst, trivial⟩ ⟨Pc_blind G as n F I, pre_at C⟩ rfl rfl hl.1 (by show List.map (tr G) (as.reverse ++ r) = _; rw [List.map_append, List.map_reverse]) (lv_room (by rw [ctgs_sum]; exact hr)) hd q5
  · rw [hsig] at j4
    rw [List.length_map, hlen]
    exact (Option.some.inj j4).symm
/-- the receiver of a call -/
def Rcv (G : pG) (n q : Nat) (C : String) : Prop := (∃ c m, c < 13 ∧ C = clC c ∧ lay q = (c, m) ∧ q < n) ∨ (∃ i, i < 18 ∧ q = EXT + 10 + i ∧ C = "java/lang/String")
theorem rcv_at {Cn : String} {p : Program} {e : Env} {s : State} {m : MethodId} {args : Array Value} {meth : Method} {c : Code} {H : Heap} {locs : List Loc} (C : Ct G d k n0 n F I p e s m args meth c H locs) (h : Rcv G n q Cn) : ∃ cellB : Cell, H[ad G q]? = some cellB ∧ cellB.vm.isStatics = false ∧ s.vm.findClass Cn = some cellB.cls := by
  rcases h with ⟨c0, m0, hc, rfl, hq, hqn⟩ | ⟨i0, hi, rfl, rfl⟩
  · have h0 := wL_at G F I hqn
    rw [cE_obj hq hc] at h0
    rw [ad_w G (by have := C.wd.ext; omega)]
    exact va_recv C.kx.K0 C.wd.2.1 (cl_get hc) h0
  · obtain ⟨cell, f1, f2, f3, f4⟩ := (C.kx.txt i0 hi).1
    exact ⟨cell, (C.S.2.1 _ (Array.getElem?_eq_some_iff.mp f1).1 f4).trans f1, f2, f3⟩
theorem g_callV (hd : decode (mB k) pc = .ok (.invokevirtual i, 3)) (hn : nx = pc + 3) (hj : mOK j) (hst : Jvm.Cond.instanceMethod (mY j) ∈ goods) (hsel : Jvm.Cond.selects (mY j).cls (mY j) (mY j) ∈ goods) (hlk : Jvm.Cond.methodLink (mY k).cls i (mY j) ∈ goods) (hrc : Rcv G n q (mY j).cls) (hlen : as.length = mN j) (hr : ctgs r ≤ 8) (hz : alc j = 0)
    (h : Call G d j (.inl (some q) :: as) n F I (fun rv F' I' => match rv with
      | none => Go G (d + 1) k n0 (n + alc j) nx lv r F' I' Q
      | some w => Go G (d + 1) k n0 (n + alc j) nx lv (w :: r) F' I' Q)) : Go G (d + 1) k n0 n pc lv (as.reverse ++ .inl (some q) :: r) F I Q := by
  intro p e s m args below meth c H locs ls C hl hs
  subst hn
  obtain ⟨j1, j2, j3, j4, j5⟩ := hj
  have hnz : n + alc j ≤ n0 + alc k := by rw [hz]; exact C.n1
  obtain ⟨⟨q1, q2, q3, q4⟩, q5⟩ := room_ok (d := d) C.n0 j5 hnz
  have hok : ∀ v ∈ (.inl (some q) :: as : List pV), okV v := ok_c trivial (fun v hv => hs v (List.mem_append_left _ (List.mem_reverse.mpr hv)))
  have hM := h hok
  refine back_to C hl (fun v hv => hs v (List.mem_append_right _ (List.mem_cons_of_mem _ hv))) hnz (arr := ((.inl (some q) :: as : List pV).map (tr G)).toArray) ?_
  refine va_runV (As := as.map (tr G)) (Ts := goods) (nL := mL k) (C := (mY j).cls) (b := ad G q) ⟨C.1, C.2.1, C.2.2.2.2.1, C.own, C.hts⟩ hM ⟨⟨q1, q2, q3, q4, ws_later C.hts j1, List.mem_cons_self, C.hts _ j1, C.hts _ j2, j3, fun sig hsig => ?_, C.hts _ hlk⟩, C.hts _ hst, C.hts _ hsel⟩ ⟨Pc_blind G _ n F I, rcv_at C hrc, pre_at (as := .inl (some q) :: as) C⟩ rfl rfl hl.1 (by show List.map (tr G) (as.reverse ++ .inl (some q) :: r) = _; rw [List.map_append, List.map_reverse]; rfl) (lv_room (by rw [ctgs_sum]; exact hr)) hd q5
  · rw [hsig] at j4
    rw [List.length_map, hlen]
    exact (Option.some.inj j4).symm
theorem g_callVN {host : String} (hd : decode (mB k) pc = .ok (.invokevirtual i, 3)) (hn : nx = pc + 3) (hj : mOK j) (hst : Jvm.Cond.instanceMethod (mY j) ∈ goods) (hsel : Jvm.Cond.selects (mY j).cls (mY j) (mY j) ∈ goods) (hlk : Jvm.Cond.methodLinkNest (mY k).cls i (mY j) host ∈ lw_tbl) (hrc : Rcv G n q (mY j).cls) (hlen : as.length = mN j) (hr : ctgs r ≤ 8) (hz : alc j = 0)
    (h : Call G d j (.inl (some q) :: as) n F I (fun rv F' I' => match rv with
      | none => Go G (d + 1) k n0 (n + alc j) nx lv r F' I' Q
      | some w => Go G (d + 1) k n0 (n + alc j) nx lv (w :: r) F' I' Q)) : Go G (d + 1) k n0 n pc lv (as.reverse ++ .inl (some q) :: r) F I Q := by
  intro p e s m args below meth c H locs ls C hl hs
  subst hn
  obtain ⟨j1, j2, j3, j4, j5⟩ := hj
  have hnz : n + alc j ≤ n0 + alc k := by rw [hz]; exact C.n1
  obtain ⟨⟨q1, q2, q3, q4⟩, q5⟩ := room_ok (d := d) C.n0 j5 hnz
  have hok : ∀ v ∈ (.inl (some q) :: as : List pV), okV v := ok_c trivial (fun v hv => hs v (List.mem_append_left _ (List.mem_reverse.mpr hv)))
  have hM := h hok
  refine back_to C hl (fun v hv => hs v (List.mem_append_right _ (List.mem_cons_of_mem _ hv))) hnz (arr := ((.inl (some q) :: as : List pV).map (tr G)).toArray) ?_
  refine va_runVN (As := as.map (tr G)) (Ts := goods) (nL := mL k) (C := (mY j).cls) (b := ad G q) (host := host) ⟨C.1, C.2.1, C.2.2.2.2.1, C.own, C.hts⟩ hM ⟨⟨⟨q1, q2, q3, q4, ws_later C.hts j1, List.mem_cons_self⟩, C.hts _ j1, C.hts _ j2, j3, fun sig hsig => ?_, va_Nw.use rfl (C.kx.nest _ hlk rfl)⟩, C.hts _ hst, C.hts _ hsel⟩ ⟨Pc_blind G _ n F I, rcv_at C hrc, pre_at (as := .inl (some q) :: as) C⟩ rfl rfl hl.1 (by show List.map (tr G) (as.reverse ++ .inl (some q) :: r) = _; rw [List.map_append, List.map_reverse]; rfl) (lv_room (by rw [ctgs_sum]; exact hr)) hd q5
  · rw [hsig] at j4
    rw [List.length_map, hlen]
    exact (Option.some.inj j4).symm
theorem g_callI (hd : decode (mB k) pc = .ok (.invokespecial i, 3)) (hn : nx = pc + 3) (hj : mOK j) (hnm : (mY j).name = "<init>") (hret : mR j = none) (hst : Jvm.Cond.instanceMethod (mY j) ∈ goods) (hlk : Jvm.Cond.methodLink (mY k).cls i (mY j) ∈ goods) (hlen : as.length = mN j) (hr : ctgs r ≤ 8) (hnz : n + alc j ≤ n0 + alc k)
    (h : Call G d j (.inl (some q) :: as) n F I (fun rv F' I' => match rv with
      | none => Go G (d + 1) k n0 (n + alc j) nx lv r F' I' Q
      | some w => Go G (d + 1) k n0 (n + alc j) nx lv (w :: r) F' I' Q)) : Go G (d + 1) k n0 n pc lv (as.reverse ++ .inl (some q) :: r) F I Q := by
  intro p e s m args below meth c H locs ls C hl hs
  subst hn
  obtain ⟨j1, j2, j3, j4, j5⟩ := hj
  obtain ⟨⟨q1, q2, q3, q4⟩, q5⟩ := room_ok (d := d) C.n0 j5 hnz
  have hok : ∀ v ∈ (.inl (some q) :: as : List pV), okV v := ok_c trivial (fun v hv => hs v (List.mem_append_left _ (List.mem_reverse.mpr hv)))
  have hM := h hok
  refine back_to C hl (fun v hv => hs v (List.mem_append_right _ (List.mem_cons_of_mem _ hv))) hnz (arr := ((.inl (some q) :: as : List pV).map (tr G)).toArray) ?_
  have hcode : Jvm.Cond.code (mY j) (mB j) (mL j) none ∈ mW j := by rw [← hret]; exact List.mem_cons_self
  refine va_runI (As := as.map (tr G)) (Ts := goods) (nL := mL k) (b := ad G q) (bytes := mB j) (maxL := mL j) ⟨C.1, C.2.1, C.2.2.2.2.1, C.own, C.hts⟩ hM ⟨⟨q1, q2, q3, q4, ws_later C.hts j1, hcode, by rw [← hret]; exact C.hts _ j1, C.hts _ j2, j3, fun sig hsig => ?_, C.hts _ hlk⟩, hnm, C.hts _ hst⟩ ⟨Pc_blind G _ n F I, pre_at (as := .inl (some q) :: as) C⟩ rfl rfl hl.1 (by show List.map (tr G) (as.reverse ++ .inl (some q) :: r) = _; rw [List.map_append, List.map_reverse]; rfl) (lv_room (by rw [ctgs_sum]; exact hr)) hd q5
  · rw [hsig] at j4
    rw [List.length_map, hlen]
    exact (Option.some.inj j4).symm
theorem g_callIN {host : String} (hd : decode (mB k) pc = .ok (.invokespecial i, 3)) (hn : nx = pc + 3) (hj : mOK j) (hnm : (mY j).name = "<init>") (hret : mR j = none) (hst : Jvm.Cond.instanceMethod (mY j) ∈ goods) (hlk : Jvm.Cond.methodLinkNest (mY k).cls i (mY j) host ∈ lw_tbl) (hlen : as.length = mN j) (hr : ctgs r ≤ 8) (hnz : n + alc j ≤ n0 + alc k)
    (h : Call G d j (.inl (some q) :: as) n F I (fun rv F' I' => match rv with
      | none => Go G (d + 1) k n0 (n + alc j) nx lv r F' I' Q
      | some w => Go G (d + 1) k n0 (n + alc j) nx lv (w :: r) F' I' Q)) : Go G (d + 1) k n0 n pc lv (as.reverse ++ .inl (some q) :: r) F I Q := by
  intro p e s m args below meth c H locs ls C hl hs
  subst hn
  obtain ⟨j1, j2, j3, j4, j5⟩ := hj
  obtain ⟨⟨q1, q2, q3, q4⟩, q5⟩ := room_ok (d := d) C.n0 j5 hnz
  have hok : ∀ v ∈ (.inl (some q) :: as : List pV), okV v := ok_c trivial (fun v hv => hs v (List.mem_append_left _ (List.mem_reverse.mpr hv)))
  have hM := h hok
  refine back_to C hl (fun v hv => hs v (List.mem_append_right _ (List.mem_cons_of_mem _ hv))) hnz (arr := ((.inl (some q) :: as : List pV).map (tr G)).toArray) ?_
  have hcode : Jvm.Cond.code (mY j) (mB j) (mL j) none ∈ mW j := by rw [← hret]; exact List.mem_cons_self
  refine va_runIN (As := as.map (tr G)) (Ts := goods) (nL := mL k) (b := ad G q) (host := host) (bytes := mB j) (maxL := mL j) ⟨C.1, C.2.1, C.2.2.2.2.1, C.own, C.hts⟩ hM ⟨⟨⟨q1, q2, q3, q4, ws_later C.hts j1, hcode⟩, by rw [← hret]; exact C.hts _ j1, C.hts _ j2, j3, fun sig hsig => ?_, va_Nw.use rfl (C.kx.nest _ hlk rfl)⟩, hnm, C.hts _ hst⟩ ⟨Pc_blind G _ n F I, pre_at (as := .inl (some q) :: as) C⟩ rfl rfl hl.1 (by show List.map (tr G) (as.reverse ++ .inl (some q) :: r) = _; rw [List.map_append, List.map_reverse]; rfl) (lv_room (by rw [ctgs_sum]; exact hr)) hd q5
  · rw [hsig] at j4
    rw [List.length_map, hlen]
    exact (Option.some.inj j4).symm
end CL
