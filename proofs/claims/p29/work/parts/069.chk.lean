/-! returns, entries; what is checked of a table; the walking machine is right. Own work. -/
section RET
variable {G : pG} {d k n0 n pc nx a : Nat} {lv : List (Option pV)} {r : List pV} {F : pF} {I : pI} {Q : Option pV → pF → pI → Prop} {x y z : Int} {v : pV}
theorem q_end {p : Program} {e : Env} {s t : State} {m : MethodId} {args : Array Value} {meth : Method} {c : Code} {H : Heap} {locs : List Loc} {rv : Option pV} (C : Ct G d k n0 (n0 + alc k) F I p e s m args meth c H locs) (hq : Q rv F I) (hv : ∀ v, rv = some v → okV v) (ht : t.heap = H) :
    Qc G (n0 + alc k) Q args s (.returned (rv.map (tr G))) t ∧ va_F (A0 G) s t := ⟨⟨rv, F, I, rfl, hq, by rw [ht]; exact C.wd, hv⟩, C.S.F ht⟩
theorem g_iret {ty : FieldType} (hd : decode (mB k) pc = .ok (.ireturn, 1)) (hr : mR k = some ty) (hn : narrow ty (.int (Int32.ofInt x)) = .int (Int32.ofInt x)) (hz : n = n0 + alc k) (h : Q (some (.inr (.inl x))) F I) : Go G d k n0 n pc lv [.inr (.inl x)] F I Q := by
  intro p e s m args below meth c H locs ls C hl hs
  subst hz
  rw [Nat.add_sub_cancel_left]
  exact W.zret C.1 C.2.1 (by rw [C.2.2.1, hr]) hn (fun t ht hW => q_end (rv := some (.inr (.inl x))) C h (fun v e => by cases e; exact ok_h hs) ht) C.S.2.2 hd C.2.2.2.1
theorem g_lret (hd : decode (mB k) pc = .ok (.lreturn, 1)) (hr : mR k = some .long) (hz : n = n0 + alc k) (h : Q (some (.inr (.inr x))) F I) : Go G d k n0 n pc lv [.inr (.inr x)] F I Q := by
  intro p e s m args below meth c H locs ls C hl hs
  subst hz
  rw [Nat.add_sub_cancel_left]
  exact W.lret C.1 C.2.1 (by rw [C.2.2.1, hr]) (fun t ht hW => q_end (rv := some (.inr (.inr x))) C h (fun v e => by cases e; exact ok_h hs) ht) C.S.2.2 hd C.2.2.2.1
theorem g_aret {w : Option Nat} {rt : FieldType} (hd : decode (mB k) pc = .ok (.areturn, 1)) (hr : mR k = some rt) (hrt : (∃ n, rt = .object n) ∨ ∃ t, rt = .array t) (hz : n = n0 + alc k) (h : Q (some (.inl w)) F I) : Go G d k n0 n pc lv [.inl w] F I Q := by
  intro p e s m args below meth c H locs ls C hl hs
  subst hz
  rw [Nat.add_sub_cancel_left]
  have h7 : tr G (.inl w) = .null ∨ ∃ a, tr G (.inl w) = .ref a := by
    cases w with
    | none => exact Or.inl rfl
    | some w => exact Or.inr ⟨_, rfl⟩
  exact W.aret (v := tr G (.inl w)) C.1 C.2.1 (by rw [C.2.2.1, hr]) hrt h7 (fun t ht hW => q_end (rv := some (.inl w)) C h (fun v e => by cases e; trivial) ht) C.S.2.2 hd C.2.2.2.1
theorem g_vret (hd : decode (mB k) pc = .ok (.return_, 1)) (hr : mR k = none) (hz : n = n0 + alc k) (h : Q none F I) : Go G d k n0 n pc lv [] F I Q := by
  intro p e s m args below meth c H locs ls C hl hs
  subst hz
  rw [Nat.add_sub_cancel_left]
  exact W.vret C.1 C.2.1 (by rw [C.2.2.1, hr]) (fun t ht hW => q_end (rv := none) C h (fun v e => by cases e) ht) C.S.2.2 hd C.2.2.2.1
theorem lvA_sl (G : pG) : ∀ as : List pV, (lg_sl (as.map (tr G))).length = (lvA as).length
  | [] => rfl
  | .inr (.inr z) :: t => by
    have := lvA_sl G t
    show (Slot.val _ :: Slot.second :: lg_sl (t.map (tr G))).length = _
    simp [lvA, this]
  | .inr (.inl z) :: t => by
    have := lvA_sl G t
    show (Slot.val _ :: lg_sl (t.map (tr G))).length = _
    simp [lvA, this]
  | .inl none :: t => by
    have := lvA_sl G t
    show (Slot.val _ :: lg_sl (t.map (tr G))).length = _
    simp [lvA, this]
  | .inl (some q) :: t => by
    have := lvA_sl G t
    show (Slot.val _ :: lg_sl (t.map (tr G))).length = _
    simp [lvA, this]
theorem lvA_in (G : pG) : ∀ (as : List pV) (j i : Nat) (w : pV), (lvA as)[i]? = some (some w) → w ∈ as ∧ (j + i, tr G w) ∈ lv_args j (as.map (tr G))
  | [], j, i, w, h => by simp [lvA] at h
  | .inr (.inr z) :: t, j, 0, w, h => by
    have h : some (some (Sum.inr (Sum.inr z))) = some (some w) := h
    cases h
    exact ⟨List.mem_cons_self, List.mem_cons_self⟩
  | .inr (.inr z) :: t, j, 1, w, h => by
    have h : some none = some (some w) := h
    cases h
  | .inr (.inr z) :: t, j, i + 2, w, h => by
    obtain ⟨h1, h2⟩ := lvA_in G t (j + 2) i w h
    refine ⟨List.mem_cons_of_mem _ h1, List.mem_cons_of_mem _ ?_⟩
    show (j + (i + 2), tr G w) ∈ lv_args (j + 2) (t.map (tr G))
    rw [show j + (i + 2) = j + 2 + i by omega]
    exact h2
  | .inr (.inl z) :: t, j, 0, w, h => by
    have h : some (some (Sum.inr (Sum.inl z))) = some (some w) := h
    cases h
    exact ⟨List.mem_cons_self, List.mem_cons_self⟩
  | .inr (.inl z) :: t, j, i + 1, w, h => by
    obtain ⟨h1, h2⟩ := lvA_in G t (j + 1) i w h
    refine ⟨List.mem_cons_of_mem _ h1, List.mem_cons_of_mem _ ?_⟩
    show (j + (i + 1), tr G w) ∈ lv_args (j + 1) (t.map (tr G))
    rw [show j + (i + 1) = j + 1 + i by omega]
    exact h2
  | .inl r :: t, j, 0, w, h => by
    have h : some (some (Sum.inl r)) = some (some w) := h
    cases h
    exact ⟨List.mem_cons_self, List.mem_cons_self⟩
  | .inl r :: t, j, i + 1, w, h => by
    obtain ⟨h1, h2⟩ := lvA_in G t (j + 1) i w h
    refine ⟨List.mem_cons_of_mem _ h1, List.mem_cons_of_mem _ ?_⟩
    show (j + (i + 1), tr G w) ∈ lv_args (if (tr G (.inl r)).category = 2 then j + 2 else j + 1) (t.map (tr G))
    rw [if_neg (by rw [ctg_tr]; show ¬ 1 = 2; omega), show j + (i + 1) = j + 1 + i by omega]
    exact h2
theorem lvN_none : ∀ (c i : Nat) (w : pV), (lvN c)[i]? ≠ some (some w)
  | 0, i, w => by simp [lvN]
  | c + 1, 0, w => by simp [lvN]
  | c + 1, i + 1, w => by simpa [lvN] using lvN_none c i w
theorem lvN_len : ∀ c, (lvN c).length = c
  | 0 => rfl
  | c + 1 => by simp [lvN, lvN_len c]
/-- the locals with which a method begins -/
def lvE (k : Nat) (as : List pV) : List (Option pV) := lvA as ++ lvN (mL k - (lvA as).length)
theorem Call_Go {as : List pV} (hj : mOK k) (hpl : plainFor (mY k) = true) (hin : mK k = 2 → (mY k).name = "<init>") (hlen : (lvA as).length ≤ mL k) (h : Go G d k n n 0 (lvE k as) [] F I Q) : Call G d k as n F I Q := by
  intro hok
  refine va_MetF (cc := mB k) (maxL := mL k) (ret := mR k) (ws' := goods) hpl rfl ?_
  intro p e s m args below meth c s₁ B hml hv
  obtain ⟨rfl, hX, hW⟩ := hv
  have hts : ∀ w ∈ mW k, w.before ((as.map (tr G)).toArray) s = true := atoms_spec (ws := mW k) B.pre
  have hown : s.vm.findClass (mY k).cls = some m.cls := findClass_of_methodNamed B.named
  have hC : Ct G d k n n F I p e s m ((as.map (tr G)).toArray) meth c s.heap [] :=
    ⟨B.exec, B.bytes, B.returns, B.notSynchronized, hml, hown, fun w hw => hts w (List.mem_cons_of_mem _ hw), fun hk => (name_of_methodNamed B.named B.method).1.trans (hin hk), hX, hW.1, Nat.le_refl _, Nat.le_add_right _ _, hW, va_S.rf⟩
  have hl := lv_entry (as.map (tr G)) (n := mL k) (by rw [lvA_sl]; exact hlen)
  rw [lg_entry_eq]
  generalize (lg_sl (as.map (tr G)) ++ List.replicate (mL k - (lg_sl (as.map (tr G))).length) Slot.unset).toArray = ls at hl ⊢
  have hH : Hs G k ls (lvE k as) := by
    refine ⟨hl.1, hl.2.1, ?_, fun i w hw => ?_⟩
    · unfold lvE
      rw [List.length_append, lvN_len]
      omega
    · unfold lvE at hw
      by_cases hi : i < (lvA as).length
      · rw [List.getElem?_append_left hi] at hw
        obtain ⟨h1, h2⟩ := lvA_in G as 0 i w hw
        rw [Nat.zero_add] at h2
        exact ⟨hok w h1, hl.2.2 _ h2⟩
      · rw [List.getElem?_append_right (by omega)] at hw
        exact absurd hw (lvN_none _ _ w)
  have := h p e s m _ below meth c s.heap [] ls hC hH (fun v hv => by cases hv)
  rw [Nat.sub_self, Nat.sub_self] at this
  exact this
end RET
def v32 (v : pV) (c : Int32) : Bool := match v with
  | .inr (.inl x) => decide (c = Int32.ofInt x) && (decide (-2147483648 ≤ x) && decide (x < 2147483648))
  | _ => false
def v64 (v : pV) (c : Int64) : Bool := match v with
  | .inr (.inr x) => decide (c = Int64.ofInt x) && (decide (-9223372036854775808 ≤ x) && decide (x < 9223372036854775808))
  | _ => false
theorem v32_ok {v : pV} {c : Int32} (h : v32 v c = true) : ∃ x, v = .inr (.inl x) ∧ c = Int32.ofInt x ∧ iR x := by
  unfold v32 at h
  split at h
  next x =>
    simp only [Bool.and_eq_true, decide_eq_true_eq] at h
    exact ⟨x, rfl, h.1, h.2⟩
  next => cases h
theorem v64_ok {v : pV} {c : Int64} (h : v64 v c = true) : ∃ x, v = .inr (.inr x) ∧ c = Int64.ofInt x ∧ lR x := by
  unfold v64 at h
  split at h
  next x =>
    simp only [Bool.and_eq_true, decide_eq_true_eq] at h
    exact ⟨x, rfl, h.1, h.2⟩
  next => cases h
def tsw (pc : Nat) (lo : Int) : List Int → List (Int × Nat)
  | [] => []
  | o :: r => (lo, ((pc : Int) + o).toNat) :: tsw pc (lo + 1) r
def chkI (k pc : Nat) (e : pE) : Bool := match e with
  | (ins, nx, a, b, h, f, z, v, sw) => match ins with
  | .iconst i => decide (nx = pc + 1) && v32 v (Int32.ofInt i)
  | .bipush i => decide (nx = pc + 2) && v32 v (Int8.ofInt i).toInt32
  | .sipush i => decide (nx = pc + 3) && v32 v (Int16.ofInt i).toInt32
  | .lconst i => decide (nx = pc + 1) && v64 v (Int64.ofNat (i : Nat))
  | .ldc i => decide (nx = pc + 2) && (match f with
    | 1 => decide (a < 18) && (decide (dA SDT h = some (mO k, i, a)) && decide (v = .inl (some (EXT + 10 + a))))
    | _ => (match v with
      | .inr (.inl x) => (decide (-2147483648 ≤ x) && decide (x < 2147483648)) && decide (dA CDT h = some (mO k, i, x))
      | _ => false))
  | .ldc_w i => decide (nx = pc + 3) && (match v with
      | .inr (.inl x) => (decide (-2147483648 ≤ x) && decide (x < 2147483648)) && decide (dA CDT h = some (mO k, i, x))
      | _ => false)
  | .ldc2_w i => decide (nx = pc + 3) && (match v with
      | .inr (.inr x) => (decide (-9223372036854775808 ≤ x) && decide (x < 9223372036854775808)) && decide (dA CLT h = some (mO k, i, x))
      | _ => false)
  | .aconst_null => decide (nx = pc + 1)
  | .iload_n i => decide (nx = pc + 1) && decide ((i : Nat) = a)
  | .lload_n i => decide (nx = pc + 1) && decide ((i : Nat) = a)
  | .aload_n i => decide (nx = pc + 1) && decide ((i : Nat) = a)
  | .iload i => decide (nx = pc + 2) && decide (i = a)
  | .lload i => decide (nx = pc + 2) && decide (i = a)
  | .aload i => decide (nx = pc + 2) && decide (i = a)
  | .istore_n i => decide (nx = pc + 1) && (decide ((i : Nat) = a) && decide (a < mL k))
  | .astore_n i => decide (nx = pc + 1) && (decide ((i : Nat) = a) && decide (a < mL k))
  | .lstore_n i => decide (nx = pc + 1) && (decide ((i : Nat) = a) && decide (a + 1 < mL k))
  | .istore i => decide (nx = pc + 2) && (decide (i = a) && decide (a < mL k))
  | .astore i => decide (nx = pc + 2) && (decide (i = a) && decide (a < mL k))
  | .lstore i => decide (nx = pc + 2) && (decide (i = a) && decide (a + 1 < mL k))
  | .iinc i c => decide (nx = pc + 3) && (decide (i = a) && (decide (a < mL k) && decide (v = .inr (.inl c))))
  | .goto off => decide (nx = pc + 3) && decide ((pc : Int) + off = (a : Int))
  | .if_icmp _ off => decide (nx = pc + 3) && decide ((pc : Int) + off = (a : Int))
  | .ifCond _ off => decide (nx = pc + 3) && decide ((pc : Int) + off = (a : Int))
  | .ifnull off => decide (nx = pc + 3) && decide ((pc : Int) + off = (a : Int))
  | .ifnonnull off => decide (nx = pc + 3) && decide ((pc : Int) + off = (a : Int))
  | .tableswitch df lo hi offs => decide ((pc : Int) + df = (a : Int)) && (decide (sw = tsw pc lo offs.toList) && (decide (hi + 1 = lo + (offs.toList.length : Int)) && (offs.toList.all (fun o => decide (0 ≤ (pc : Int) + o)) && (decide (-2147483648 ≤ lo) && decide (hi < 2147483648)))))
  | .lookupswitch df ps => decide ((pc : Int) + df = (a : Int)) && (decide (ps.toList.map (fun q => (q.1, ((pc : Int) + q.2).toNat)) = sw) && ((ps.toList.zip (ps.toList.drop 1)).all (fun (a, next) => a.1 < next.1) && ps.toList.all (fun q => decide (0 ≤ (pc : Int) + q.2))))
  | .getstatic i => decide (nx = pc + 3) && (match a with
    | 1 => decide (v = .inl (some (EXT + 1))) && decide (dA SPT h = some (mO k, i, 1))
    | 2 => decide (v = .inl (some (EXT + 2))) && decide (dA SPT h = some (mO k, i, 2))
    | 3 => decide (v = .inr (.inl 1)) && decide (dA SPT h = some (mO k, i, 3))
    | 4 => decide (dA SPT h = some (mO k, i, 4))
    | _ => false)
  | .getfield i => decide (nx = pc + 3) && (match f with
    | 6 => decide (dA SPT h = some (mO k, i, 5))
    | 7 => decide (dA SPT h = some (mO k, i, 6))
    | 0 => decide (a < 13) && (decide (b < clN a) && (decide (frf a b = false) && decide (dA FDT h = some (mO k, i, a, b))))
    | 2 => decide (a < 13) && (decide (b < clN a) && (decide (frf a b = false) && decide (dA FDT h = some (mO k, i, a, b))))
    | 1 => decide (a < 13) && (decide (b < clN a) && (decide (frf a b = false) && decide (dA FNT h = some (mO k, i, a, b))))
    | 3 => decide (a < 13) && (decide (b < clN a) && (decide (frf a b = false) && decide (dA FNT h = some (mO k, i, a, b))))
    | 4 => decide (a < 13) && (decide (b < clN a) && (decide (frf a b = true) && decide (dA FDT h = some (mO k, i, a, b))))
    | 5 => decide (a < 13) && (decide (b < clN a) && (decide (frf a b = true) && decide (dA FNT h = some (mO k, i, a, b))))
    | _ => false)
  | .putfield i => decide (nx = pc + 3) && (decide (a < 13) && (decide (b < clN a) && (match f with
    | 0 => decide (frf a b = false) && (decide ((clT a b).2.2.2 = false) && (decide (tyF a b = .int) && decide (dA FDT h = some (mO k, i, a, b))))
    | 1 => decide (frf a b = false) && (decide ((clT a b).2.2.2 = false) && (decide (tyF a b = .int) && decide (dA FNT h = some (mO k, i, a, b))))
    | 2 => decide (frf a b = false) && (decide ((clT a b).2.2.2 = false) && (decide (tyF a b = .boolean) && decide (dA FDT h = some (mO k, i, a, b))))
    | 3 => decide (frf a b = false) && (decide ((clT a b).2.2.2 = false) && (decide (tyF a b = .boolean) && decide (dA FNT h = some (mO k, i, a, b))))
    | 4 => decide (frf a b = true) && (decide ((clT a b).2.2.2 = false) && (isR (tyF a b) && decide (dA FDT h = some (mO k, i, a, b))))
    | 14 => decide (frf a b = true) && (decide ((clT a b).2.2.2 = true) && (isR (tyF a b) && (decide (mK k = 2) && (decide (mO k = a) && decide (dA FDT h = some (mO k, i, a, b))))))
    | _ => false)))
  | .new i => decide (nx = pc + 3) && (decide (a < 13) && decide (dA LDT h = some (mO k, i, a)))
  | .newarray t => decide (nx = pc + 2) && ((decide (t = .int) && decide (a = 100)) || (decide (t = .byte) && decide (a = 101)))
  | .anewarray i => decide (nx = pc + 3) && (decide (a ∈ [204, 205, 207, 299]) && decide (dA LDT h = some (mO k, i, a)))
  | .invokestatic i => decide (nx = pc + 3) && (match f with
    | 99 => decide (dA SPT h = some (mO k, i, 7))
    | 0 => decide (a < NM) && (decide (b = mN a) && (decide (alc a = 0) && (decide (mK a = 0) && decide (dA MDT h = some (mO k, i, a)))))
    | 1 => decide (a < NM) && (decide (b = mN a) && (decide (alc a = 0) && (decide (mK a = 0) && decide (dA MNT h = some (mO k, i, a)))))
    | _ => false)
  | .invokevirtual i => decide (nx = pc + 3) && (decide (a < NM) && (decide (b = mN a) && (decide (alc a = 0) && (decide (mK a = 1) && ((match v with
    | .inl (some c) => bif Nat.beq c 130 then decide (mO a = 14) else decide (c < 13) && decide (mO a = c)
    | _ => false) && (match f with
    | 2 => decide (dA MDT h = some (mO k, i, a))
    | 3 => decide (dA MNT h = some (mO k, i, a))
    | _ => false))))))
  | .invokespecial i => decide (nx = pc + 3) && (match f with
    | 98 => decide (dA SPT h = some (mO k, i, 8))
    | 4 => decide (a < NM) && (decide (b = mN a) && (decide (alc a = z) && (decide (mK a = 2) && decide (dA MDT h = some (mO k, i, a)))))
    | 5 => decide (a < NM) && (decide (b = mN a) && (decide (alc a = z) && (decide (mK a = 2) && decide (dA MNT h = some (mO k, i, a)))))
    | _ => false)
  | .ireturn => decide (nx = pc + 1) && (match f with
    | 0 => decide (mR k = some .int)
    | 1 => decide (mR k = some .boolean)
    | 2 => decide (mR k = some .char)
    | _ => decide (mR k = some .byte))
  | .lreturn => decide (nx = pc + 1) && decide (mR k = some .long)
  | .areturn => decide (nx = pc + 1) && (match mR k with
    | some (.object _) => true
    | some (.array _) => true
    | _ => false)
  | .return_ => decide (nx = pc + 1) && decide (mR k = none)
  | _ => decide (nx = pc + 1)
def chkE (k pc : Nat) (e : pE) : Bool := decide (decode (mB k) pc = .ok (e.1, e.2.1 - pc)) && chkI k pc e
def chkT (k : Nat) (t : pT) : Bool := t.all (fun ch => ch.all (fun q => chkE k q.1 q.2))
theorem pf_mem : ∀ {l : List (Nat × pE)} {pc : Nat} {e : pE}, pf l pc = some e → (pc, e) ∈ l
  | [], pc, e, h => by simp [pf] at h
  | (q, e0) :: t, pc, e, h => by
    unfold pf at h
    cases hq : Nat.beq q pc with
    | true =>
      rw [hq] at h
      have h : some e0 = some e := h
      cases h
      have := Nat.eq_of_beq_eq_true hq
      subst this
      exact List.mem_cons_self
    | false =>
      rw [hq] at h
      exact List.mem_cons_of_mem _ (pf_mem h)
theorem pg_mem : ∀ {t : pT} {i : Nat} {q : Nat × pE}, q ∈ pg t i → ∃ ch ∈ t, q ∈ ch
  | [], i, q, h => by simp [pg] at h
  | c :: t, 0, q, h => ⟨c, List.mem_cons_self, h⟩
  | c :: t, i + 1, q, h => by
    obtain ⟨ch, h1, h2⟩ := pg_mem (t := t) (i := i) h
    exact ⟨ch, List.mem_cons_of_mem _ h1, h2⟩
theorem pAt_chk {k pc : Nat} {t : pT} {e : pE} (hc : chkT k t = true) (h : pAt t pc = some e) : chkE k pc e = true := by
  obtain ⟨ch, h1, h2⟩ := pg_mem (pf_mem h)
  exact List.all_eq_true.mp (List.all_eq_true.mp hc ch h1) (pc, e) h2
