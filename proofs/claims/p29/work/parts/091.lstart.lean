/-! the law's start, seen as a start of the walking machine. Own work (by wip/pm/gen14.py). -/
theorem ad_x (G : pG) (j : Nat) : ad G (EXT + j) = gA G j := by
  unfold ad
  rw [if_neg (by omega), Nat.add_sub_cancel_left]
def stP1 (b : Nat) (s : State) (A : Nat → Prop) (i : Nat) (q : Nat × Nat) : Prop :=
  va_O "java/lang/String" q.1 A s s.heap ∧ va_OF "java/lang/String" "coder" "B" (.int 0) q.1 A s s.heap ∧ va_OF "java/lang/String" "value" "[B" (.ref q.2) q.1 A s s.heap ∧
  va_T .byte q.2 (strL.getD i 0) (fun j => .int (Int32.ofInt ((strB.getD i []).getD j 0))) A s s.heap ∧ vk_R (strO.getD i ("", 0, "", 0)).1 (strO.getD i ("", 0, "", 0)).2.1 (strO.getD i ("", 0, "", 0)).2.2.1 q.1 s
theorem st_str {b : Nat} {s : State} {A : Nat → Prop} (hs : Hf b s) (ht : ∀ w ∈ lw_tbl, w.before #[Value.ref b] s = true) (hA : ∀ a : Nat, a < s.heap.size → ¬ A a) : ∃ f : Nat → Nat × Nat, ∀ i, i < 18 → stP1 b s A i (f i) := by
  have h : ∀ i, ∃ y : Nat × Nat, i < 18 → stP1 b s A i y := by
    intro i
    match i with
    | 0 => obtain ⟨q, h1, h2, h3, h4, h5⟩ := stS_0 hs hA; exact ⟨q, fun _ => ⟨h1, h2, h3, h4, vk_R.of (ht _ (ndA_in (h := 693) rfl)) h5⟩⟩
    | 1 => obtain ⟨q, h1, h2, h3, h4, h5⟩ := stS_1 hs hA; exact ⟨q, fun _ => ⟨h1, h2, h3, h4, vk_R.of (ht _ (ndA_in (h := 757) rfl)) h5⟩⟩
    | 2 => obtain ⟨q, h1, h2, h3, h4, h5⟩ := stS_2 hs hA; exact ⟨q, fun _ => ⟨h1, h2, h3, h4, vk_R.of (ht _ (ndA_in (h := 758) rfl)) h5⟩⟩
    | 3 => obtain ⟨q, h1, h2, h3, h4, h5⟩ := stS_3 hs hA; exact ⟨q, fun _ => ⟨h1, h2, h3, h4, vk_R.of (ht _ (ndA_in (h := 759) rfl)) h5⟩⟩
    | 4 => obtain ⟨q, h1, h2, h3, h4, h5⟩ := stS_4 hs hA; exact ⟨q, fun _ => ⟨h1, h2, h3, h4, vk_R.of (ht _ (ndA_in (h := 760) rfl)) h5⟩⟩
    | 5 => obtain ⟨q, h1, h2, h3, h4, h5⟩ := stS_5 hs hA; exact ⟨q, fun _ => ⟨h1, h2, h3, h4, vk_R.of (ht _ (ndA_in (h := 761) rfl)) h5⟩⟩
    | 6 => obtain ⟨q, h1, h2, h3, h4, h5⟩ := stS_6 hs hA; exact ⟨q, fun _ => ⟨h1, h2, h3, h4, vk_R.of (ht _ (ndA_in (h := 762) rfl)) h5⟩⟩
    | 7 => obtain ⟨q, h1, h2, h3, h4, h5⟩ := stS_7 hs hA; exact ⟨q, fun _ => ⟨h1, h2, h3, h4, vk_R.of (ht _ (ndA_in (h := 771) rfl)) h5⟩⟩
    | 8 => obtain ⟨q, h1, h2, h3, h4, h5⟩ := stS_8 hs hA; exact ⟨q, fun _ => ⟨h1, h2, h3, h4, vk_R.of (ht _ (ndA_in (h := 772) rfl)) h5⟩⟩
    | 9 => obtain ⟨q, h1, h2, h3, h4, h5⟩ := stS_9 hs hA; exact ⟨q, fun _ => ⟨h1, h2, h3, h4, vk_R.of (ht _ (ndA_in (h := 1267) rfl)) h5⟩⟩
    | 10 => obtain ⟨q, h1, h2, h3, h4, h5⟩ := stS_10 hs hA; exact ⟨q, fun _ => ⟨h1, h2, h3, h4, vk_R.of (ht _ (ndA_in (h := 1268) rfl)) h5⟩⟩
    | 11 => obtain ⟨q, h1, h2, h3, h4, h5⟩ := stS_11 hs hA; exact ⟨q, fun _ => ⟨h1, h2, h3, h4, vk_R.of (ht _ (ndA_in (h := 1269) rfl)) h5⟩⟩
    | 12 => obtain ⟨q, h1, h2, h3, h4, h5⟩ := stS_12 hs hA; exact ⟨q, fun _ => ⟨h1, h2, h3, h4, vk_R.of (ht _ (ndA_in (h := 1270) rfl)) h5⟩⟩
    | 13 => obtain ⟨q, h1, h2, h3, h4, h5⟩ := stS_13 hs hA; exact ⟨q, fun _ => ⟨h1, h2, h3, h4, vk_R.of (ht _ (ndA_in (h := 1271) rfl)) h5⟩⟩
    | 14 => obtain ⟨q, h1, h2, h3, h4, h5⟩ := stS_14 hs hA; exact ⟨q, fun _ => ⟨h1, h2, h3, h4, vk_R.of (ht _ (ndA_in (h := 1272) rfl)) h5⟩⟩
    | 15 => obtain ⟨q, h1, h2, h3, h4, h5⟩ := stS_15 hs hA; exact ⟨q, fun _ => ⟨h1, h2, h3, h4, vk_R.of (ht _ (ndA_in (h := 1511) rfl)) h5⟩⟩
    | 16 => obtain ⟨q, h1, h2, h3, h4, h5⟩ := stS_16 hs hA; exact ⟨q, fun _ => ⟨h1, h2, h3, h4, vk_R.of (ht _ (ndA_in (h := 1512) rfl)) h5⟩⟩
    | 17 => obtain ⟨q, h1, h2, h3, h4, h5⟩ := stS_17 hs hA; exact ⟨q, fun _ => ⟨h1, h2, h3, h4, vk_R.of (ht _ (ndA_in (h := 1513) rfl)) h5⟩⟩
    | i + 18 => exact ⟨(0, 0), fun h => absurd h (by omega)⟩
  exact Classical.skolem.mp h
set_option maxHeartbeats 4000000 in
theorem law_start {p : Program} {e : Env} {s : State} {m : MethodId} {below : List Frame} {meth : Method} {c : Code} (l : Launch) {b L : Nat} {xs : Nat → Int32} (C0 : lw_At p s m meth c b L xs)
    (hGo : ∀ G : pG, gN G = L → gX G = xs → GoN G 1000 kL_law 0 0 0 [some (vr EXT), none, none, none] [] (fun _ _ => none) (fun _ _ => 0) (fun r _ _ => r = some (vi 1))) :
    W p l e room_1 s m #[Value.ref b] below meth c s.heap [] 0 0 (lw_Z below #[Value.ref b] s) (entryFrame m ([Value.ref b] : List Value).toArray 4) := by
  obtain ⟨hx, hb, hr, hml, hown, ht, hX, hbl, hlocks, hgv⟩ := id C0
  have hs : Hf b s := flat_of_before _ hgv
  have hA : ∀ a : Nat, a < s.heap.size → ¬ (fun q : Nat => s.heap.size ≤ q) a := fun a h => Nat.not_le.mpr h
  obtain ⟨fc, hfc⟩ := st_cls ht
  have a4 : va_AO RX4 s := va_AO.of (ht _ (ndA_in (h := 116) rfl))
  have a5 : va_AO RX5 s := va_AO.of (ht _ (ndA_in (h := 118) rfl))
  have a7 : va_AO RX7 s := va_AO.of (ht _ (ndA_in (h := 307) rfl))
  have aJ : va_AO RJ0 s := va_AO.of (ht _ (ndA_in (h := 1266) rfl))
  obtain ⟨fa, hfa⟩ := st_arr ht a4 a5 a7 aJ
  obtain ⟨fs, hfs⟩ := st_str hs ht hA
  obtain ⟨tA, hA1, hA2⟩ := stT_ABOVE hs ht hA
  obtain ⟨tB, hB1, hB2⟩ := stT_BODIES hs ht hA
  have hC := stZ_C hs ht hA
  obtain ⟨tS, sio, hS1, hS2⟩ : ∃ (tS : Nat) (sio : pV), (sio = .inl none ∧ va_Z "jdk/internal/util/Preconditions" "SIOOBE_FORMATTER" "Ljava/util/function/BiFunction;" .null (fun q : Nat => s.heap.size ≤ q) s s.heap ∨ sio = .inl (some (EXT + 4)) ∧ va_Z "jdk/internal/util/Preconditions" "SIOOBE_FORMATTER" "Ljava/util/function/BiFunction;" (.ref tS) (fun q : Nat => s.heap.size ≤ q) s s.heap) ∧ True := by
    rcases stZ_S hs ht hA with h | ⟨t, h⟩
    · exact ⟨0, .inl none, Or.inl ⟨rfl, h⟩, trivial⟩
    · exact ⟨t, .inl (some (EXT + 4)), Or.inr ⟨rfl, h⟩, trivial⟩
  let aL : Nat → Nat := fun j => if j = 0 then b else if j = 1 then tA else if j = 2 then tB else if j = 4 then tS else if j < 40 then (fs (j - 10)).1 else (fs (j - 40)).2
  let G : pG := (l, s.heap.size, (fun k => (fc k).1, fun k => (fc k).2), fa, aL, L, xs, sio)
  have e0 : ad G EXT = b := ad_x G 0
  have e1 : ad G (EXT + 1) = tA := ad_x G 1
  have e2 : ad G (EXT + 2) = tB := ad_x G 2
  have e4 : ad G (EXT + 4) = tS := ad_x G 4
  have ek : ∀ i, i < 18 → ad G (EXT + 10 + i) = (fs i).1 := by
    intro i hi
    rw [show EXT + 10 + i = EXT + (10 + i) by omega, ad_x]
    show (if 10 + i = 0 then b else if 10 + i = 1 then tA else if 10 + i = 2 then tB else if 10 + i = 4 then tS else if 10 + i < 40 then (fs (10 + i - 10)).1 else (fs (10 + i - 40)).2) = _
    rw [if_neg (by omega), if_neg (by omega), if_neg (by omega), if_neg (by omega), if_pos (by omega), Nat.add_sub_cancel_left]
  have ev : ∀ i, i < 18 → ad G (EXT + 40 + i) = (fs i).2 := by
    intro i hi
    rw [show EXT + 40 + i = EXT + (40 + i) by omega, ad_x]
    show (if 40 + i = 0 then b else if 40 + i = 1 then tA else if 40 + i = 2 then tB else if 40 + i = 4 then tS else if 40 + i < 40 then (fs (40 + i - 10)).1 else (fs (40 + i - 40)).2) = _
    rw [if_neg (by omega), if_neg (by omega), if_neg (by omega), if_neg (by omega), if_neg (by omega), Nat.add_sub_cancel_left]
  have hKX : KX G s s.heap := by
    refine ⟨⟨by rw [e0]; exact hX, by rw [e0]; exact hbl⟩, ⟨by rw [e1]; exact hA1, by rw [e1]; exact hA2⟩, ⟨by rw [e2]; exact hB1, by rw [e2]; exact hB2⟩, hC, ?_, ?_, ?_, hfa, ?_, ⟨a4, a5, a7, aJ⟩, ?_⟩
    · rcases hS1 with ⟨rfl, h⟩ | ⟨rfl, h⟩
      · exact h
      · show va_Z _ _ _ (.ref (ad G (EXT + 4))) _ _ _
        rw [e4]
        exact h
    · intro i hi
      obtain ⟨h1, h2, h3, h4, h5⟩ := hfs i hi
      rw [ek i hi, ev i hi]
      exact ⟨h1, h2, h3, h4, h5⟩
    · intro k q hq
      have hk : k < 13 := (List.getElem?_eq_some_iff.mp hq).1
      rw [cl_get hk] at hq
      cases hq
      exact hfc k hk
    · intro w hw hn
      refine va_Nw.of ?_ (ht w hw)
      cases w <;> first | (cases hn; done) | rfl
    · rcases hS1 with ⟨h, -⟩ | ⟨h, -⟩
      · exact Or.inl h
      · exact Or.inr h
  have hWd : Wd G 0 (fun _ _ => none) (fun _ _ => 0) s.heap := by
    refine ⟨rfl, fun k q h => ?_, by decide, fun _ _ => iR0, fun _ _ _ => (by show (-128 : Int) ≤ 0 ∧ (0 : Int) ≤ 127; omega)⟩
    simp [wL] at h
  have hC1 : Ct G 1000 kL_law 0 0 (fun _ _ => none) (fun _ _ => 0) p e s m #[Value.ref b] meth c s.heap [] :=
    ⟨hx, hb, hr, hlocks, hml, hown, fun w hw => ht w (goods_tbl hw), fun h => absurd h (by decide), hKX, rfl, Nat.le_refl _, by decide, hWd, va_S.rf⟩
  have hl := lv_entry ([.ref b]) (n := 4) (Nat.le_of_ble_eq_true rfl)
  rw [lg_entry_eq]
  generalize (lg_sl ([.ref b]) ++ List.replicate (4 - (lg_sl ([.ref b])).length) Slot.unset).toArray = ls at hl ⊢
  have hH : Hs G kL_law ls [some (vr EXT), none, none, none] := by
    refine ⟨hl.1, hl.2.1, rfl, fun i v hv => ?_⟩
    match i, hv with
    | 0, hv =>
      cases hv
      refine ⟨trivial, ?_⟩
      show ls[0]? = some (Slot.val (.ref (ad G EXT)))
      rw [e0]
      exact hl.2.2 (0, .ref b) List.mem_cons_self
    | 1, hv => cases hv
    | 2, hv => cases hv
    | 3, hv => cases hv
    | i + 4, hv => simp at hv
  obtain ⟨h⟩ := hGo G rfl rfl
  have h := h p e s m #[Value.ref b] below meth c s.heap [] ls hC1 hH (fun v hv => by cases hv)
  refine W_room (R' := Rm 1000 kL_law 0) (by decide) (by decide) (by decide) (by decide +kernel) (W_mono (fun t ht => ?_) h)
  obtain ⟨o, g1, g2, ⟨⟨r, F', I', q1, q2, q3, q4⟩, q5⟩, LL, ⟨f1, f2, f3⟩, hLL⟩ := ht
  subst q2
  exact ⟨o, g1, g2, q1, f1, f2, same_forget f3 hLL (by decide) (by decide +kernel)⟩
