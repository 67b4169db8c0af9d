/-! what the Statement gives of the start. Own work (places by wip/pm/gen13.py). -/
abbrev gvn : Jvm.Cond := Jvm.Cond.and given_1 narrow_1
def Hf (b : Nat) (s : State) : Prop := ∀ c ∈ flatC gvn, c.before #[Value.ref b] s = true
theorem map_getD (l : List Int) (j : Nat) : (l.map Int32.ofInt).getD j 0 = Int32.ofInt (l.getD j 0) := by
  rw [List.getD_eq_getElem?_getD, List.getD_eq_getElem?_getD, List.getElem?_map]
  cases l[j]? <;> rfl
section ST
variable {b : Nat} {s : State} {A : Nat → Prop}
set_option maxRecDepth 100000 in
theorem stS_0 (hs : Hf b s) (hA : ∀ a : Nat, a < s.heap.size → ¬ A a) : ∃ q : Nat × Nat, va_O "java/lang/String" q.1 A s s.heap ∧ va_OF "java/lang/String" "coder" "B" (.int 0) q.1 A s s.heap ∧ va_OF "java/lang/String" "value" "[B" (.ref q.2) q.1 A s s.heap ∧ va_T .byte q.2 4 (fun j => .int (Int32.ofInt ((strB.getD 0 []).getD j 0))) A s s.heap ∧ (Term.string "StrengthHouse$TextReader" 42).eval #[Value.ref b] s none [] s = some (.ref q.1) := by
  have e0 : ∀ i : Nat, i < 1 → i = 0 := fun i h => by omega
  obtain ⟨adK, adV, hS, hE⟩ := vk_Sof (args := #[Value.ref b]) (s := s) (N := 1) (A := A) (tm := fun _ => .string "StrengthHouse$TextReader" 42) (len := [4]) (byt := [(strB.getD 0 []).map Int32.ofInt]) (fun i h => by (have h0 := e0 i h; subst h0; decide)) (fun i h => by (have h0 := e0 i h; subst h0; exact hs _ (List.mem_of_getElem? (i := 84) rfl))) (fun i h => by (have h0 := e0 i h; subst h0; exact hs _ (List.mem_of_getElem? (i := 85) rfl))) (fun i h => by (have h0 := e0 i h; subst h0; exact hs _ (List.mem_of_getElem? (i := 86) rfl))) (fun i h => by (have h0 := e0 i h; subst h0; exact hs _ (List.mem_of_getElem? (i := 87) rfl)))
    (fun i h j hj => by
        obtain rfl := e0 i h
        match j, hj with
        | 0, _ => exact hs _ (List.mem_of_getElem? (i := 88) rfl)
        | 1, _ => exact hs _ (List.mem_of_getElem? (i := 89) rfl)
        | 2, _ => exact hs _ (List.mem_of_getElem? (i := 90) rfl)
        | 3, _ => exact hs _ (List.mem_of_getElem? (i := 91) rfl)
        | j + 4, h => exact absurd h (by show ¬ j + 4 < 4; omega)) (fun i j h1 h2 h3 => by rw [e0 i h1, e0 j h2] at h3; exact absurd rfl h3) hA
  obtain ⟨h1, h2, h3, h4⟩ := hS.1 0 (by decide)
  refine ⟨(adK 0, adV 0), h1, h2, h3, ?_, hE 0 (by decide)⟩
  have e1 : (fun j : Nat => Value.int (Int32.ofInt ((strB.getD 0 []).getD j 0))) = fun j => Value.int ((([(strB.getD 0 []).map Int32.ofInt] : List (List Int32)).getD 0 []).getD j 0) := funext fun j => congrArg Value.int (map_getD _ j).symm
  rw [e1]
  exact h4
set_option maxRecDepth 100000 in
theorem stS_1 (hs : Hf b s) (hA : ∀ a : Nat, a < s.heap.size → ¬ A a) : ∃ q : Nat × Nat, va_O "java/lang/String" q.1 A s s.heap ∧ va_OF "java/lang/String" "coder" "B" (.int 0) q.1 A s s.heap ∧ va_OF "java/lang/String" "value" "[B" (.ref q.2) q.1 A s s.heap ∧ va_T .byte q.2 2 (fun j => .int (Int32.ofInt ((strB.getD 1 []).getD j 0))) A s s.heap ∧ (Term.string "StrengthHouse$TextReader" 71).eval #[Value.ref b] s none [] s = some (.ref q.1) := by
  have e0 : ∀ i : Nat, i < 1 → i = 0 := fun i h => by omega
  obtain ⟨adK, adV, hS, hE⟩ := vk_Sof (args := #[Value.ref b]) (s := s) (N := 1) (A := A) (tm := fun _ => .string "StrengthHouse$TextReader" 71) (len := [2]) (byt := [(strB.getD 1 []).map Int32.ofInt]) (fun i h => by (have h0 := e0 i h; subst h0; decide)) (fun i h => by (have h0 := e0 i h; subst h0; exact hs _ (List.mem_of_getElem? (i := 92) rfl))) (fun i h => by (have h0 := e0 i h; subst h0; exact hs _ (List.mem_of_getElem? (i := 93) rfl))) (fun i h => by (have h0 := e0 i h; subst h0; exact hs _ (List.mem_of_getElem? (i := 94) rfl))) (fun i h => by (have h0 := e0 i h; subst h0; exact hs _ (List.mem_of_getElem? (i := 95) rfl)))
    (fun i h j hj => by
        obtain rfl := e0 i h
        match j, hj with
        | 0, _ => exact hs _ (List.mem_of_getElem? (i := 96) rfl)
        | 1, _ => exact hs _ (List.mem_of_getElem? (i := 97) rfl)
        | j + 2, h => exact absurd h (by show ¬ j + 2 < 2; omega)) (fun i j h1 h2 h3 => by rw [e0 i h1, e0 j h2] at h3; exact absurd rfl h3) hA
  obtain ⟨h1, h2, h3, h4⟩ := hS.1 0 (by decide)
  refine ⟨(adK 0, adV 0), h1, h2, h3, ?_, hE 0 (by decide)⟩
  have e1 : (fun j : Nat => Value.int (Int32.ofInt ((strB.getD 1 []).getD j 0))) = fun j => Value.int ((([(strB.getD 1 []).map Int32.ofInt] : List (List Int32)).getD 0 []).getD j 0) := funext fun j => congrArg Value.int (map_getD _ j).symm
  rw [e1]
  exact h4
set_option maxRecDepth 100000 in
theorem stS_2 (hs : Hf b s) (hA : ∀ a : Nat, a < s.heap.size → ¬ A a) : ∃ q : Nat × Nat, va_O "java/lang/String" q.1 A s s.heap ∧ va_OF "java/lang/String" "coder" "B" (.int 0) q.1 A s s.heap ∧ va_OF "java/lang/String" "value" "[B" (.ref q.2) q.1 A s s.heap ∧ va_T .byte q.2 4 (fun j => .int (Int32.ofInt ((strB.getD 2 []).getD j 0))) A s s.heap ∧ (Term.string "StrengthHouse$TextReader" 73).eval #[Value.ref b] s none [] s = some (.ref q.1) := by
  have e0 : ∀ i : Nat, i < 1 → i = 0 := fun i h => by omega
  obtain ⟨adK, adV, hS, hE⟩ := vk_Sof (args := #[Value.ref b]) (s := s) (N := 1) (A := A) (tm := fun _ => .string "StrengthHouse$TextReader" 73) (len := [4]) (byt := [(strB.getD 2 []).map Int32.ofInt]) (fun i h => by (have h0 := e0 i h; subst h0; decide)) (fun i h => by (have h0 := e0 i h; subst h0; exact hs _ (List.mem_of_getElem? (i := 99) rfl))) (fun i h => by (have h0 := e0 i h; subst h0; exact hs _ (List.mem_of_getElem? (i := 100) rfl))) (fun i h => by (have h0 := e0 i h; subst h0; exact hs _ (List.mem_of_getElem? (i := 101) rfl))) (fun i h => by (have h0 := e0 i h; subst h0; exact hs _ (List.mem_of_getElem? (i := 102) rfl)))
    (fun i h j hj => by
        obtain rfl := e0 i h
        match j, hj with
        | 0, _ => exact hs _ (List.mem_of_getElem? (i := 103) rfl)
        | 1, _ => exact hs _ (List.mem_of_getElem? (i := 104) rfl)
        | 2, _ => exact hs _ (List.mem_of_getElem? (i := 105) rfl)
        | 3, _ => exact hs _ (List.mem_of_getElem? (i := 106) rfl)
        | j + 4, h => exact absurd h (by show ¬ j + 4 < 4; omega)) (fun i j h1 h2 h3 => by rw [e0 i h1, e0 j h2] at h3; exact absurd rfl h3) hA
  obtain ⟨h1, h2, h3, h4⟩ := hS.1 0 (by decide)
  refine ⟨(adK 0, adV 0), h1, h2, h3, ?_, hE 0 (by decide)⟩
  have e1 : (fun j : Nat => Value.int (Int32.ofInt ((strB.getD 2 []).getD j 0))) = fun j => Value.int ((([(strB.getD 2 []).map Int32.ofInt] : List (List Int32)).getD 0 []).getD j 0) := funext fun j => congrArg Value.int (map_getD _ j).symm
  rw [e1]
  exact h4
set_option maxRecDepth 100000 in
theorem stS_3 (hs : Hf b s) (hA : ∀ a : Nat, a < s.heap.size → ¬ A a) : ∃ q : Nat × Nat, va_O "java/lang/String" q.1 A s s.heap ∧ va_OF "java/lang/String" "coder" "B" (.int 0) q.1 A s s.heap ∧ va_OF "java/lang/String" "value" "[B" (.ref q.2) q.1 A s s.heap ∧ va_T .byte q.2 4 (fun j => .int (Int32.ofInt ((strB.getD 3 []).getD j 0))) A s s.heap ∧ (Term.string "StrengthHouse$TextReader" 75).eval #[Value.ref b] s none [] s = some (.ref q.1) := by
  have e0 : ∀ i : Nat, i < 1 → i = 0 := fun i h => by omega
  obtain ⟨adK, adV, hS, hE⟩ := vk_Sof (args := #[Value.ref b]) (s := s) (N := 1) (A := A) (tm := fun _ => .string "StrengthHouse$TextReader" 75) (len := [4]) (byt := [(strB.getD 3 []).map Int32.ofInt]) (fun i h => by (have h0 := e0 i h; subst h0; decide)) (fun i h => by (have h0 := e0 i h; subst h0; exact hs _ (List.mem_of_getElem? (i := 109) rfl))) (fun i h => by (have h0 := e0 i h; subst h0; exact hs _ (List.mem_of_getElem? (i := 110) rfl))) (fun i h => by (have h0 := e0 i h; subst h0; exact hs _ (List.mem_of_getElem? (i := 111) rfl))) (fun i h => by (have h0 := e0 i h; subst h0; exact hs _ (List.mem_of_getElem? (i := 112) rfl)))
    (fun i h j hj => by
        obtain rfl := e0 i h
        match j, hj with
        | 0, _ => exact hs _ (List.mem_of_getElem? (i := 113) rfl)
        | 1, _ => exact hs _ (List.mem_of_getElem? (i := 114) rfl)
        | 2, _ => exact hs _ (List.mem_of_getElem? (i := 115) rfl)
        | 3, _ => exact hs _ (List.mem_of_getElem? (i := 116) rfl)
        | j + 4, h => exact absurd h (by show ¬ j + 4 < 4; omega)) (fun i j h1 h2 h3 => by rw [e0 i h1, e0 j h2] at h3; exact absurd rfl h3) hA
  obtain ⟨h1, h2, h3, h4⟩ := hS.1 0 (by decide)
  refine ⟨(adK 0, adV 0), h1, h2, h3, ?_, hE 0 (by decide)⟩
  have e1 : (fun j : Nat => Value.int (Int32.ofInt ((strB.getD 3 []).getD j 0))) = fun j => Value.int ((([(strB.getD 3 []).map Int32.ofInt] : List (List Int32)).getD 0 []).getD j 0) := funext fun j => congrArg Value.int (map_getD _ j).symm
  rw [e1]
  exact h4
set_option maxRecDepth 100000 in
theorem stS_4 (hs : Hf b s) (hA : ∀ a : Nat, a < s.heap.size → ¬ A a) : ∃ q : Nat × Nat, va_O "java/lang/String" q.1 A s s.heap ∧ va_OF "java/lang/String" "coder" "B" (.int 0) q.1 A s s.heap ∧ va_OF "java/lang/String" "value" "[B" (.ref q.2) q.1 A s s.heap ∧ va_T .byte q.2 4 (fun j => .int (Int32.ofInt ((strB.getD 4 []).getD j 0))) A s s.heap ∧ (Term.string "StrengthHouse$TextReader" 77).eval #[Value.ref b] s none [] s = some (.ref q.1) := by
  have e0 : ∀ i : Nat, i < 1 → i = 0 := fun i h => by omega
  obtain ⟨adK, adV, hS, hE⟩ := vk_Sof (args := #[Value.ref b]) (s := s) (N := 1) (A := A) (tm := fun _ => .string "StrengthHouse$TextReader" 77) (len := [4]) (byt := [(strB.getD 4 []).map Int32.ofInt]) (fun i h => by (have h0 := e0 i h; subst h0; decide)) (fun i h => by (have h0 := e0 i h; subst h0; exact hs _ (List.mem_of_getElem? (i := 120) rfl))) (fun i h => by (have h0 := e0 i h; subst h0; exact hs _ (List.mem_of_getElem? (i := 121) rfl))) (fun i h => by (have h0 := e0 i h; subst h0; exact hs _ (List.mem_of_getElem? (i := 122) rfl))) (fun i h => by (have h0 := e0 i h; subst h0; exact hs _ (List.mem_of_getElem? (i := 123) rfl)))
    (fun i h j hj => by
        obtain rfl := e0 i h
        match j, hj with
        | 0, _ => exact hs _ (List.mem_of_getElem? (i := 124) rfl)
        | 1, _ => exact hs _ (List.mem_of_getElem? (i := 125) rfl)
        | 2, _ => exact hs _ (List.mem_of_getElem? (i := 126) rfl)
        | 3, _ => exact hs _ (List.mem_of_getElem? (i := 127) rfl)
        | j + 4, h => exact absurd h (by show ¬ j + 4 < 4; omega)) (fun i j h1 h2 h3 => by rw [e0 i h1, e0 j h2] at h3; exact absurd rfl h3) hA
  obtain ⟨h1, h2, h3, h4⟩ := hS.1 0 (by decide)
  refine ⟨(adK 0, adV 0), h1, h2, h3, ?_, hE 0 (by decide)⟩
  have e1 : (fun j : Nat => Value.int (Int32.ofInt ((strB.getD 4 []).getD j 0))) = fun j => Value.int ((([(strB.getD 4 []).map Int32.ofInt] : List (List Int32)).getD 0 []).getD j 0) := funext fun j => congrArg Value.int (map_getD _ j).symm
  rw [e1]
  exact h4
set_option maxRecDepth 100000 in
theorem stS_5 (hs : Hf b s) (hA : ∀ a : Nat, a < s.heap.size → ¬ A a) : ∃ q : Nat × Nat, va_O "java/lang/String" q.1 A s s.heap ∧ va_OF "java/lang/String" "coder" "B" (.int 0) q.1 A s s.heap ∧ va_OF "java/lang/String" "value" "[B" (.ref q.2) q.1 A s s.heap ∧ va_T .byte q.2 4 (fun j => .int (Int32.ofInt ((strB.getD 5 []).getD j 0))) A s s.heap ∧ (Term.string "StrengthHouse$TextReader" 79).eval #[Value.ref b] s none [] s = some (.ref q.1) := by
  have e0 : ∀ i : Nat, i < 1 → i = 0 := fun i h => by omega
  obtain ⟨adK, adV, hS, hE⟩ := vk_Sof (args := #[Value.ref b]) (s := s) (N := 1) (A := A) (tm := fun _ => .string "StrengthHouse$TextReader" 79) (len := [4]) (byt := [(strB.getD 5 []).map Int32.ofInt]) (fun i h => by (have h0 := e0 i h; subst h0; decide)) (fun i h => by (have h0 := e0 i h; subst h0; exact hs _ (List.mem_of_getElem? (i := 132) rfl))) (fun i h => by (have h0 := e0 i h; subst h0; exact hs _ (List.mem_of_getElem? (i := 133) rfl))) (fun i h => by (have h0 := e0 i h; subst h0; exact hs _ (List.mem_of_getElem? (i := 134) rfl))) (fun i h => by (have h0 := e0 i h; subst h0; exact hs _ (List.mem_of_getElem? (i := 135) rfl)))
    (fun i h j hj => by
        obtain rfl := e0 i h
        match j, hj with
        | 0, _ => exact hs _ (List.mem_of_getElem? (i := 136) rfl)
        | 1, _ => exact hs _ (List.mem_of_getElem? (i := 137) rfl)
        | 2, _ => exact hs _ (List.mem_of_getElem? (i := 138) rfl)
        | 3, _ => exact hs _ (List.mem_of_getElem? (i := 139) rfl)
        | j + 4, h => exact absurd h (by show ¬ j + 4 < 4; omega)) (fun i j h1 h2 h3 => by rw [e0 i h1, e0 j h2] at h3; exact absurd rfl h3) hA
  obtain ⟨h1, h2, h3, h4⟩ := hS.1 0 (by decide)
  refine ⟨(adK 0, adV 0), h1, h2, h3, ?_, hE 0 (by decide)⟩
  have e1 : (fun j : Nat => Value.int (Int32.ofInt ((strB.getD 5 []).getD j 0))) = fun j => Value.int ((([(strB.getD 5 []).map Int32.ofInt] : List (List Int32)).getD 0 []).getD j 0) := funext fun j => congrArg Value.int (map_getD _ j).symm
  rw [e1]
  exact h4
set_option maxRecDepth 100000 in
theorem stS_6 (hs : Hf b s) (hA : ∀ a : Nat, a < s.heap.size → ¬ A a) : ∃ q : Nat × Nat, va_O "java/lang/String" q.1 A s s.heap ∧ va_OF "java/lang/String" "coder" "B" (.int 0) q.1 A s s.heap ∧ va_OF "java/lang/String" "value" "[B" (.ref q.2) q.1 A s s.heap ∧ va_T .byte q.2 4 (fun j => .int (Int32.ofInt ((strB.getD 6 []).getD j 0))) A s s.heap ∧ (Term.string "StrengthHouse$TextReader" 81).eval #[Value.ref b] s none [] s = some (.ref q.1) := by
  have e0 : ∀ i : Nat, i < 1 → i = 0 := fun i h => by omega
  obtain ⟨adK, adV, hS, hE⟩ := vk_Sof (args := #[Value.ref b]) (s := s) (N := 1) (A := A) (tm := fun _ => .string "StrengthHouse$TextReader" 81) (len := [4]) (byt := [(strB.getD 6 []).map Int32.ofInt]) (fun i h => by (have h0 := e0 i h; subst h0; decide)) (fun i h => by (have h0 := e0 i h; subst h0; exact hs _ (List.mem_of_getElem? (i := 145) rfl))) (fun i h => by (have h0 := e0 i h; subst h0; exact hs _ (List.mem_of_getElem? (i := 146) rfl))) (fun i h => by (have h0 := e0 i h; subst h0; exact hs _ (List.mem_of_getElem? (i := 147) rfl))) (fun i h => by (have h0 := e0 i h; subst h0; exact hs _ (List.mem_of_getElem? (i := 148) rfl)))
    (fun i h j hj => by
        obtain rfl := e0 i h
        match j, hj with
        | 0, _ => exact hs _ (List.mem_of_getElem? (i := 149) rfl)
        | 1, _ => exact hs _ (List.mem_of_getElem? (i := 150) rfl)
        | 2, _ => exact hs _ (List.mem_of_getElem? (i := 151) rfl)
        | 3, _ => exact hs _ (List.mem_of_getElem? (i := 152) rfl)
        | j + 4, h => exact absurd h (by show ¬ j + 4 < 4; omega)) (fun i j h1 h2 h3 => by rw [e0 i h1, e0 j h2] at h3; exact absurd rfl h3) hA
  obtain ⟨h1, h2, h3, h4⟩ := hS.1 0 (by decide)
  refine ⟨(adK 0, adV 0), h1, h2, h3, ?_, hE 0 (by decide)⟩
  have e1 : (fun j : Nat => Value.int (Int32.ofInt ((strB.getD 6 []).getD j 0))) = fun j => Value.int ((([(strB.getD 6 []).map Int32.ofInt] : List (List Int32)).getD 0 []).getD j 0) := funext fun j => congrArg Value.int (map_getD _ j).symm
  rw [e1]
  exact h4
set_option maxRecDepth 100000 in
theorem stS_7 (hs : Hf b s) (hA : ∀ a : Nat, a < s.heap.size → ¬ A a) : ∃ q : Nat × Nat, va_O "java/lang/String" q.1 A s s.heap ∧ va_OF "java/lang/String" "coder" "B" (.int 0) q.1 A s s.heap ∧ va_OF "java/lang/String" "value" "[B" (.ref q.2) q.1 A s s.heap ∧ va_T .byte q.2 1 (fun j => .int (Int32.ofInt ((strB.getD 7 []).getD j 0))) A s s.heap ∧ (Term.string "StrengthHouse$TextReader" 52).eval #[Value.ref b] s none [] s = some (.ref q.1) := by
  have e0 : ∀ i : Nat, i < 1 → i = 0 := fun i h => by omega
  obtain ⟨adK, adV, hS, hE⟩ := vk_Sof (args := #[Value.ref b]) (s := s) (N := 1) (A := A) (tm := fun _ => .string "StrengthHouse$TextReader" 52) (len := [1]) (byt := [(strB.getD 7 []).map Int32.ofInt]) (fun i h => by (have h0 := e0 i h; subst h0; decide)) (fun i h => by (have h0 := e0 i h; subst h0; exact hs _ (List.mem_of_getElem? (i := 159) rfl))) (fun i h => by (have h0 := e0 i h; subst h0; exact hs _ (List.mem_of_getElem? (i := 160) rfl))) (fun i h => by (have h0 := e0 i h; subst h0; exact hs _ (List.mem_of_getElem? (i := 161) rfl))) (fun i h => by (have h0 := e0 i h; subst h0; exact hs _ (List.mem_of_getElem? (i := 162) rfl)))
    (fun i h j hj => by
        obtain rfl := e0 i h
        match j, hj with
        | 0, _ => exact hs _ (List.mem_of_getElem? (i := 163) rfl)
        | j + 1, h => exact absurd h (by show ¬ j + 1 < 1; omega)) (fun i j h1 h2 h3 => by rw [e0 i h1, e0 j h2] at h3; exact absurd rfl h3) hA
  obtain ⟨h1, h2, h3, h4⟩ := hS.1 0 (by decide)
  refine ⟨(adK 0, adV 0), h1, h2, h3, ?_, hE 0 (by decide)⟩
  have e1 : (fun j : Nat => Value.int (Int32.ofInt ((strB.getD 7 []).getD j 0))) = fun j => Value.int ((([(strB.getD 7 []).map Int32.ofInt] : List (List Int32)).getD 0 []).getD j 0) := funext fun j => congrArg Value.int (map_getD _ j).symm
  rw [e1]
  exact h4
set_option maxRecDepth 100000 in
theorem stS_8 (hs : Hf b s) (hA : ∀ a : Nat, a < s.heap.size → ¬ A a) : ∃ q : Nat × Nat, va_O "java/lang/String" q.1 A s s.heap ∧ va_OF "java/lang/String" "coder" "B" (.int 0) q.1 A s s.heap ∧ va_OF "java/lang/String" "value" "[B" (.ref q.2) q.1 A s s.heap ∧ va_T .byte q.2 1 (fun j => .int (Int32.ofInt ((strB.getD 8 []).getD j 0))) A s s.heap ∧ (Term.string "StrengthHouse$TextReader" 54).eval #[Value.ref b] s none [] s = some (.ref q.1) := by
  have e0 : ∀ i : Nat, i < 1 → i = 0 := fun i h => by omega
  obtain ⟨adK, adV, hS, hE⟩ := vk_Sof (args := #[Value.ref b]) (s := s) (N := 1) (A := A) (tm := fun _ => .string "StrengthHouse$TextReader" 54) (len := [1]) (byt := [(strB.getD 8 []).map Int32.ofInt]) (fun i h => by (have h0 := e0 i h; subst h0; decide)) (fun i h => by (have h0 := e0 i h; subst h0; exact hs _ (List.mem_of_getElem? (i := 171) rfl))) (fun i h => by (have h0 := e0 i h; subst h0; exact hs _ (List.mem_of_getElem? (i := 172) rfl))) (fun i h => by (have h0 := e0 i h; subst h0; exact hs _ (List.mem_of_getElem? (i := 173) rfl))) (fun i h => by (have h0 := e0 i h; subst h0; exact hs _ (List.mem_of_getElem? (i := 174) rfl)))
    (fun i h j hj => by
        obtain rfl := e0 i h
        match j, hj with
        | 0, _ => exact hs _ (List.mem_of_getElem? (i := 175) rfl)
        | j + 1, h => exact absurd h (by show ¬ j + 1 < 1; omega)) (fun i j h1 h2 h3 => by rw [e0 i h1, e0 j h2] at h3; exact absurd rfl h3) hA
  obtain ⟨h1, h2, h3, h4⟩ := hS.1 0 (by decide)
  refine ⟨(adK 0, adV 0), h1, h2, h3, ?_, hE 0 (by decide)⟩
  have e1 : (fun j : Nat => Value.int (Int32.ofInt ((strB.getD 8 []).getD j 0))) = fun j => Value.int ((([(strB.getD 8 []).map Int32.ofInt] : List (List Int32)).getD 0 []).getD j 0) := funext fun j => congrArg Value.int (map_getD _ j).symm
  rw [e1]
  exact h4
set_option maxRecDepth 100000 in
theorem stS_9 (hs : Hf b s) (hA : ∀ a : Nat, a < s.heap.size → ¬ A a) : ∃ q : Nat × Nat, va_O "java/lang/String" q.1 A s s.heap ∧ va_OF "java/lang/String" "coder" "B" (.int 0) q.1 A s s.heap ∧ va_OF "java/lang/String" "value" "[B" (.ref q.2) q.1 A s s.heap ∧ va_T .byte q.2 2 (fun j => .int (Int32.ofInt ((strB.getD 9 []).getD j 0))) A s s.heap ∧ (Term.string "StrengthHouseModel" 25).eval #[Value.ref b] s none [] s = some (.ref q.1) := by
  have e0 : ∀ i : Nat, i < 1 → i = 0 := fun i h => by omega
  obtain ⟨adK, adV, hS, hE⟩ := vk_Sof (args := #[Value.ref b]) (s := s) (N := 1) (A := A) (tm := fun _ => .string "StrengthHouseModel" 25) (len := [2]) (byt := [(strB.getD 9 []).map Int32.ofInt]) (fun i h => by (have h0 := e0 i h; subst h0; decide)) (fun i h => by (have h0 := e0 i h; subst h0; exact hs _ (List.mem_of_getElem? (i := 184) rfl))) (fun i h => by (have h0 := e0 i h; subst h0; exact hs _ (List.mem_of_getElem? (i := 185) rfl))) (fun i h => by (have h0 := e0 i h; subst h0; exact hs _ (List.mem_of_getElem? (i := 186) rfl))) (fun i h => by (have h0 := e0 i h; subst h0; exact hs _ (List.mem_of_getElem? (i := 187) rfl)))
    (fun i h j hj => by
        obtain rfl := e0 i h
        match j, hj with
        | 0, _ => exact hs _ (List.mem_of_getElem? (i := 188) rfl)
        | 1, _ => exact hs _ (List.mem_of_getElem? (i := 189) rfl)
        | j + 2, h => exact absurd h (by show ¬ j + 2 < 2; omega)) (fun i j h1 h2 h3 => by rw [e0 i h1, e0 j h2] at h3; exact absurd rfl h3) hA
  obtain ⟨h1, h2, h3, h4⟩ := hS.1 0 (by decide)
  refine ⟨(adK 0, adV 0), h1, h2, h3, ?_, hE 0 (by decide)⟩
  have e1 : (fun j : Nat => Value.int (Int32.ofInt ((strB.getD 9 []).getD j 0))) = fun j => Value.int ((([(strB.getD 9 []).map Int32.ofInt] : List (List Int32)).getD 0 []).getD j 0) := funext fun j => congrArg Value.int (map_getD _ j).symm
  rw [e1]
  exact h4
set_option maxRecDepth 100000 in
theorem stS_10 (hs : Hf b s) (hA : ∀ a : Nat, a < s.heap.size → ¬ A a) : ∃ q : Nat × Nat, va_O "java/lang/String" q.1 A s s.heap ∧ va_OF "java/lang/String" "coder" "B" (.int 0) q.1 A s s.heap ∧ va_OF "java/lang/String" "value" "[B" (.ref q.2) q.1 A s s.heap ∧ va_T .byte q.2 4 (fun j => .int (Int32.ofInt ((strB.getD 10 []).getD j 0))) A s s.heap ∧ (Term.string "StrengthHouseModel" 27).eval #[Value.ref b] s none [] s = some (.ref q.1) := by
  have e0 : ∀ i : Nat, i < 1 → i = 0 := fun i h => by omega
  obtain ⟨adK, adV, hS, hE⟩ := vk_Sof (args := #[Value.ref b]) (s := s) (N := 1) (A := A) (tm := fun _ => .string "StrengthHouseModel" 27) (len := [4]) (byt := [(strB.getD 10 []).map Int32.ofInt]) (fun i h => by (have h0 := e0 i h; subst h0; decide)) (fun i h => by (have h0 := e0 i h; subst h0; exact hs _ (List.mem_of_getElem? (i := 199) rfl))) (fun i h => by (have h0 := e0 i h; subst h0; exact hs _ (List.mem_of_getElem? (i := 200) rfl))) (fun i h => by (have h0 := e0 i h; subst h0; exact hs _ (List.mem_of_getElem? (i := 201) rfl))) (fun i h => by (have h0 := e0 i h; subst h0; exact hs _ (List.mem_of_getElem? (i := 202) rfl)))
    (fun i h j hj => by
        obtain rfl := e0 i h
        match j, hj with
        | 0, _ => exact hs _ (List.mem_of_getElem? (i := 203) rfl)
        | 1, _ => exact hs _ (List.mem_of_getElem? (i := 204) rfl)
        | 2, _ => exact hs _ (List.mem_of_getElem? (i := 205) rfl)
        | 3, _ => exact hs _ (List.mem_of_getElem? (i := 206) rfl)
        | j + 4, h => exact absurd h (by show ¬ j + 4 < 4; omega)) (fun i j h1 h2 h3 => by rw [e0 i h1, e0 j h2] at h3; exact absurd rfl h3) hA
  obtain ⟨h1, h2, h3, h4⟩ := hS.1 0 (by decide)
  refine ⟨(adK 0, adV 0), h1, h2, h3, ?_, hE 0 (by decide)⟩
  have e1 : (fun j : Nat => Value.int (Int32.ofInt ((strB.getD 10 []).getD j 0))) = fun j => Value.int ((([(strB.getD 10 []).map Int32.ofInt] : List (List Int32)).getD 0 []).getD j 0) := funext fun j => congrArg Value.int (map_getD _ j).symm
  rw [e1]
  exact h4
set_option maxRecDepth 100000 in
theorem stS_11 (hs : Hf b s) (hA : ∀ a : Nat, a < s.heap.size → ¬ A a) : ∃ q : Nat × Nat, va_O "java/lang/String" q.1 A s s.heap ∧ va_OF "java/lang/String" "coder" "B" (.int 0) q.1 A s s.heap ∧ va_OF "java/lang/String" "value" "[B" (.ref q.2) q.1 A s s.heap ∧ va_T .byte q.2 4 (fun j => .int (Int32.ofInt ((strB.getD 11 []).getD j 0))) A s s.heap ∧ (Term.string "StrengthHouseModel" 29).eval #[Value.ref b] s none [] s = some (.ref q.1) := by
  have e0 : ∀ i : Nat, i < 1 → i = 0 := fun i h => by omega
  obtain ⟨adK, adV, hS, hE⟩ := vk_Sof (args := #[Value.ref b]) (s := s) (N := 1) (A := A) (tm := fun _ => .string "StrengthHouseModel" 29) (len := [4]) (byt := [(strB.getD 11 []).map Int32.ofInt]) (fun i h => by (have h0 := e0 i h; subst h0; decide)) (fun i h => by (have h0 := e0 i h; subst h0; exact hs _ (List.mem_of_getElem? (i := 217) rfl))) (fun i h => by (have h0 := e0 i h; subst h0; exact hs _ (List.mem_of_getElem? (i := 218) rfl))) (fun i h => by (have h0 := e0 i h; subst h0; exact hs _ (List.mem_of_getElem? (i := 219) rfl))) (fun i h => by (have h0 := e0 i h; subst h0; exact hs _ (List.mem_of_getElem? (i := 220) rfl)))
    (fun i h j hj => by
        obtain rfl := e0 i h
        match j, hj with
        | 0, _ => exact hs _ (List.mem_of_getElem? (i := 221) rfl)
        | 1, _ => exact hs _ (List.mem_of_getElem? (i := 222) rfl)
        | 2, _ => exact hs _ (List.mem_of_getElem? (i := 223) rfl)
        | 3, _ => exact hs _ (List.mem_of_getElem? (i := 224) rfl)
        | j + 4, h => exact absurd h (by show ¬ j + 4 < 4; omega)) (fun i j h1 h2 h3 => by rw [e0 i h1, e0 j h2] at h3; exact absurd rfl h3) hA
  obtain ⟨h1, h2, h3, h4⟩ := hS.1 0 (by decide)
  refine ⟨(adK 0, adV 0), h1, h2, h3, ?_, hE 0 (by decide)⟩
  have e1 : (fun j : Nat => Value.int (Int32.ofInt ((strB.getD 11 []).getD j 0))) = fun j => Value.int ((([(strB.getD 11 []).map Int32.ofInt] : List (List Int32)).getD 0 []).getD j 0) := funext fun j => congrArg Value.int (map_getD _ j).symm
  rw [e1]
  exact h4
set_option maxRecDepth 100000 in
theorem stS_12 (hs : Hf b s) (hA : ∀ a : Nat, a < s.heap.size → ¬ A a) : ∃ q : Nat × Nat, va_O "java/lang/String" q.1 A s s.heap ∧ va_OF "java/lang/String" "coder" "B" (.int 0) q.1 A s s.heap ∧ va_OF "java/lang/String" "value" "[B" (.ref q.2) q.1 A s s.heap ∧ va_T .byte q.2 4 (fun j => .int (Int32.ofInt ((strB.getD 12 []).getD j 0))) A s s.heap ∧ (Term.string "StrengthHouseModel" 31).eval #[Value.ref b] s none [] s = some (.ref q.1) := by
  have e0 : ∀ i : Nat, i < 1 → i = 0 := fun i h => by omega
  obtain ⟨adK, adV, hS, hE⟩ := vk_Sof (args := #[Value.ref b]) (s := s) (N := 1) (A := A) (tm := fun _ => .string "StrengthHouseModel" 31) (len := [4]) (byt := [(strB.getD 12 []).map Int32.ofInt]) (fun i h => by (have h0 := e0 i h; subst h0; decide)) (fun i h => by (have h0 := e0 i h; subst h0; exact hs _ (List.mem_of_getElem? (i := 236) rfl))) (fun i h => by (have h0 := e0 i h; subst h0; exact hs _ (List.mem_of_getElem? (i := 237) rfl))) (fun i h => by (have h0 := e0 i h; subst h0; exact hs _ (List.mem_of_getElem? (i := 238) rfl))) (fun i h => by (have h0 := e0 i h; subst h0; exact hs _ (List.mem_of_getElem? (i := 239) rfl)))
    (fun i h j hj => by
        obtain rfl := e0 i h
        match j, hj with
        | 0, _ => exact hs _ (List.mem_of_getElem? (i := 240) rfl)
        | 1, _ => exact hs _ (List.mem_of_getElem? (i := 241) rfl)
        | 2, _ => exact hs _ (List.mem_of_getElem? (i := 242) rfl)
        | 3, _ => exact hs _ (List.mem_of_getElem? (i := 243) rfl)
        | j + 4, h => exact absurd h (by show ¬ j + 4 < 4; omega)) (fun i j h1 h2 h3 => by rw [e0 i h1, e0 j h2] at h3; exact absurd rfl h3) hA
  obtain ⟨h1, h2, h3, h4⟩ := hS.1 0 (by decide)
  refine ⟨(adK 0, adV 0), h1, h2, h3, ?_, hE 0 (by decide)⟩
  have e1 : (fun j : Nat => Value.int (Int32.ofInt ((strB.getD 12 []).getD j 0))) = fun j => Value.int ((([(strB.getD 12 []).map Int32.ofInt] : List (List Int32)).getD 0 []).getD j 0) := funext fun j => congrArg Value.int (map_getD _ j).symm
  rw [e1]
  exact h4
set_option maxRecDepth 100000 in
theorem stS_13 (hs : Hf b s) (hA : ∀ a : Nat, a < s.heap.size → ¬ A a) : ∃ q : Nat × Nat, va_O "java/lang/String" q.1 A s s.heap ∧ va_OF "java/lang/String" "coder" "B" (.int 0) q.1 A s s.heap ∧ va_OF "java/lang/String" "value" "[B" (.ref q.2) q.1 A s s.heap ∧ va_T .byte q.2 4 (fun j => .int (Int32.ofInt ((strB.getD 13 []).getD j 0))) A s s.heap ∧ (Term.string "StrengthHouseModel" 33).eval #[Value.ref b] s none [] s = some (.ref q.1) := by
  have e0 : ∀ i : Nat, i < 1 → i = 0 := fun i h => by omega
  obtain ⟨adK, adV, hS, hE⟩ := vk_Sof (args := #[Value.ref b]) (s := s) (N := 1) (A := A) (tm := fun _ => .string "StrengthHouseModel" 33) (len := [4]) (byt := [(strB.getD 13 []).map Int32.ofInt]) (fun i h => by (have h0 := e0 i h; subst h0; decide)) (fun i h => by (have h0 := e0 i h; subst h0; exact hs _ (List.mem_of_getElem? (i := 256) rfl))) (fun i h => by (have h0 := e0 i h; subst h0; exact hs _ (List.mem_of_getElem? (i := 257) rfl))) (fun i h => by (have h0 := e0 i h; subst h0; exact hs _ (List.mem_of_getElem? (i := 258) rfl))) (fun i h => by (have h0 := e0 i h; subst h0; exact hs _ (List.mem_of_getElem? (i := 259) rfl)))
    (fun i h j hj => by
        obtain rfl := e0 i h
        match j, hj with
        | 0, _ => exact hs _ (List.mem_of_getElem? (i := 260) rfl)
        | 1, _ => exact hs _ (List.mem_of_getElem? (i := 261) rfl)
        | 2, _ => exact hs _ (List.mem_of_getElem? (i := 262) rfl)
        | 3, _ => exact hs _ (List.mem_of_getElem? (i := 263) rfl)
        | j + 4, h => exact absurd h (by show ¬ j + 4 < 4; omega)) (fun i j h1 h2 h3 => by rw [e0 i h1, e0 j h2] at h3; exact absurd rfl h3) hA
  obtain ⟨h1, h2, h3, h4⟩ := hS.1 0 (by decide)
  refine ⟨(adK 0, adV 0), h1, h2, h3, ?_, hE 0 (by decide)⟩
  have e1 : (fun j : Nat => Value.int (Int32.ofInt ((strB.getD 13 []).getD j 0))) = fun j => Value.int ((([(strB.getD 13 []).map Int32.ofInt] : List (List Int32)).getD 0 []).getD j 0) := funext fun j => congrArg Value.int (map_getD _ j).symm
  rw [e1]
  exact h4
set_option maxRecDepth 100000 in
theorem stS_14 (hs : Hf b s) (hA : ∀ a : Nat, a < s.heap.size → ¬ A a) : ∃ q : Nat × Nat, va_O "java/lang/String" q.1 A s s.heap ∧ va_OF "java/lang/String" "coder" "B" (.int 0) q.1 A s s.heap ∧ va_OF "java/lang/String" "value" "[B" (.ref q.2) q.1 A s s.heap ∧ va_T .byte q.2 4 (fun j => .int (Int32.ofInt ((strB.getD 14 []).getD j 0))) A s s.heap ∧ (Term.string "StrengthHouseModel" 35).eval #[Value.ref b] s none [] s = some (.ref q.1) := by
  have e0 : ∀ i : Nat, i < 1 → i = 0 := fun i h => by omega
  obtain ⟨adK, adV, hS, hE⟩ := vk_Sof (args := #[Value.ref b]) (s := s) (N := 1) (A := A) (tm := fun _ => .string "StrengthHouseModel" 35) (len := [4]) (byt := [(strB.getD 14 []).map Int32.ofInt]) (fun i h => by (have h0 := e0 i h; subst h0; decide)) (fun i h => by (have h0 := e0 i h; subst h0; exact hs _ (List.mem_of_getElem? (i := 277) rfl))) (fun i h => by (have h0 := e0 i h; subst h0; exact hs _ (List.mem_of_getElem? (i := 278) rfl))) (fun i h => by (have h0 := e0 i h; subst h0; exact hs _ (List.mem_of_getElem? (i := 279) rfl))) (fun i h => by (have h0 := e0 i h; subst h0; exact hs _ (List.mem_of_getElem? (i := 280) rfl)))
    (fun i h j hj => by
        obtain rfl := e0 i h
        match j, hj with
        | 0, _ => exact hs _ (List.mem_of_getElem? (i := 281) rfl)
        | 1, _ => exact hs _ (List.mem_of_getElem? (i := 282) rfl)
        | 2, _ => exact hs _ (List.mem_of_getElem? (i := 283) rfl)
        | 3, _ => exact hs _ (List.mem_of_getElem? (i := 284) rfl)
        | j + 4, h => exact absurd h (by show ¬ j + 4 < 4; omega)) (fun i j h1 h2 h3 => by rw [e0 i h1, e0 j h2] at h3; exact absurd rfl h3) hA
  obtain ⟨h1, h2, h3, h4⟩ := hS.1 0 (by decide)
  refine ⟨(adK 0, adV 0), h1, h2, h3, ?_, hE 0 (by decide)⟩
  have e1 : (fun j : Nat => Value.int (Int32.ofInt ((strB.getD 14 []).getD j 0))) = fun j => Value.int ((([(strB.getD 14 []).map Int32.ofInt] : List (List Int32)).getD 0 []).getD j 0) := funext fun j => congrArg Value.int (map_getD _ j).symm
  rw [e1]
  exact h4
set_option maxRecDepth 100000 in
theorem stS_15 (hs : Hf b s) (hA : ∀ a : Nat, a < s.heap.size → ¬ A a) : ∃ q : Nat × Nat, va_O "java/lang/String" q.1 A s s.heap ∧ va_OF "java/lang/String" "coder" "B" (.int 0) q.1 A s s.heap ∧ va_OF "java/lang/String" "value" "[B" (.ref q.2) q.1 A s s.heap ∧ va_T .byte q.2 1 (fun j => .int (Int32.ofInt ((strB.getD 15 []).getD j 0))) A s s.heap ∧ (Term.string "StrengthHouseModel" 180).eval #[Value.ref b] s none [] s = some (.ref q.1) := by
  have e0 : ∀ i : Nat, i < 1 → i = 0 := fun i h => by omega
  obtain ⟨adK, adV, hS, hE⟩ := vk_Sof (args := #[Value.ref b]) (s := s) (N := 1) (A := A) (tm := fun _ => .string "StrengthHouseModel" 180) (len := [1]) (byt := [(strB.getD 15 []).map Int32.ofInt]) (fun i h => by (have h0 := e0 i h; subst h0; decide)) (fun i h => by (have h0 := e0 i h; subst h0; exact hs _ (List.mem_of_getElem? (i := 299) rfl))) (fun i h => by (have h0 := e0 i h; subst h0; exact hs _ (List.mem_of_getElem? (i := 300) rfl))) (fun i h => by (have h0 := e0 i h; subst h0; exact hs _ (List.mem_of_getElem? (i := 301) rfl))) (fun i h => by (have h0 := e0 i h; subst h0; exact hs _ (List.mem_of_getElem? (i := 302) rfl)))
    (fun i h j hj => by
        obtain rfl := e0 i h
        match j, hj with
        | 0, _ => exact hs _ (List.mem_of_getElem? (i := 303) rfl)
        | j + 1, h => exact absurd h (by show ¬ j + 1 < 1; omega)) (fun i j h1 h2 h3 => by rw [e0 i h1, e0 j h2] at h3; exact absurd rfl h3) hA
  obtain ⟨h1, h2, h3, h4⟩ := hS.1 0 (by decide)
  refine ⟨(adK 0, adV 0), h1, h2, h3, ?_, hE 0 (by decide)⟩
  have e1 : (fun j : Nat => Value.int (Int32.ofInt ((strB.getD 15 []).getD j 0))) = fun j => Value.int ((([(strB.getD 15 []).map Int32.ofInt] : List (List Int32)).getD 0 []).getD j 0) := funext fun j => congrArg Value.int (map_getD _ j).symm
  rw [e1]
  exact h4
set_option maxRecDepth 100000 in
theorem stS_16 (hs : Hf b s) (hA : ∀ a : Nat, a < s.heap.size → ¬ A a) : ∃ q : Nat × Nat, va_O "java/lang/String" q.1 A s s.heap ∧ va_OF "java/lang/String" "coder" "B" (.int 0) q.1 A s s.heap ∧ va_OF "java/lang/String" "value" "[B" (.ref q.2) q.1 A s s.heap ∧ va_T .byte q.2 1 (fun j => .int (Int32.ofInt ((strB.getD 16 []).getD j 0))) A s s.heap ∧ (Term.string "StrengthHouseModel" 182).eval #[Value.ref b] s none [] s = some (.ref q.1) := by
  have e0 : ∀ i : Nat, i < 1 → i = 0 := fun i h => by omega
  obtain ⟨adK, adV, hS, hE⟩ := vk_Sof (args := #[Value.ref b]) (s := s) (N := 1) (A := A) (tm := fun _ => .string "StrengthHouseModel" 182) (len := [1]) (byt := [(strB.getD 16 []).map Int32.ofInt]) (fun i h => by (have h0 := e0 i h; subst h0; decide)) (fun i h => by (have h0 := e0 i h; subst h0; exact hs _ (List.mem_of_getElem? (i := 319) rfl))) (fun i h => by (have h0 := e0 i h; subst h0; exact hs _ (List.mem_of_getElem? (i := 320) rfl))) (fun i h => by (have h0 := e0 i h; subst h0; exact hs _ (List.mem_of_getElem? (i := 321) rfl))) (fun i h => by (have h0 := e0 i h; subst h0; exact hs _ (List.mem_of_getElem? (i := 322) rfl)))
    (fun i h j hj => by
        obtain rfl := e0 i h
        match j, hj with
        | 0, _ => exact hs _ (List.mem_of_getElem? (i := 323) rfl)
        | j + 1, h => exact absurd h (by show ¬ j + 1 < 1; omega)) (fun i j h1 h2 h3 => by rw [e0 i h1, e0 j h2] at h3; exact absurd rfl h3) hA
  obtain ⟨h1, h2, h3, h4⟩ := hS.1 0 (by decide)
  refine ⟨(adK 0, adV 0), h1, h2, h3, ?_, hE 0 (by decide)⟩
  have e1 : (fun j : Nat => Value.int (Int32.ofInt ((strB.getD 16 []).getD j 0))) = fun j => Value.int ((([(strB.getD 16 []).map Int32.ofInt] : List (List Int32)).getD 0 []).getD j 0) := funext fun j => congrArg Value.int (map_getD _ j).symm
  rw [e1]
  exact h4
set_option maxRecDepth 100000 in
theorem stS_17 (hs : Hf b s) (hA : ∀ a : Nat, a < s.heap.size → ¬ A a) : ∃ q : Nat × Nat, va_O "java/lang/String" q.1 A s s.heap ∧ va_OF "java/lang/String" "coder" "B" (.int 0) q.1 A s s.heap ∧ va_OF "java/lang/String" "value" "[B" (.ref q.2) q.1 A s s.heap ∧ va_T .byte q.2 4 (fun j => .int (Int32.ofInt ((strB.getD 17 []).getD j 0))) A s s.heap ∧ (Term.string "StrengthHouseModel" 184).eval #[Value.ref b] s none [] s = some (.ref q.1) := by
  have e0 : ∀ i : Nat, i < 1 → i = 0 := fun i h => by omega
  obtain ⟨adK, adV, hS, hE⟩ := vk_Sof (args := #[Value.ref b]) (s := s) (N := 1) (A := A) (tm := fun _ => .string "StrengthHouseModel" 184) (len := [4]) (byt := [(strB.getD 17 []).map Int32.ofInt]) (fun i h => by (have h0 := e0 i h; subst h0; decide)) (fun i h => by (have h0 := e0 i h; subst h0; exact hs _ (List.mem_of_getElem? (i := 340) rfl))) (fun i h => by (have h0 := e0 i h; subst h0; exact hs _ (List.mem_of_getElem? (i := 341) rfl))) (fun i h => by (have h0 := e0 i h; subst h0; exact hs _ (List.mem_of_getElem? (i := 342) rfl))) (fun i h => by (have h0 := e0 i h; subst h0; exact hs _ (List.mem_of_getElem? (i := 343) rfl)))
    (fun i h j hj => by
        obtain rfl := e0 i h
        match j, hj with
        | 0, _ => exact hs _ (List.mem_of_getElem? (i := 344) rfl)
        | 1, _ => exact hs _ (List.mem_of_getElem? (i := 345) rfl)
        | 2, _ => exact hs _ (List.mem_of_getElem? (i := 346) rfl)
        | 3, _ => exact hs _ (List.mem_of_getElem? (i := 347) rfl)
        | j + 4, h => exact absurd h (by show ¬ j + 4 < 4; omega)) (fun i j h1 h2 h3 => by rw [e0 i h1, e0 j h2] at h3; exact absurd rfl h3) hA
  obtain ⟨h1, h2, h3, h4⟩ := hS.1 0 (by decide)
  refine ⟨(adK 0, adV 0), h1, h2, h3, ?_, hE 0 (by decide)⟩
  have e1 : (fun j : Nat => Value.int (Int32.ofInt ((strB.getD 17 []).getD j 0))) = fun j => Value.int ((([(strB.getD 17 []).map Int32.ofInt] : List (List Int32)).getD 0 []).getD j 0) := funext fun j => congrArg Value.int (map_getD _ j).symm
  rw [e1]
  exact h4
set_option maxRecDepth 100000 in
theorem stT_ABOVE (hs : Hf b s) (ht : ∀ w ∈ lw_tbl, w.before #[Value.ref b] s = true) (hA : ∀ a : Nat, a < s.heap.size → ¬ A a) : ∃ t : Nat, va_T .int t 6 (fun j => .int (Int32.ofInt (aboveT.getD j 0))) A s s.heap ∧ va_Z "StrengthHouse$Piece" "ABOVE" "[I" (.ref t) A s s.heap := by
  obtain ⟨t, h1, h2⟩ := va_Tof (args := #[Value.ref b]) (s := s) (A := A) (tm := .static "StrengthHouse$Piece" "ABOVE" "[I") (ty := .int) (N := 6) (f := fun j => .int (Int32.ofInt (aboveT.getD j 0))) (by decide) (hs _ (List.mem_of_getElem? (i := 5) rfl)) (va_eqt (hs _ (List.mem_of_getElem? (i := 6) rfl)))
    (fun j hj => by
      match j, hj with
      | 0, _ => exact va_eqt (hs _ (List.mem_of_getElem? (i := 7) rfl))
      | 1, _ => exact va_eqt (hs _ (List.mem_of_getElem? (i := 8) rfl))
      | 2, _ => exact va_eqt (hs _ (List.mem_of_getElem? (i := 9) rfl))
      | 3, _ => exact va_eqt (hs _ (List.mem_of_getElem? (i := 10) rfl))
      | 4, _ => exact va_eqt (hs _ (List.mem_of_getElem? (i := 11) rfl))
      | 5, _ => exact va_eqt (hs _ (List.mem_of_getElem? (i := 12) rfl))
      | j + 6, h => exact absurd h (by omega)) hA
  exact ⟨t, h2, va_Zref (ht _ (ndA_in (h := 582) rfl)) (ht _ (ndA_in (h := 85) rfl)) h1 hA⟩
set_option maxRecDepth 100000 in
theorem stT_BODIES (hs : Hf b s) (ht : ∀ w ∈ lw_tbl, w.before #[Value.ref b] s = true) (hA : ∀ a : Nat, a < s.heap.size → ¬ A a) : ∃ t : Nat, va_T .int t 24 (fun j => .int (Int32.ofInt (bodiesT.getD j 0))) A s s.heap ∧ va_Z "StrengthHouse$Voices" "BODIES" "[I" (.ref t) A s s.heap := by
  obtain ⟨t, h1, h2⟩ := va_Tof (args := #[Value.ref b]) (s := s) (A := A) (tm := .static "StrengthHouse$Voices" "BODIES" "[I") (ty := .int) (N := 24) (f := fun j => .int (Int32.ofInt (bodiesT.getD j 0))) (by decide) (hs _ (List.mem_of_getElem? (i := 19) rfl)) (va_eqt (hs _ (List.mem_of_getElem? (i := 20) rfl)))
    (fun j hj => by
      match j, hj with
      | 0, _ => exact va_eqt (hs _ (List.mem_of_getElem? (i := 21) rfl))
      | 1, _ => exact va_eqt (hs _ (List.mem_of_getElem? (i := 22) rfl))
      | 2, _ => exact va_eqt (hs _ (List.mem_of_getElem? (i := 23) rfl))
      | 3, _ => exact va_eqt (hs _ (List.mem_of_getElem? (i := 24) rfl))
      | 4, _ => exact va_eqt (hs _ (List.mem_of_getElem? (i := 25) rfl))
      | 5, _ => exact va_eqt (hs _ (List.mem_of_getElem? (i := 26) rfl))
      | 6, _ => exact va_eqt (hs _ (List.mem_of_getElem? (i := 27) rfl))
      | 7, _ => exact va_eqt (hs _ (List.mem_of_getElem? (i := 28) rfl))
      | 8, _ => exact va_eqt (hs _ (List.mem_of_getElem? (i := 29) rfl))
      | 9, _ => exact va_eqt (hs _ (List.mem_of_getElem? (i := 30) rfl))
      | 10, _ => exact va_eqt (hs _ (List.mem_of_getElem? (i := 31) rfl))
      | 11, _ => exact va_eqt (hs _ (List.mem_of_getElem? (i := 32) rfl))
      | 12, _ => exact va_eqt (hs _ (List.mem_of_getElem? (i := 33) rfl))
      | 13, _ => exact va_eqt (hs _ (List.mem_of_getElem? (i := 34) rfl))
      | 14, _ => exact va_eqt (hs _ (List.mem_of_getElem? (i := 35) rfl))
      | 15, _ => exact va_eqt (hs _ (List.mem_of_getElem? (i := 36) rfl))
      | 16, _ => exact va_eqt (hs _ (List.mem_of_getElem? (i := 37) rfl))
      | 17, _ => exact va_eqt (hs _ (List.mem_of_getElem? (i := 38) rfl))
      | 18, _ => exact va_eqt (hs _ (List.mem_of_getElem? (i := 39) rfl))
      | 19, _ => exact va_eqt (hs _ (List.mem_of_getElem? (i := 40) rfl))
      | 20, _ => exact va_eqt (hs _ (List.mem_of_getElem? (i := 41) rfl))
      | 21, _ => exact va_eqt (hs _ (List.mem_of_getElem? (i := 42) rfl))
      | 22, _ => exact va_eqt (hs _ (List.mem_of_getElem? (i := 43) rfl))
      | 23, _ => exact va_eqt (hs _ (List.mem_of_getElem? (i := 44) rfl))
      | j + 24, h => exact absurd h (by omega)) hA
  exact ⟨t, h2, va_Zref (ht _ (ndA_in (h := 1140) rfl)) (ht _ (ndA_in (h := 88) rfl)) h1 hA⟩
set_option maxRecDepth 100000 in
theorem stZ_C (hs : Hf b s) (ht : ∀ w ∈ lw_tbl, w.before #[Value.ref b] s = true) (hA : ∀ a : Nat, a < s.heap.size → ¬ A a) : va_Z "java/lang/String" "COMPACT_STRINGS" "Z" (.int 1) A s s.heap := va_Zof (ht _ (ndA_in (h := 707) rfl)) (ht _ (ndA_in (h := 95) rfl)) (va_eqi (hs _ (List.mem_of_getElem? (i := 13) rfl))) hA
set_option maxRecDepth 100000 in
theorem stZ_S (hs : Hf b s) (ht : ∀ w ∈ lw_tbl, w.before #[Value.ref b] s = true) (hA : ∀ a : Nat, a < s.heap.size → ¬ A a) : va_Zq "jdk/internal/util/Preconditions" "SIOOBE_FORMATTER" "Ljava/util/function/BiFunction;" A s s.heap := va_Zqof (ht _ (ndA_in (h := 723) rfl)) (ht _ (ndA_in (h := 97) rfl)) (hs _ (List.mem_of_getElem? (i := 14) rfl)) hA
end ST
theorem goods_tbl {w : Jvm.Cond} (h : w ∈ goods) : w ∈ lw_tbl := (List.mem_filter.mp h).1
theorem st_cls {b : Nat} {s : State} (ht : ∀ w ∈ lw_tbl, w.before #[Value.ref b] s = true) : ∃ f : Nat → ClassId × (Nat → Nat), ∀ c, c < 13 → u_Kn s (clC c) (clT c) (clN c) (f c).1 (f c).2 := by
  have h : ∀ c, ∃ y : ClassId × (Nat → Nat), c < 13 → u_Kn s (clC c) (clT c) (clN c) y.1 y.2 := by
    intro c
    by_cases hc : c < 13
    · obtain ⟨cC, iS, hk⟩ := u_known ht (fun w hw => goods_tbl (cl_in c hc w hw)) (ht _ (goods_tbl (ins_all c hc)))
      exact ⟨(cC, iS), fun _ => hk⟩
    · exact ⟨(0, fun _ => 0), fun h => absurd h hc⟩
  exact Classical.skolem.mp h
theorem st_arr {b : Nat} {s : State} (ht : ∀ w ∈ lw_tbl, w.before #[Value.ref b] s = true) (h4 : va_AO RX4 s) (h5 : va_AO RX5 s) (h7 : va_AO RX7 s) (hJ : va_AO RJ0 s) : ∃ f : Nat → ClassId, ∀ t, t ∈ kinds → ArrOfT s (f t) (tyA t) ∧ va_RA s (f t) (tyA t) := by
  have ho : ∀ C, va_AO C s → ∃ c : ClassId, ArrOfT s c (.object C) ∧ va_RA s c (.object C) := by
    intro C h
    obtain ⟨comp, c, k, g1, g2, g3, g4, g5⟩ := Cond.arrayOver_spec h
    exact ⟨c, fun n z => ⟨fun k h => (by cases h), k, g3, comp, g4⟩, k, comp, g3, g4, g1, g5⟩
  have h : ∀ t, ∃ y : ClassId, t ∈ kinds → ArrOfT s y (tyA t) ∧ va_RA s y (tyA t) := by
    intro t
    by_cases hk : t ∈ kinds
    · unfold kinds at hk
      simp at hk
      rcases hk with rfl | rfl | rfl | rfl | rfl | rfl
      · obtain ⟨c, k, comp, g1, g2, g3⟩ := Cond.arrayClass_spec (ht _ (goods_tbl ac_i))
        exact ⟨c, fun _ => ⟨fun n z => ⟨fun k h => (by cases h), k, g2, comp, g3⟩, g1⟩⟩
      · obtain ⟨c, k, comp, g1, g2, g3⟩ := Cond.arrayClass_spec (ht _ (goods_tbl ac_b))
        exact ⟨c, fun _ => ⟨fun n z => ⟨fun k h => (by cases h), k, g2, comp, g3⟩, g1⟩⟩
      · obtain ⟨c, g⟩ := ho _ h4; exact ⟨c, fun _ => g⟩
      · obtain ⟨c, g⟩ := ho _ h5; exact ⟨c, fun _ => g⟩
      · obtain ⟨c, g⟩ := ho _ h7; exact ⟨c, fun _ => g⟩
      · obtain ⟨c, g⟩ := ho _ hJ; exact ⟨c, fun _ => g⟩
    · exact ⟨0, fun h => absurd h hk⟩
  exact Classical.skolem.mp h
