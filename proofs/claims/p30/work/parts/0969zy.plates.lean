/-! what plates answers. Own work (scripts laid by wip/pm/gen34.py). -/
section PLT
variable {G : pG} {d : Nat} {F : pF} {I : pI} {Q : Option pV → pF → pI → Prop}
/-! plates: pure. Own work. -/
def hbN (s i : Nat) : Nat := (s >>> i) &&& 1
def rsN (s i : Nat) : Nat := s ^^^ 2 ^ i
def pcN (s : Nat) : Nat := hbN s 0 + hbN s 1 + hbN s 2 + hbN s 3 + hbN s 4 + hbN s 5 + hbN s 6 + hbN s 7 + hbN s 8 + hbN s 9
set_option maxRecDepth 100000 in
theorem pl_all : (List.range 1024).all (fun s => (List.range 10).all (fun i => (hbN s i == 0) || ((hbN s i == 1) && ((s &&& (4294967295 - 2 ^ i)) == rsN s i) && Nat.blt (rsN s i) s && (pcN (rsN s i) + 1 == pcN s)))) = true := by decide +kernel
set_option maxRecDepth 100000 in
theorem pl_cnt : (List.range 11).all (fun n => (List.range (2 ^ n)).all (fun s => Nat.ble (pcN s) n && ((s == 0) || (List.range n).any (fun i => hbN s i == 1)))) = true := by decide +kernel
theorem rs_t {s i : Nat} (hs : s < 1024) (hi : i < 10) (h : hbN s i = 1) : (s &&& (4294967295 - 2 ^ i)) = rsN s i ∧ rsN s i < s ∧ pcN (rsN s i) + 1 = pcN s := by
  have a := List.all_eq_true.mp pl_all s (List.mem_range.mpr hs)
  have b := List.all_eq_true.mp a i (List.mem_range.mpr hi)
  rw [h] at b
  simp only [Bool.or_eq_true, Bool.and_eq_true, beq_iff_eq, Nat.blt_eq] at b
  rcases b with b | b
  · omega
  · exact ⟨b.1.1.2, b.1.2, b.2⟩
theorem pc_n {n s : Nat} (hn : n ≤ 10) (hs : s < 2 ^ n) : pcN s ≤ n ∧ (1 ≤ s → ∃ i, i < n ∧ hbN s i = 1) := by
  have a := List.all_eq_true.mp pl_cnt n (List.mem_range.mpr (by omega))
  have b := List.all_eq_true.mp a s (List.mem_range.mpr hs)
  simp only [Bool.or_eq_true, Bool.and_eq_true, beq_iff_eq, Nat.ble_eq, List.any_eq_true, List.mem_range] at b
  refine ⟨b.1, fun h => ?_⟩
  rcases b.2 with c | c
  · omega
  · exact c
theorem p2_10 {n : Nat} (hn : n ≤ 10) : 1 ≤ 2 ^ n ∧ 2 ^ n ≤ 1024 := ⟨Nat.one_le_two_pow, Nat.pow_le_pow_right (by decide) hn⟩
theorem hb_01 {s i : Nat} : hbN s i = 0 ∨ hbN s i = 1 := by
  have : hbN s i ≤ 1 := Nat.and_le_right
  omega
theorem nsh1 {u v : Nat} (l : u ≤ v) (hv : (v : Int) < 1024) : 0 ≤ (u : Int) ∧ (u : Int) < 2147483648 := by omega
theorem nsh2 {u : Nat} (l : u ≤ 2 ^ 9) : 0 ≤ (u : Int) ∧ (u : Int) < 1024 := by omega
theorem hb_v {s i : Int} (hs : 0 ≤ s ∧ s < 1024) (hi : 0 ≤ i ∧ i < 32) : bI (srI s i) 1 = (hbN s.toNat i.toNat : Int) := by
  have a := srI_n (x := s) (y := i) (by omega) hi
  have l := Nat.shiftRight_le s.toNat i.toNat
  have b := bI_n (x := srI s i) (y := 1) (by rw [a]; exact nsh1 l (by omega)) (by omega)
  rw [b, a]
  rfl
theorem sl_v {i : Int} (hi : 0 ≤ i ∧ i ≤ 12) : slI 1 i = ((2 ^ i.toNat : Nat) : Int) := by
  have a := slI1 ⟨i.toNat, by omega⟩
  rwa [show ((⟨i.toNat, by omega⟩ : Fin 13).val : Int) = i from Int.toNat_of_nonneg hi.1] at a
theorem xI_n {x y : Int} (hx : 0 ≤ x ∧ x < 1024) (hy : 0 ≤ y ∧ y < 1024) : xI x y = ((x.toNat ^^^ y.toNat : Nat) : Int) := by
  unfold xI
  show ((Int32.ofInt x ^^^ Int32.ofInt y).toBitVec).toInt = _
  rw [Int32.toBitVec_xor]
  show (BitVec.ofInt 32 x ^^^ BitVec.ofInt 32 y).toInt = _
  have h : (x.toNat ^^^ y.toNat) < 2 ^ 10 := Nat.xor_lt_two_pow (by omega) (by omega)
  rw [bv_nat (by omega), bv_nat (x := y) (by omega), ← BitVec.ofNat_xor, bv_toInt (by omega)]
theorem rs_c {s i : Int} (hs : 0 ≤ s ∧ s < 1024) (hi : 0 ≤ i ∧ i < 10) : xI s (slI 1 i) = ((rsN s.toNat i.toNat : Nat) : Int) := by
  have e := sl_v (i := i) (by omega)
  have l : 2 ^ i.toNat ≤ 2 ^ 9 := Nat.pow_le_pow_right (by decide) (by omega)
  have b := xI_n (x := s) (y := slI 1 i) hs (by rw [e]; exact nsh2 l)
  rw [b, e]
  rfl
theorem nb_all : ∀ n : Fin 10, (Int32.ofInt (xI (slI 1 (n.val : Int)) (-1))).toBitVec = BitVec.ofNat 32 (4294967295 - 2 ^ n.val) := by decide +kernel
theorem rs_m {s i : Int} (hs : 0 ≤ s ∧ s < 1024) (hi : 0 ≤ i ∧ i < 10) (h : hbN s.toNat i.toNat = 1) : bI s (xI (slI 1 i) (-1)) = ((rsN s.toNat i.toNat : Nat) : Int) := by
  have a := nb_all ⟨i.toNat, by omega⟩
  rw [show ((⟨i.toNat, by omega⟩ : Fin 10).val : Int) = i from Int.toNat_of_nonneg hi.1] at a
  have t := rs_t (s := s.toNat) (i := i.toNat) (by omega) (by omega) h
  unfold bI
  show ((Int32.ofInt s &&& Int32.ofInt (xI (slI 1 i) (-1))).toBitVec).toInt = _
  rw [Int32.toBitVec_and, a]
  show (BitVec.ofInt 32 s &&& BitVec.ofNat 32 (4294967295 - 2 ^ i.toNat)).toInt = _
  rw [bv_nat (by omega), ← BitVec.ofNat_and, t.1, bv_toInt (by omega)]
/-- one more piece is cut -/
def c1F (c p l : Int) : Int := if c % 1024 + p ≤ l then c + p else (c / 1024 + 1) * 1024 + p
theorem c1_y {c p l : Int} (h : c % 1024 + p ≤ l) : c1F c p l = c + p := if_pos h
theorem c1_n {c p l : Int} (h : ¬ c % 1024 + p ≤ l) : c1F c p l = (c / 1024 + 1) * 1024 + p := if_neg h
theorem c1_b {c p l q : Int} (h0 : 0 ≤ c) (hq : c / 1024 ≤ q) (hl : l ≤ 999) (hp : 1 ≤ p ∧ p ≤ l) : 0 ≤ c1F c p l ∧ c1F c p l / 1024 ≤ q + 1 ∧ c1F c p l % 1024 ≤ l := by
  by_cases h : c % 1024 + p ≤ l
  · rw [c1_y h]; omega
  · rw [c1_n h]; omega
theorem c1_m {P C c p l : Int} (e : P * 1024 + C = c) (hC : 0 ≤ C ∧ C ≤ 999) : (C + p ≤ l → c1F c p l = P * 1024 + (C + p)) ∧ (¬ C + p ≤ l → c1F c p l = (P + 1) * 1024 + p) := by
  refine ⟨fun h => ?_, fun h => ?_⟩
  · rw [c1_y (by omega)]; omega
  · rw [c1_n (by omega)]; omega
/-- the best of those of the set that come last, of the first i -/
def bzF (T X : Nat → Int) (l : Int) (s : Nat) : Nat → Int
  | 0 => 2000000000
  | i + 1 => if hbN s i = 1 then (if bzF T X l s i ≤ c1F (T (rsN s i)) (X i) l then bzF T X l s i else c1F (T (rsN s i)) (X i) l) else bzF T X l s i
theorem bzF_s {T X : Nat → Int} {l : Int} {s i : Nat} : (¬ hbN s i = 1 → bzF T X l s (i + 1) = bzF T X l s i) ∧ (hbN s i = 1 → bzF T X l s i ≤ c1F (T (rsN s i)) (X i) l → bzF T X l s (i + 1) = bzF T X l s i) ∧ (hbN s i = 1 → c1F (T (rsN s i)) (X i) l ≤ bzF T X l s i → bzF T X l s (i + 1) = c1F (T (rsN s i)) (X i) l) := by
  refine ⟨fun h => if_neg h, fun h g => (if_pos h).trans (if_pos g), fun h g => (if_pos h).trans ?_⟩
  by_cases e : bzF T X l s i ≤ c1F (T (rsN s i)) (X i) l
  · rw [if_pos e]; omega
  · rw [if_neg e]
/-- the table: sets up to m are done -/
def tbF (X : Nat → Int) (n : Nat) (l : Int) : Nat → (Nat → Int)
  | 0 => fun _ => l
  | m + 1 => fun k => if k = m + 1 then bzF (tbF X n l m) X l (m + 1) n else tbF X n l m k
theorem tb_e {X : Nat → Int} {n m : Nat} {l : Int} : tbF X n l (m + 1) (m + 1) = bzF (tbF X n l m) X l (m + 1) n := if_pos rfl
theorem tb_l {X : Nat → Int} {n m k : Nat} {l : Int} (h : ¬ k = m + 1) : tbF X n l (m + 1) k = tbF X n l m k := if_neg h
def TG (T : Nat → Int) (l : Int) (m : Nat) : Prop := ∀ k, k ≤ m → 0 ≤ T k ∧ T k / 1024 ≤ (pcN k : Int) ∧ T k % 1024 ≤ l
theorem bs_b {T X : Nat → Int} {l : Int} {s n : Nat} (hs : 1 ≤ s ∧ s < 1024) (hn : n ≤ 10) (hl : 1 ≤ l ∧ l ≤ 999) (hX : ∀ j, j < n → 1 ≤ X j ∧ X j ≤ l) (hT : TG T l (s - 1)) : ∀ i, i ≤ n → (bzF T X l s i = 2000000000 ∧ ∀ j, j < i → ¬ hbN s j = 1) ∨ (0 ≤ bzF T X l s i ∧ bzF T X l s i / 1024 ≤ (pcN s : Int) ∧ bzF T X l s i % 1024 ≤ l) := by
  intro i
  induction i with
  | zero => intro _; exact Or.inl ⟨rfl, fun j hj => absurd hj (by omega)⟩
  | succ i ih =>
    intro hi
    have k := bzF_s (T := T) (X := X) (l := l) (s := s) (i := i)
    by_cases c : hbN s i = 1
    · have t := rs_t (s := s) (i := i) hs.2 (by omega) c
      have g := hT (rsN s i) (by omega)
      have b := c1_b (c := T (rsN s i)) (p := X i) (l := l) (q := (pcN (rsN s i) : Int)) g.1 g.2.1 hl.2 (hX i (by omega))
      by_cases e : bzF T X l s i ≤ c1F (T (rsN s i)) (X i) l
      · rw [k.2.1 c e]
        rcases ih (by omega) with q | q
        · omega
        · exact Or.inr q
      · rw [k.2.2 c (by omega)]
        exact Or.inr (by omega)
    · rw [k.1 c]
      rcases ih (by omega) with q | q
      · refine Or.inl ⟨q.1, fun j hj => ?_⟩
        by_cases e : j = i
        · rw [e]; exact c
        · exact q.2 j (by omega)
      · exact Or.inr q
theorem bs_f {T X : Nat → Int} {l : Int} {s n : Nat} (hs : 1 ≤ s ∧ s < 2 ^ n) (hn : n ≤ 10) (hl : 1 ≤ l ∧ l ≤ 999) (hX : ∀ j, j < n → 1 ≤ X j ∧ X j ≤ l) (hT : TG T l (s - 1)) : 0 ≤ bzF T X l s n ∧ bzF T X l s n / 1024 ≤ (pcN s : Int) ∧ bzF T X l s n % 1024 ≤ l := by
  have p := p2_10 hn
  rcases bs_b ⟨hs.1, by omega⟩ hn hl hX hT n (Nat.le_refl n) with q | q
  · obtain ⟨i, h1, h2⟩ := (pc_n hn hs.2).2 hs.1
    exact absurd h2 (q.2 i h1)
  · exact q
theorem tb_g {X : Nat → Int} {n : Nat} {l : Int} (hn : n ≤ 10) (hl : 1 ≤ l ∧ l ≤ 999) (hX : ∀ j, j < n → 1 ≤ X j ∧ X j ≤ l) : ∀ m, m < 2 ^ n → TG (tbF X n l m) l m := by
  intro m
  induction m with
  | zero =>
    intro _ k hk
    obtain rfl : k = 0 := by omega
    show 0 ≤ l ∧ l / 1024 ≤ ((pcN 0 : Nat) : Int) ∧ l % 1024 ≤ l
    omega
  | succ m ih =>
    intro hm k hk
    have g := ih (by omega)
    by_cases e : k = m + 1
    · subst e
      rw [tb_e]
      exact bs_f (s := m + 1) ⟨by omega, hm⟩ hn hl hX g
    · rw [tb_l e]
      exact g k (by omega)
/-- the numbers of a sheet, as far as they are asked -/
def shN (f : Nat → Int) (n : Int) (k : Nat) : Int := if (k : Int) < n then f k else 0
theorem shN_i {f : Nat → Int} {n : Int} {k : Nat} (h : (k : Int) < n) : shN f n k = f k := if_pos h
theorem shN_e {f g : Nat → Int} {n : Int} (h : ∀ k : Nat, (k : Int) < n → f k = g k) : shN f n = shN g n := funext (fun k => by
  unfold shN
  by_cases c : (k : Int) < n
  · rw [if_pos c, if_pos c]; exact h k c
  · rw [if_neg c, if_neg c])
def PLC (I : pI) (T : Nat → Int) (m : Nat) : Prop := ∀ q, q < m → I 226 q = T q
def PLM (I : pI) (T : Nat → Int) (m : Nat) : Prop := ∀ q, q < m → I 247 q * 1024 + I 248 q = T q ∧ (0 ≤ I 248 q ∧ I 248 q ≤ 999) ∧ 0 ≤ I 247 q
def PLB (I : pI) (s : Nat) (n b : Int) : Prop := (b = 2000000000 ∧ I 247 s = n + 1) ∨ (I 247 s * 1024 + I 248 s = b ∧ (0 ≤ I 248 s ∧ I 248 s ≤ 999) ∧ 0 ≤ I 247 s ∧ I 247 s ≤ n)
theorem PLM_f {I J : pI} {T : Nat → Int} {m : Nat} (h : PLM I T m) (e : ∀ q, q < m → J 247 q = I 247 q ∧ J 248 q = I 248 q) : PLM J T m := fun q hq => by
  rw [(e q hq).1, (e q hq).2]
  exact h q hq
theorem PLC_s {I J : pI} {X : Nat → Int} {n s : Nat} {l b : Int} (hs : 1 ≤ s) (h : PLC I (tbF X n l (s - 1)) s) (f : ∀ q, q < s → J 226 q = I 226 q) (g : J 226 s = b) (hb : b = bzF (tbF X n l (s - 1)) X l s n) : PLC J (tbF X n l s) (s + 1) := fun q hq => by
  obtain ⟨m, rfl⟩ : ∃ m, s = m + 1 := ⟨s - 1, by omega⟩
  by_cases e : q = m + 1
  · subst e
    rw [tb_e, g, hb]
    rfl
  · rw [tb_l e, f q (by omega)]
    exact h q (by omega)
theorem PLM_s {J : pI} {X : Nat → Int} {n s : Nat} {l : Int} (hs : 1 ≤ s ∧ s < 2 ^ n) (hn : n ≤ 10) (hl : 1 ≤ l ∧ l ≤ 999) (hX : ∀ j, j < n → 1 ≤ X j ∧ X j ≤ l) (h : PLM J (tbF X n l (s - 1)) s) (hb : PLB J s (n : Int) (bzF (tbF X n l (s - 1)) X l s n)) : PLM J (tbF X n l s) (s + 1) := fun q hq => by
  have g := tb_g hn hl hX (s - 1) (by omega)
  have f := bs_f hs hn hl hX g
  have c := pc_n hn hs.2
  obtain ⟨m, rfl⟩ : ∃ m, s = m + 1 := ⟨s - 1, by omega⟩
  by_cases e : q = m + 1
  · subst e
    rw [tb_e]
    have f2 : 0 ≤ bzF (tbF X n l m) X l (m + 1) n ∧ bzF (tbF X n l m) X l (m + 1) n / 1024 ≤ (pcN (m + 1) : Int) ∧ bzF (tbF X n l m) X l (m + 1) n % 1024 ≤ l := f
    have b2 : PLB J (m + 1) (n : Int) (bzF (tbF X n l m) X l (m + 1) n) := hb
    unfold PLB at b2
    rcases b2 with b2 | b2
    · omega
    · exact ⟨b2.1, b2.2.1, b2.2.2.1⟩
  · rw [tb_l e]
    exact h q (by omega)
theorem c_cut11 (hF : FS F) (hR : Rg I) {v0 v1 v2 : Int} (h0 : 0 ≤ v0 ∧ v0 ≤ 20000) (h1 : 1 ≤ v1 ∧ v1 ≤ 999) (h2 : 1 ≤ v2 ∧ v2 ≤ 999) (hQ : ∀ r : Int, iR r → (r = c1F v0 v1 v2 ∧ 0 ≤ r ∧ r ≤ 30000) → Q (some (vi r)) F I) : CallN G d kX11_cutOneMore [vi v0, vi v1, vi v2] NP F I Q := by
  refine CallN_in (fun hok hA => CallN_out ?_)
  have iv0 : -2147483648 ≤ v0 ∧ v0 < 2147483648 := hok (vi v0) (by simp)
  have iv1 : -2147483648 ≤ v1 ∧ v1 < 2147483648 := hok (vi v1) (by simp)
  have iv2 : -2147483648 ≤ v2 ∧ v2 < 2147483648 := hok (vi v2) (by simp)
  refine Call_wp (lv := [some (vi v0), some (vi v1), some (vi v2), none]) (by decide) ckX11_cutOneMore [] rfl rfl ?_
  refine ⟨(by decide), ?_⟩
  have n1 : (Int.tmod v0 1024) = (v0 : Int) % 1024 := Int.tmod_eq_emod_of_nonneg (by omega)
  have n2 : (wr ((Int.tmod v0 1024) + v1)) = (Int.tmod v0 1024) + v1 := wr_id (show -2147483648 ≤ ((Int.tmod v0 1024) + v1 : Int) ∧ ((Int.tmod v0 1024) + v1 : Int) < 2147483648 from by omega)
  refine ⟨fun (c3 : ((v2 : Int) < (wr ((Int.tmod v0 1024) + v1)))) => ?_, fun (c3 : (¬ ((v2 : Int) < (wr ((Int.tmod v0 1024) + v1))))) => ?_⟩
  ·
    refine ⟨fun _ => ?_, fun c => absurd (show ((0 : Int) = 0) from by decide) c⟩
    refine ⟨(by decide), ?_⟩
    have n4 : (Int.tdiv v0 1024) = (v0 : Int) / 1024 := Int.tdiv_eq_ediv_of_nonneg (by omega)
    have n5 : (wr (Int.tdiv v0 1024)) = (Int.tdiv v0 1024) := wr_id (show -2147483648 ≤ ((Int.tdiv v0 1024) : Int) ∧ ((Int.tdiv v0 1024) : Int) < 2147483648 from by omega)
    have n6 : (wr ((wr (Int.tdiv v0 1024)) + 1)) = (wr (Int.tdiv v0 1024)) + 1 := wr_id (show -2147483648 ≤ ((wr (Int.tdiv v0 1024)) + 1 : Int) ∧ ((wr (Int.tdiv v0 1024)) + 1 : Int) < 2147483648 from by omega)
    have n7 : (wr ((wr ((wr (Int.tdiv v0 1024)) + 1)) * 1024)) = (wr ((wr (Int.tdiv v0 1024)) + 1)) * 1024 := wr_id (show -2147483648 ≤ ((wr ((wr (Int.tdiv v0 1024)) + 1)) * 1024 : Int) ∧ ((wr ((wr (Int.tdiv v0 1024)) + 1)) * 1024 : Int) < 2147483648 from by omega)
    have n8 : (wr ((wr ((wr ((wr (Int.tdiv v0 1024)) + 1)) * 1024)) + v1)) = (wr ((wr ((wr (Int.tdiv v0 1024)) + 1)) * 1024)) + v1 := wr_id (show -2147483648 ≤ ((wr ((wr ((wr (Int.tdiv v0 1024)) + 1)) * 1024)) + v1 : Int) ∧ ((wr ((wr ((wr (Int.tdiv v0 1024)) + 1)) * 1024)) + v1 : Int) < 2147483648 from by omega)
    exact ⟨rfl, fun hv hA' => hQ _ (hv _ rfl) ((by
                              by_cases q : v0 % 1024 + v1 ≤ v2
                              · rw [c1_y q]; omega
                              · rw [c1_n q]; omega))⟩
  ·
    refine ⟨fun c => absurd c (show (¬ ((1 : Int) = 0)) from by decide), fun _ => ?_⟩
    have n9 : (wr (v0 + v1)) = v0 + v1 := wr_id (show -2147483648 ≤ (v0 + v1 : Int) ∧ (v0 + v1 : Int) < 2147483648 from by omega)
    exact ⟨rfl, fun hv hA' => hQ _ (hv _ rfl) ((by
                              by_cases q : v0 % 1024 + v1 ≤ v2
                              · rw [c1_y q]; omega
                              · rw [c1_n q]; omega))⟩
theorem c_num11 (hF : FS F) (hR : Rg I) {v0 : Int} {h : Nat} (hh : HP F h) {n : Int} {X : Nat → Int} (hz : n ≤ I h 1) (hi : 0 ≤ v0 ∧ v0 < n ∧ v0 < 24) (hX : ∀ j : Nat, (j : Int) < n → I (h + 1) j = X j ∧ 1 ≤ X j ∧ X j ≤ 999) (hQ : ∀ r : Int, iR r → (r = X (Int.toNat v0) ∧ 1 ≤ r ∧ r ≤ 999) → Q (some (vi r)) F I) : CallN G d kX7_numberAt [vr h, vi v0] NP F I Q := by
  refine CallN_in (fun hok hA => CallN_out ?_)
  have iv0 : -2147483648 ≤ v0 ∧ v0 < 2147483648 := hok (vi v0) (by simp)
  refine Call_wp (lv := [some (vr h), some (vi v0)]) (by decide) ckX7_numberAt [] rfl rfl ?_
  refine ⟨fun c => absurd c (show (¬ ((v0 : Int) < 0)) from by first | omega | (simp only [wr, wl] at *; omega)), fun _ => ?_⟩
  refine ⟨_, hh.1, (by have := hh.2.2.1; show _ < 254; omega), ?_⟩
  have r1 : 0 ≤ (I h 1) ∧ (I h 1) ≤ 24 := hR.h hh.1 (by have := hh.2.2.1; omega)
  have a2 : -2147483648 ≤ (I h 1) ∧ (I h 1) < 2147483648 := hA.1 _ _
  refine ⟨fun (c3 : (((I h 1) : Int) ≤ v0)) => ?_, fun (c3 : (¬ (((I h 1) : Int) ≤ v0))) => ?_⟩
  ·
    exact ⟨rfl, fun hv hA' => hQ _ (hv _ rfl) ((by
                              have q := hX (Int.toNat v0) (by omega)
                              omega))⟩
  ·
    refine ⟨fun c => absurd c (show (¬ ((24 : Int) ≤ v0)) from by first | omega | (simp only [wr, wl] at *; omega)), fun _ => ?_⟩
    refine ⟨_, hh.1, (by have := hh.2.2.1; show _ < 254; omega), ?_⟩
    refine fun w0 hw0 => ?_; obtain rfl : w0 = some (h + 1) := hw0.symm.trans hh.2.2.2
    refine ⟨_, hh.2.1, (by have := hh.2.2.1; show _ < 254; omega), (show (0 : Int) ≤ v0 from by first | omega | (simp only [wr, wl] at *; omega)), (show v0 < (24 : Int) from by first | omega | (simp only [wr, wl] at *; omega)), ?_⟩
    exact ⟨rfl, fun hv hA' => hQ _ (hv _ rfl) ((by
                              have q := hX (Int.toNat v0) (by omega)
                              omega))⟩
theorem c_plt11_l2 (hF : FS F) (hR : Rg I) {s v0 v1 : Int} {h : Nat} (hh : HP F h) (hn : 0 ≤ v0 ∧ v0 ≤ 10) (hl : 1 ≤ v1 ∧ v1 ≤ 999) (hz : v0 ≤ I h 1) {X : Nat → Int} (hX : ∀ j : Nat, (j : Int) < v0 → I (h + 1) j = X j ∧ 1 ≤ X j ∧ X j ≤ v1) {T : Nat → Int} (hs : 1 ≤ s ∧ s ≤ 1023) (hs2 : Int.toNat s < 2 ^ (Int.toNat v0)) (hT : PLC I T (Int.toNat s)) (hG : TG T v1 (Int.toNat s - 1)) (hK : ∀ (b : Int) , (b = bzF T X v1 (Int.toNat s) (Int.toNat v0)) → GoN G (d + 1) kX11_fewestPlates NP NP 87 [some (vr 0), some (vr h), some (vi v0), some (vi v1), some (vi s), some (vi b), none] [] F I Q) : ∀ (mz : Nat) (b i : Int) , ((0 : Int) ≤ i) → ((i : Int) ≤ 10) → (i ≤ v0) → (b = bzF T X v1 (Int.toNat s) (Int.toNat i)) → (10 - i).toNat < mz → GoN G (d + 1) kX11_fewestPlates NP NP 36 [some (vr 0), some (vr h), some (vi v0), some (vi v1), some (vi s), some (vi b), some (vi i)] [] F I Q := by
  intro mz
  induction mz with
  | zero => intro b i _ _ _ _ h; exact absurd h (Nat.not_lt_zero _)
  | succ mz ih =>
    intro b i cc100 cc101 cc102 cc103 hm
    refine GoN_in (fun hok hA => ?_)
    have iiv0 : -2147483648 ≤ v0 ∧ v0 < 2147483648 := hok 2 _ rfl
    have iiv1 : -2147483648 ≤ v1 ∧ v1 < 2147483648 := hok 3 _ rfl
    have iis : -2147483648 ≤ s ∧ s < 2147483648 := hok 4 _ rfl
    have iib : -2147483648 ≤ b ∧ b < 2147483648 := hok 5 _ rfl
    have iii : -2147483648 ≤ i ∧ i < 2147483648 := hok 6 _ rfl
    have hbe := hb_v (s := s) (i := i) (by omega) (by omega)
    have hb1 := hb_01 (s := Int.toNat s) (i := Int.toNat i)
    have ksb := cc103
    refine Go_wp (by decide) ckX11_fewestPlates [36, 87] ?_
    refine ⟨fun (c1 : ((v0 : Int) ≤ i)) => ?_, fun (c1 : (¬ ((v0 : Int) ≤ i))) => ?_⟩
    ·
      refine GoN_lv (lv' := [some (vr 0), some (vr h), some (vi v0), some (vi v1), some (vi s), some (vi b), none]) (LvLe.k (LvLe.k (LvLe.k (LvLe.k (LvLe.k (LvLe.k (LvLe.d LvLe.n))))))) ?_
      exact hK b  (show b = bzF T X v1 (Int.toNat s) (Int.toNat v0) from (by
                              rw [show Int.toNat v0 = Int.toNat i from by omega]
                              exact ksb))
    ·
      have n2 : 0 ≤ (bI (srI s i) 1) ∧ (bI (srI s i) 1) ≤ 1 := bI_ri (by decide)
      refine ⟨fun (c3 : (((bI (srI s i) 1) : Int) = 0)) => ?_, fun (c3 : (¬ (((bI (srI s i) 1) : Int) = 0))) => ?_⟩
      ·
        have n4 : (wr (i + 1)) = i + 1 := wr_id (show -2147483648 ≤ (i + 1 : Int) ∧ (i + 1 : Int) < 2147483648 from by omega)
        exact ih b (wr (i + 1))  (show (0 : Int) ≤ (wr (i + 1)) from by first | omega | (simp only [wr, wl] at *; omega)) (show ((wr (i + 1)) : Int) ≤ 10 from by first | omega | (simp only [wr, wl] at *; omega)) (show (wr (i + 1)) ≤ v0 from by first | omega | (simp only [wr, wl] at *; omega)) (show b = bzF T X v1 (Int.toNat s) (Int.toNat (wr (i + 1))) from (by
                              have ks := bzF_s (T := T) (X := X) (l := v1) (s := Int.toNat s) (i := Int.toNat i)
                              rw [show Int.toNat (wr (i + 1)) = Int.toNat i + 1 from by omega]
                              rw [ks.1 (by omega)]; exact ksb)) (show (10 - (wr (i + 1))).toNat < mz from by omega)
      ·
        refine ⟨_, rfl, (by decide), ?_⟩
        refine fun w0 hw0 => ?_; obtain rfl : w0 = some 226 := hw0.symm.trans (FS.g hF rfl)
        have n5 : 1 ≤ (slI 1 i) ∧ (slI 1 i) ≤ 512 := slI_9 (by omega)
        have n6 : 0 ≤ (xI s (slI 1 i)) ∧ (xI s (slI 1 i)) < 1024 := xI_lt (by omega) (by omega)
        refine ⟨_, rfl, (by decide), (show (0 : Int) ≤ (xI s (slI 1 i)) from by first | omega | (simp only [wr, wl] at *; omega)), (show (xI s (slI 1 i)) < (1024 : Int) from by first | omega | (simp only [wr, wl] at *; omega)), ?_⟩
        have hx := rs_c (s := s) (i := i) (by omega) (by omega)
        have hr := rs_t (s := Int.toNat s) (i := Int.toNat i) (by omega) (by omega) (by omega)
        have hg := hG (rsN (Int.toNat s) (Int.toNat i)) (by omega)
        have hc := (pc_n (n := (Int.toNat v0)) (s := (Int.toNat s)) (by omega) (by omega)).1
        have z7 : (I 226 (Int.toNat (xI s (slI 1 i)))) = T (rsN (Int.toNat s) (Int.toNat i)) := (congrArg (I 226) (by omega)).trans (hT _ (by omega))
        refine ⟨⟨_, hh.1, (by have := hh.2.2.1; show _ < 254; omega)⟩, ?_⟩
        refine c_num11 (v0 := i) hF hR hh (n := v0) hz (by omega) (fun j hj => ⟨(hX j hj).1, (hX j hj).2.1, by have := (hX j hj).2.2; omega⟩) (fun vr8 hr9 qr10 => ?_)
        have hr9 : -2147483648 ≤ vr8 ∧ vr8 < 2147483648 := hr9
        have a11 : -2147483648 ≤ (I 226 (Int.toNat (xI s (slI 1 i)))) ∧ (I 226 (Int.toNat (xI s (slI 1 i)))) < 2147483648 := hA.1 _ _
        refine c_cut11 (v0 := (I 226 (Int.toNat (xI s (slI 1 i))))) (v1 := vr8) (v2 := v1) hF hR (by omega) (by omega) (by omega) (fun vr12 hr13 qr14 => ?_)
        have hr13 : -2147483648 ≤ vr12 ∧ vr12 < 2147483648 := hr13
        have cq : vr12 = c1F (T (rsN (Int.toNat s) (Int.toNat i))) (X (Int.toNat i)) v1 := by rw [(qr14).1]; congr 1 <;> omega
        refine j_min (fun w15 h16 h17 h18 => ?_)
        have n19 : (wr (i + 1)) = i + 1 := wr_id (show -2147483648 ≤ (i + 1 : Int) ∧ (i + 1 : Int) < 2147483648 from by omega)
        exact ih w15 (wr (i + 1))  (show (0 : Int) ≤ (wr (i + 1)) from by first | omega | (simp only [wr, wl] at *; omega)) (show ((wr (i + 1)) : Int) ≤ 10 from by first | omega | (simp only [wr, wl] at *; omega)) (show (wr (i + 1)) ≤ v0 from by first | omega | (simp only [wr, wl] at *; omega)) (show w15 = bzF T X v1 (Int.toNat s) (Int.toNat (wr (i + 1))) from (by
                              have ks := bzF_s (T := T) (X := X) (l := v1) (s := Int.toNat s) (i := Int.toNat i)
                              rw [show Int.toNat (wr (i + 1)) = Int.toNat i + 1 from by omega]
                              by_cases le : bzF T X v1 (Int.toNat s) (Int.toNat i) ≤ c1F (T (rsN (Int.toNat s) (Int.toNat i))) (X (Int.toNat i)) v1
                              · rw [ks.2.1 (by omega) le]; omega
                              · rw [ks.2.2 (by omega) (by omega)]; omega)) (show (10 - (wr (i + 1))).toNat < mz from by omega)
theorem c_plt11_l1 (hF : FS F) (hR : Rg I) {v0 v1 : Int} {h : Nat} (hh : HP F h) (hn : 0 ≤ v0 ∧ v0 ≤ 10) (hl : 1 ≤ v1 ∧ v1 ≤ 999) (hz : v0 ≤ I h 1) {X : Nat → Int} (hX : ∀ j : Nat, (j : Int) < v0 → I (h + 1) j = X j ∧ 1 ≤ X j ∧ X j ≤ v1) (hQ : ∀ (r : Int) (I' : pI), Rg I' → (∀ k j, ¬ (k = 226) → I' k j = I k j) → (r = tbF X (Int.toNat v0) v1 (2 ^ (Int.toNat v0) - 1) (2 ^ (Int.toNat v0) - 1) / 1024) → Q (some (vi r)) F I') : ∀ (mz : Nat) (s : Int) (J : pI), Rg J → (∀ k j, ¬ (k = 226) → J k j = I k j) → ((1 : Int) ≤ s) → ((s : Int) ≤ 1024) → (s ≤ slI 1 v0) → (PLC J (tbF X (Int.toNat v0) v1 (Int.toNat s - 1)) (Int.toNat s)) → (1024 - s).toNat < mz → GoN G (d + 1) kX11_fewestPlates NP NP 10 [some (vr 0), some (vr h), some (vi v0), some (vi v1), some (vi s), none, none] [] F J Q := by
  intro mz
  induction mz with
  | zero => intro s J hJ hV _ _ _ _ h; exact absurd h (Nat.not_lt_zero _)
  | succ mz ih =>
    intro s J hJ hV cc100 cc101 cc102 cc103 hm
    refine GoN_in (fun hok hA => ?_)
    have iiv0 : -2147483648 ≤ v0 ∧ v0 < 2147483648 := hok 2 _ rfl
    have iiv1 : -2147483648 ≤ v1 ∧ v1 < 2147483648 := hok 3 _ rfl
    have iis : -2147483648 ≤ s ∧ s < 2147483648 := hok 4 _ rfl
    have hb3 := hh.2.2.1
    have hne : ¬ h = 226 := lay_ne hh.1 (show lay 226 = (100, 1024) from rfl) (by decide)
    have hne2 : ¬ h + 1 = 226 := lay_ne hh.2.1 (show lay 226 = (100, 1024) from rfl) (by decide)
    have e2 := sl_v (i := v0) (by omega)
    have p2 := p2_10 (n := (Int.toNat v0)) (by omega)
    obtain ⟨T, hTd⟩ : ∃ T, T = tbF X (Int.toNat v0) v1 (Int.toNat s - 1) := ⟨_, rfl⟩
    have hGa : Int.toNat s - 1 < 2 ^ (Int.toNat v0) → TG T v1 (Int.toNat s - 1) := fun q => by rw [hTd]; exact tb_g (X := X) (n := (Int.toNat v0)) (l := v1) (by omega) hl (fun j hj => (hX j (by omega)).2) (Int.toNat s - 1) q
    have hp : PLC J T (Int.toNat s) := by rw [hTd]; exact cc103
    refine Go_wp (by decide) ckX11_fewestPlates [10, 36] ?_
    have n1 : 1 ≤ (slI 1 v0) ∧ (slI 1 v0) ≤ 1024 := slI_10 (by omega)
    refine ⟨fun (c2 : (((slI 1 v0) : Int) ≤ s)) => ?_, fun (c2 : (¬ (((slI 1 v0) : Int) ≤ s))) => ?_⟩
    ·
      refine ⟨_, rfl, (by decide), ?_⟩
      refine fun w0 hw0 => ?_; obtain rfl : w0 = some 226 := hw0.symm.trans (FS.g hF rfl)
      have n3 : (wr ((slI 1 v0) - 1)) = (slI 1 v0) - 1 := wr_id (show -2147483648 ≤ ((slI 1 v0) - 1 : Int) ∧ ((slI 1 v0) - 1 : Int) < 2147483648 from by omega)
      refine ⟨_, rfl, (by decide), (show (0 : Int) ≤ (wr ((slI 1 v0) - 1)) from by first | omega | (simp only [wr, wl] at *; omega)), (show (wr ((slI 1 v0) - 1)) < (1024 : Int) from by first | omega | (simp only [wr, wl] at *; omega)), ?_⟩
      have hgl := hGa (by omega) (2 ^ (Int.toNat v0) - 1) (by omega)
      have hpc := (pc_n (n := (Int.toNat v0)) (s := 2 ^ (Int.toNat v0) - 1) (by omega) (by omega)).1
      have zl := hp (2 ^ (Int.toNat v0) - 1) (by omega)
      rw [hTd, show Int.toNat s - 1 = 2 ^ (Int.toNat v0) - 1 from by omega] at zl hgl
      have z4 : (J 226 (Int.toNat (wr ((slI 1 v0) - 1)))) = J 226 (2 ^ (Int.toNat v0) - 1) := congrArg (J 226) (by omega)
      refine ⟨(by decide), ?_⟩
      have a5 : -2147483648 ≤ (J 226 (Int.toNat (wr ((slI 1 v0) - 1)))) ∧ (J 226 (Int.toNat (wr ((slI 1 v0) - 1)))) < 2147483648 := hA.1 _ _
      have n6 : (Int.tdiv (J 226 (Int.toNat (wr ((slI 1 v0) - 1)))) 1024) = ((J 226 (Int.toNat (wr ((slI 1 v0) - 1)))) : Int) / 1024 := Int.tdiv_eq_ediv_of_nonneg (by omega)
      have n7 : (wr (Int.tdiv (J 226 (Int.toNat (wr ((slI 1 v0) - 1)))) 1024)) = (Int.tdiv (J 226 (Int.toNat (wr ((slI 1 v0) - 1)))) 1024) := wr_id (show -2147483648 ≤ ((Int.tdiv (J 226 (Int.toNat (wr ((slI 1 v0) - 1)))) 1024) : Int) ∧ ((Int.tdiv (J 226 (Int.toNat (wr ((slI 1 v0) - 1)))) 1024) : Int) < 2147483648 from by omega)
      exact ⟨rfl, hQ _ _ hJ (fun ka ja hk => (hV ka ja (by omega))) (by omega)⟩
    ·
      refine ⟨_, rfl, (by decide), ?_⟩
      refine fun w0 hw0 => ?_; obtain rfl : w0 = some 226 := hw0.symm.trans (FS.g hF rfl)
      refine ⟨_, _, (by decide), rfl, (by decide), ?_⟩
      refine ⟨fun c => absurd c (show (¬ ((1024 : Int) ≤ s)) from by first | omega | (simp only [wr, wl] at *; omega)), fun _ => ?_⟩
      refine c_plt11_l2 hF hJ hh (by omega) (by omega) (show v0 ≤ J h 1 from by rw [hV h 1 (by omega)]; exact hz) (fun j hj => ⟨(hV (h + 1) j (by omega)).trans (hX j hj).1, (hX j hj).2⟩) (by omega) (by omega) hp (hGa (by omega)) (fun y8 c9 => ?_) _ 2000000000 0  (show (0 : Int) ≤ (0 : Int) from by first | omega | (simp only [wr, wl] at *; omega)) (show ((0 : Int) : Int) ≤ 10 from by first | omega | (simp only [wr, wl] at *; omega)) (show (0 : Int) ≤ v0 from by first | omega | (simp only [wr, wl] at *; omega)) (show (2000000000 : Int) = bzF T X v1 (Int.toNat s) (Int.toNat (0 : Int)) from rfl) (Nat.lt_succ_self _)
      refine GoN_in (fun hok10 hA11 => ?_)
      have i12 : -2147483648 ≤ y8 ∧ y8 < 2147483648 := hok10 5 _ rfl
      refine Go_wp (by decide) ckX11_fewestPlates [10, 36] ?_
      refine ⟨_, rfl, (by decide), ?_⟩
      refine fun w0 hw0 => ?_; obtain rfl : w0 = some 226 := hw0.symm.trans (FS.g hF rfl)
      refine ⟨_, rfl, (by decide), (show (0 : Int) ≤ s from by first | omega | (simp only [wr, wl] at *; omega)), (show s < (1024 : Int) from by first | omega | (simp only [wr, wl] at *; omega)), ?_⟩
      refine GoN_lv (lv' := [some (vr 0), some (vr h), some (vi v0), some (vi v1), some (vi (wr (s + 1))), none, none]) (LvLe.k (LvLe.k (LvLe.k (LvLe.k (LvLe.k (LvLe.d (LvLe.k LvLe.n))))))) ?_
      have n13 : (wr (s + 1)) = s + 1 := wr_id (show -2147483648 ≤ (s + 1 : Int) ∧ (s + 1 : Int) < 2147483648 from by omega)
      exact ih (wr (s + 1)) (uI J 226 (Int.toNat s) y8) (Rg.u hJ (Pr_p (k := 226) rfl _ _)) (fun ka ja hk => ((uI_o (show ¬ (ka = 226 ∧ ja = (Int.toNat s)) from by omega))).trans ((hV ka ja (by omega)))) (show (1 : Int) ≤ (wr (s + 1)) from by first | omega | (simp only [wr, wl] at *; omega)) (show ((wr (s + 1)) : Int) ≤ 1024 from by first | omega | (simp only [wr, wl] at *; omega)) (show (wr (s + 1)) ≤ slI 1 v0 from by first | omega | (simp only [wr, wl] at *; omega)) (show PLC (uI J 226 (Int.toNat s) y8) (tbF X (Int.toNat v0) v1 (Int.toNat (wr (s + 1)) - 1)) (Int.toNat (wr (s + 1))) from (by
                              have z := PLC_s (X := X) (n := (Int.toNat v0)) (s := Int.toNat s) (l := v1) (J := (uI J 226 (Int.toNat s) y8)) (by omega) (by rw [← hTd]; exact hp) (fun q hq => uJ_ne (show ¬ q = (Int.toNat s) from by omega)) (uJ_eqj (show (Int.toNat s) = (Int.toNat s) from by omega)) (by rw [← hTd]; exact c9)
                              rw [show Int.toNat (wr (s + 1)) - 1 = Int.toNat s from by omega, show Int.toNat (wr (s + 1)) = Int.toNat s + 1 from by omega]
                              exact z)) (show (1024 - (wr (s + 1))).toNat < mz from by omega)
theorem c_fewest11 (hF : FS F) (hR : Rg I) {v0 v1 : Int} {h : Nat} (hh : HP F h) (hn : 0 ≤ v0 ∧ v0 ≤ 10) (hl : 1 ≤ v1 ∧ v1 ≤ 999) (hz : v0 ≤ I h 1) {X : Nat → Int} (hX : ∀ j : Nat, (j : Int) < v0 → I (h + 1) j = X j ∧ 1 ≤ X j ∧ X j ≤ v1) (hQ : ∀ (r : Int) (I' : pI), Rg I' → AR I' → iR r → (∀ k j, ¬ (k = 226) → I' k j = I k j) → (r = tbF X (Int.toNat v0) v1 (2 ^ (Int.toNat v0) - 1) (2 ^ (Int.toNat v0) - 1) / 1024) → Q (some (vi r)) F I') : CallN G (d + 1) kX11_fewestPlates [vr 0, vr h, vi v0, vi v1] NP F I Q := by
  refine CallN_in (fun hok hA => CallN_out ?_)
  have iv0 : -2147483648 ≤ v0 ∧ v0 < 2147483648 := hok (vi v0) (by simp)
  have iv1 : -2147483648 ≤ v1 ∧ v1 < 2147483648 := hok (vi v1) (by simp)
  have e2 := sl_v (i := v0) (by omega)
  have p2 := p2_10 (n := (Int.toNat v0)) (by omega)
  refine Call_wp (lv := [some (vr 0), some (vr h), some (vi v0), some (vi v1), none, none, none]) (by decide) ckX11_fewestPlates [10] rfl rfl ?_
  refine ⟨_, rfl, (by decide), ?_⟩
  refine fun w0 hw0 => ?_; obtain rfl : w0 = some 226 := hw0.symm.trans (FS.g hF rfl)
  refine ⟨_, rfl, (by decide), (by decide), (by decide), ?_⟩
  refine c_plt11_l1 hF hR hh (by omega) (by omega) hz hX (fun r I' g1 g2 g3 hv hA' => hQ _ _ g1 hA' (hv _ rfl) g2 g3) _ 1 (uI I 226 0 v1) (Rg.u hR (Pr_f rfl)) (fun ka ja hk => (uI_o (show ¬ (ka = 226 ∧ ja = 0) from by omega))) (show (1 : Int) ≤ (1 : Int) from by first | omega | (simp only [wr, wl] at *; omega)) (show ((1 : Int) : Int) ≤ 1024 from by first | omega | (simp only [wr, wl] at *; omega)) (show (1 : Int) ≤ slI 1 v0 from by first | omega | (simp only [wr, wl] at *; omega)) (show PLC (uI I 226 0 v1) (tbF X (Int.toNat v0) v1 (Int.toNat (1 : Int) - 1)) (Int.toNat (1 : Int)) from (fun q hq => (by
                              obtain rfl : q = 0 := by omega
                              exact uJ_eq))) (Nat.lt_succ_self _)
theorem c_plates11 (hF : FS F) (hR : Rg I) {v0 v1 v2 : Int}  (hQ : ∀ (r : Int) (I' : pI), Rg I' → AR I' → iR r → (∀ k j, ¬ (k = 203 ∨ k = 226) → I' k j = I k j) → ((¬ ((0 ≤ v0 ∧ v0 ≤ 3) ∧ (0 ≤ v1 ∧ v1 ≤ 10) ∧ (1 ≤ v2 ∧ v2 ≤ 999)) → r = -1000001) ∧ (((0 ≤ v0 ∧ v0 ≤ 3) ∧ (0 ≤ v1 ∧ v1 ≤ 10) ∧ (1 ≤ v2 ∧ v2 ≤ 999)) → (I (227 + 2 * Int.toNat v0) 0 = 0 → r = -1000002) ∧ (¬ I (227 + 2 * Int.toNat v0) 0 = 0 → (¬ GD (I ((227 + 2 * Int.toNat v0) + 1)) (I (227 + 2 * Int.toNat v0) 1) v1 1 999 → r = -1000001) ∧ (GD (I ((227 + 2 * Int.toNat v0) + 1)) (I (227 + 2 * Int.toNat v0) 1) v1 1 999 → (¬ GD (I ((227 + 2 * Int.toNat v0) + 1)) (I (227 + 2 * Int.toNat v0) 1) v1 1 v2 → r = -1000003) ∧ (GD (I ((227 + 2 * Int.toNat v0) + 1)) (I (227 + 2 * Int.toNat v0) 1) v1 1 v2 → r = tbF (shN (I ((227 + 2 * Int.toNat v0) + 1)) v1) (Int.toNat v1) v2 (2 ^ Int.toNat v1 - 1) (2 ^ Int.toNat v1 - 1) / 1024))))) → Q (some (vi r)) F I') : CallN G (d + 2) kX11_plates [vr 0, vi v0, vi v1, vi v2] NP F I Q := by
  refine CallN_in (fun hok hA => CallN_out ?_)
  have iv0 : -2147483648 ≤ v0 ∧ v0 < 2147483648 := hok (vi v0) (by simp)
  have iv1 : -2147483648 ≤ v1 ∧ v1 < 2147483648 := hok (vi v1) (by simp)
  have iv2 : -2147483648 ≤ v2 ∧ v2 < 2147483648 := hok (vi v2) (by simp)
  refine Call_wp (lv := [some (vr 0), some (vi v0), some (vi v1), some (vi v2), none]) (by decide) ckX11_plates [] rfl rfl ?_
  refine ⟨⟨_, rfl, (by decide)⟩, ?_⟩
  refine s_X11_sheetAt hF (fun (w1 : (0 ≤ v0 ∧ v0 ≤ 3)) => ?_) (fun (w1 : ¬ (0 ≤ v0 ∧ v0 ≤ 3)) => ?_)
  ·
    have hp2 : HP F (227 + 2 * Int.toNat v0) := HP_of hF w1
    refine s_X11_within (fun (w3 : ((0 : Int) ≤ v1 ∧ (v1 : Int) ≤ 10)) => ?_) (fun (w3 : ¬ ((0 : Int) ≤ v1 ∧ (v1 : Int) ≤ 10)) => ?_)
    ·
      refine ⟨fun c => absurd c (show (¬ ((1 : Int) = 0)) from by decide), fun _ => ?_⟩
      refine s_X11_within (fun (w4 : ((1 : Int) ≤ v2 ∧ (v2 : Int) ≤ 999)) => ?_) (fun (w4 : ¬ ((1 : Int) ≤ v2 ∧ (v2 : Int) ≤ 999)) => ?_)
      ·
        refine ⟨fun _ => ?_, fun c => absurd c (show (¬ (1 : Int) = 0) from by decide)⟩
        refine ⟨⟨_, hp2.1, (by have := hp2.2.2.1; show _ < 254; omega)⟩, ?_⟩
        refine Call_wp (lv := [some (vr (227 + 2 * Int.toNat v0))]) (by decide) ckX7_isMissing [] rfl rfl ?_
        refine ⟨_, hp2.1, (by have := hp2.2.2.1; show _ < 254; omega), ?_⟩
        have a5 : -2147483648 ≤ (I (227 + 2 * Int.toNat v0) 0) ∧ (I (227 + 2 * Int.toNat v0) 0) < 2147483648 := hA.1 _ _
        refine ⟨fun (c6 : (¬ ((I (227 + 2 * Int.toNat v0) 0) : Int) = 0)) => ?_, fun (c6 : (((I (227 + 2 * Int.toNat v0) 0) : Int) = 0)) => ?_⟩
        ·
          refine ⟨rfl, (by decide), ?_⟩
          refine ⟨fun _ => ?_, fun c => absurd (show ((0 : Int) = 0) from by decide) c⟩
          refine ⟨⟨_, hp2.1, (by have := hp2.2.2.1; show _ < 254; omega)⟩, ?_⟩
          refine c_begins4 (v0 := v1) (v1 := 1) (v2 := 999) hF hR hp2 (by omega) (fun vr7 hr8 q9 qr10 => ?_)
          have hr8 : -2147483648 ≤ vr7 ∧ vr7 < 2147483648 := hr8
          have q9 : 0 ≤ vr7 ∧ vr7 ≤ 1 := q9
          refine ⟨fun (c11 : (¬ (vr7 : Int) = 0)) => ?_, fun (c11 : ((vr7 : Int) = 0)) => ?_⟩
          ·
            refine ⟨⟨_, hp2.1, (by have := hp2.2.2.1; show _ < 254; omega)⟩, ?_⟩
            refine c_begins4 (v0 := v1) (v1 := 1) (v2 := v2) hF hR hp2 (by omega) (fun vr12 hr13 q14 qr15 => ?_)
            have hr13 : -2147483648 ≤ vr12 ∧ vr12 < 2147483648 := hr13
            have q14 : 0 ≤ vr12 ∧ vr12 ≤ 1 := q14
            refine ⟨fun (c16 : (¬ (vr12 : Int) = 0)) => ?_, fun (c16 : ((vr12 : Int) = 0)) => ?_⟩
            ·
              refine ⟨⟨_, rfl, (by decide)⟩, ?_⟩
              refine c_fewest11 (v0 := v1) (v1 := v2) hF hR hp2 (X := shN (I ((227 + 2 * Int.toNat v0) + 1)) v1) (by omega) (by omega) (qr15.1 (by omega)).1 (fun j hj => ⟨(shN_i hj).symm, by rw [shN_i hj]; exact (qr15.1 (by omega)).2 j hj⟩) (fun vr17 I18 hR19 hA20 hr22 hW21 qr23 => ?_)
              have hr22 : -2147483648 ≤ vr17 ∧ vr17 < 2147483648 := hr22
              exact ⟨rfl, fun hv hA' => hQ _ _ hR19 hA' (hv _ rfl) (fun ka ja hk => (hW21 ka ja (by omega))) (show (¬ ((0 ≤ v0 ∧ v0 ≤ 3) ∧ (0 ≤ v1 ∧ v1 ≤ 10) ∧ (1 ≤ v2 ∧ v2 ≤ 999)) → vr17 = -1000001) ∧ (((0 ≤ v0 ∧ v0 ≤ 3) ∧ (0 ≤ v1 ∧ v1 ≤ 10) ∧ (1 ≤ v2 ∧ v2 ≤ 999)) → (I (227 + 2 * Int.toNat v0) 0 = 0 → vr17 = -1000002) ∧ (¬ I (227 + 2 * Int.toNat v0) 0 = 0 → (¬ GD (I ((227 + 2 * Int.toNat v0) + 1)) (I (227 + 2 * Int.toNat v0) 1) v1 1 999 → vr17 = -1000001) ∧ (GD (I ((227 + 2 * Int.toNat v0) + 1)) (I (227 + 2 * Int.toNat v0) 1) v1 1 999 → (¬ GD (I ((227 + 2 * Int.toNat v0) + 1)) (I (227 + 2 * Int.toNat v0) 1) v1 1 v2 → vr17 = -1000003) ∧ (GD (I ((227 + 2 * Int.toNat v0) + 1)) (I (227 + 2 * Int.toNat v0) 1) v1 1 v2 → vr17 = tbF (shN (I ((227 + 2 * Int.toNat v0) + 1)) v1) (Int.toNat v1) v2 (2 ^ Int.toNat v1 - 1) (2 ^ Int.toNat v1 - 1) / 1024)))) from by
                              refine ⟨fun z => ?_, fun z => ⟨fun b => ?_, fun b => ⟨fun g => ?_, fun g => ⟨fun e => ?_, fun e => ?_⟩⟩⟩⟩
                              all_goals first | (exact qr23) | omega | (exfalso; omega) | (exact absurd ((qr10).2 g) (by omega)) | (exact absurd ((qr10).1 (by omega)) g) | (exact absurd ((qr15).2 e) (by omega)) | (exact absurd ((qr15).1 (by omega)) e))⟩
            ·
              refine ⟨⟨_, rfl, (by decide)⟩, ?_⟩
              refine s_X11_refuse hF (e := 3) (by decide) ?_
              exact ⟨rfl, fun hv hA' => hQ _ _ (Rg.u hR (Pr_f rfl)) hA' (hv _ rfl) (fun ka ja hk => (uI_o (show ¬ (ka = 203 ∧ ja = 3) from by omega))) (show (¬ ((0 ≤ v0 ∧ v0 ≤ 3) ∧ (0 ≤ v1 ∧ v1 ≤ 10) ∧ (1 ≤ v2 ∧ v2 ≤ 999)) → (-1000003) = -1000001) ∧ (((0 ≤ v0 ∧ v0 ≤ 3) ∧ (0 ≤ v1 ∧ v1 ≤ 10) ∧ (1 ≤ v2 ∧ v2 ≤ 999)) → (I (227 + 2 * Int.toNat v0) 0 = 0 → (-1000003) = -1000002) ∧ (¬ I (227 + 2 * Int.toNat v0) 0 = 0 → (¬ GD (I ((227 + 2 * Int.toNat v0) + 1)) (I (227 + 2 * Int.toNat v0) 1) v1 1 999 → (-1000003) = -1000001) ∧ (GD (I ((227 + 2 * Int.toNat v0) + 1)) (I (227 + 2 * Int.toNat v0) 1) v1 1 999 → (¬ GD (I ((227 + 2 * Int.toNat v0) + 1)) (I (227 + 2 * Int.toNat v0) 1) v1 1 v2 → (-1000003) = -1000003) ∧ (GD (I ((227 + 2 * Int.toNat v0) + 1)) (I (227 + 2 * Int.toNat v0) 1) v1 1 v2 → (-1000003) = tbF (shN (I ((227 + 2 * Int.toNat v0) + 1)) v1) (Int.toNat v1) v2 (2 ^ Int.toNat v1 - 1) (2 ^ Int.toNat v1 - 1) / 1024)))) from by
                              refine ⟨fun z => ?_, fun z => ⟨fun b => ?_, fun b => ⟨fun g => ?_, fun g => ⟨fun e => ?_, fun e => ?_⟩⟩⟩⟩
                              all_goals first | omega | (exfalso; omega) | (exact absurd ((qr10).2 g) (by omega)) | (exact absurd ((qr10).1 (by omega)) g) | (exact absurd ((qr15).2 e) (by omega)) | (exact absurd ((qr15).1 (by omega)) e))⟩
          ·
            refine ⟨⟨_, rfl, (by decide)⟩, ?_⟩
            refine s_X11_refuse hF (e := 1) (by decide) ?_
            exact ⟨rfl, fun hv hA' => hQ _ _ (Rg.u hR (Pr_f rfl)) hA' (hv _ rfl) (fun ka ja hk => (uI_o (show ¬ (ka = 203 ∧ ja = 1) from by omega))) (show (¬ ((0 ≤ v0 ∧ v0 ≤ 3) ∧ (0 ≤ v1 ∧ v1 ≤ 10) ∧ (1 ≤ v2 ∧ v2 ≤ 999)) → (-1000001) = -1000001) ∧ (((0 ≤ v0 ∧ v0 ≤ 3) ∧ (0 ≤ v1 ∧ v1 ≤ 10) ∧ (1 ≤ v2 ∧ v2 ≤ 999)) → (I (227 + 2 * Int.toNat v0) 0 = 0 → (-1000001) = -1000002) ∧ (¬ I (227 + 2 * Int.toNat v0) 0 = 0 → (¬ GD (I ((227 + 2 * Int.toNat v0) + 1)) (I (227 + 2 * Int.toNat v0) 1) v1 1 999 → (-1000001) = -1000001) ∧ (GD (I ((227 + 2 * Int.toNat v0) + 1)) (I (227 + 2 * Int.toNat v0) 1) v1 1 999 → (¬ GD (I ((227 + 2 * Int.toNat v0) + 1)) (I (227 + 2 * Int.toNat v0) 1) v1 1 v2 → (-1000001) = -1000003) ∧ (GD (I ((227 + 2 * Int.toNat v0) + 1)) (I (227 + 2 * Int.toNat v0) 1) v1 1 v2 → (-1000001) = tbF (shN (I ((227 + 2 * Int.toNat v0) + 1)) v1) (Int.toNat v1) v2 (2 ^ Int.toNat v1 - 1) (2 ^ Int.toNat v1 - 1) / 1024)))) from by
                              refine ⟨fun z => ?_, fun z => ⟨fun b => ?_, fun b => ⟨fun g => ?_, fun g => ⟨fun e => ?_, fun e => ?_⟩⟩⟩⟩
                              all_goals first | omega | (exfalso; omega) | (exact absurd ((qr10).2 g) (by omega)) | (exact absurd ((qr10).1 (by omega)) g))⟩
        ·
          refine ⟨rfl, (by decide), ?_⟩
          refine ⟨fun c => absurd c (show (¬ ((1 : Int) = 0)) from by decide), fun _ => ?_⟩
          refine ⟨⟨_, rfl, (by decide)⟩, ?_⟩
          refine s_X11_refuse hF (e := 2) (by decide) ?_
          exact ⟨rfl, fun hv hA' => hQ _ _ (Rg.u hR (Pr_f rfl)) hA' (hv _ rfl) (fun ka ja hk => (uI_o (show ¬ (ka = 203 ∧ ja = 2) from by omega))) (show (¬ ((0 ≤ v0 ∧ v0 ≤ 3) ∧ (0 ≤ v1 ∧ v1 ≤ 10) ∧ (1 ≤ v2 ∧ v2 ≤ 999)) → (-1000002) = -1000001) ∧ (((0 ≤ v0 ∧ v0 ≤ 3) ∧ (0 ≤ v1 ∧ v1 ≤ 10) ∧ (1 ≤ v2 ∧ v2 ≤ 999)) → (I (227 + 2 * Int.toNat v0) 0 = 0 → (-1000002) = -1000002) ∧ (¬ I (227 + 2 * Int.toNat v0) 0 = 0 → (¬ GD (I ((227 + 2 * Int.toNat v0) + 1)) (I (227 + 2 * Int.toNat v0) 1) v1 1 999 → (-1000002) = -1000001) ∧ (GD (I ((227 + 2 * Int.toNat v0) + 1)) (I (227 + 2 * Int.toNat v0) 1) v1 1 999 → (¬ GD (I ((227 + 2 * Int.toNat v0) + 1)) (I (227 + 2 * Int.toNat v0) 1) v1 1 v2 → (-1000002) = -1000003) ∧ (GD (I ((227 + 2 * Int.toNat v0) + 1)) (I (227 + 2 * Int.toNat v0) 1) v1 1 v2 → (-1000002) = tbF (shN (I ((227 + 2 * Int.toNat v0) + 1)) v1) (Int.toNat v1) v2 (2 ^ Int.toNat v1 - 1) (2 ^ Int.toNat v1 - 1) / 1024)))) from by
                              refine ⟨fun z => ?_, fun z => ⟨fun b => ?_, fun b => ⟨fun g => ?_, fun g => ⟨fun e => ?_, fun e => ?_⟩⟩⟩⟩
                              all_goals first | omega | (exfalso; omega))⟩
      ·
        refine ⟨fun c => absurd (show ((0 : Int) = 0) from by decide) c, fun _ => ?_⟩
        refine ⟨⟨_, rfl, (by decide)⟩, ?_⟩
        refine s_X11_refuse hF (e := 1) (by decide) ?_
        exact ⟨rfl, fun hv hA' => hQ _ _ (Rg.u hR (Pr_f rfl)) hA' (hv _ rfl) (fun ka ja hk => (uI_o (show ¬ (ka = 203 ∧ ja = 1) from by omega))) (show (¬ ((0 ≤ v0 ∧ v0 ≤ 3) ∧ (0 ≤ v1 ∧ v1 ≤ 10) ∧ (1 ≤ v2 ∧ v2 ≤ 999)) → (-1000001) = -1000001) ∧ (((0 ≤ v0 ∧ v0 ≤ 3) ∧ (0 ≤ v1 ∧ v1 ≤ 10) ∧ (1 ≤ v2 ∧ v2 ≤ 999)) → (I (227 + 2 * Int.toNat v0) 0 = 0 → (-1000001) = -1000002) ∧ (¬ I (227 + 2 * Int.toNat v0) 0 = 0 → (¬ GD (I ((227 + 2 * Int.toNat v0) + 1)) (I (227 + 2 * Int.toNat v0) 1) v1 1 999 → (-1000001) = -1000001) ∧ (GD (I ((227 + 2 * Int.toNat v0) + 1)) (I (227 + 2 * Int.toNat v0) 1) v1 1 999 → (¬ GD (I ((227 + 2 * Int.toNat v0) + 1)) (I (227 + 2 * Int.toNat v0) 1) v1 1 v2 → (-1000001) = -1000003) ∧ (GD (I ((227 + 2 * Int.toNat v0) + 1)) (I (227 + 2 * Int.toNat v0) 1) v1 1 v2 → (-1000001) = tbF (shN (I ((227 + 2 * Int.toNat v0) + 1)) v1) (Int.toNat v1) v2 (2 ^ Int.toNat v1 - 1) (2 ^ Int.toNat v1 - 1) / 1024)))) from by
                              refine ⟨fun z => ?_, fun z => ⟨fun b => ?_, fun b => ⟨fun g => ?_, fun g => ⟨fun e => ?_, fun e => ?_⟩⟩⟩⟩
                              all_goals first | omega | (exfalso; omega))⟩
    ·
      refine ⟨fun _ => ?_, fun c => absurd (show ((0 : Int) = 0) from by decide) c⟩
      refine ⟨⟨_, rfl, (by decide)⟩, ?_⟩
      refine s_X11_refuse hF (e := 1) (by decide) ?_
      exact ⟨rfl, fun hv hA' => hQ _ _ (Rg.u hR (Pr_f rfl)) hA' (hv _ rfl) (fun ka ja hk => (uI_o (show ¬ (ka = 203 ∧ ja = 1) from by omega))) (show (¬ ((0 ≤ v0 ∧ v0 ≤ 3) ∧ (0 ≤ v1 ∧ v1 ≤ 10) ∧ (1 ≤ v2 ∧ v2 ≤ 999)) → (-1000001) = -1000001) ∧ (((0 ≤ v0 ∧ v0 ≤ 3) ∧ (0 ≤ v1 ∧ v1 ≤ 10) ∧ (1 ≤ v2 ∧ v2 ≤ 999)) → (I (227 + 2 * Int.toNat v0) 0 = 0 → (-1000001) = -1000002) ∧ (¬ I (227 + 2 * Int.toNat v0) 0 = 0 → (¬ GD (I ((227 + 2 * Int.toNat v0) + 1)) (I (227 + 2 * Int.toNat v0) 1) v1 1 999 → (-1000001) = -1000001) ∧ (GD (I ((227 + 2 * Int.toNat v0) + 1)) (I (227 + 2 * Int.toNat v0) 1) v1 1 999 → (¬ GD (I ((227 + 2 * Int.toNat v0) + 1)) (I (227 + 2 * Int.toNat v0) 1) v1 1 v2 → (-1000001) = -1000003) ∧ (GD (I ((227 + 2 * Int.toNat v0) + 1)) (I (227 + 2 * Int.toNat v0) 1) v1 1 v2 → (-1000001) = tbF (shN (I ((227 + 2 * Int.toNat v0) + 1)) v1) (Int.toNat v1) v2 (2 ^ Int.toNat v1 - 1) (2 ^ Int.toNat v1 - 1) / 1024)))) from by
                              refine ⟨fun z => ?_, fun z => ⟨fun b => ?_, fun b => ⟨fun g => ?_, fun g => ⟨fun e => ?_, fun e => ?_⟩⟩⟩⟩
                              all_goals first | omega | (exfalso; omega))⟩
  ·
    refine ⟨⟨_, rfl, (by decide)⟩, ?_⟩
    refine s_X11_refuse hF (e := 1) (by decide) ?_
    exact ⟨rfl, fun hv hA' => hQ _ _ (Rg.u hR (Pr_f rfl)) hA' (hv _ rfl) (fun ka ja hk => (uI_o (show ¬ (ka = 203 ∧ ja = 1) from by omega))) (show (¬ ((0 ≤ v0 ∧ v0 ≤ 3) ∧ (0 ≤ v1 ∧ v1 ≤ 10) ∧ (1 ≤ v2 ∧ v2 ≤ 999)) → (-1000001) = -1000001) ∧ (((0 ≤ v0 ∧ v0 ≤ 3) ∧ (0 ≤ v1 ∧ v1 ≤ 10) ∧ (1 ≤ v2 ∧ v2 ≤ 999)) → (I (227 + 2 * Int.toNat v0) 0 = 0 → (-1000001) = -1000002) ∧ (¬ I (227 + 2 * Int.toNat v0) 0 = 0 → (¬ GD (I ((227 + 2 * Int.toNat v0) + 1)) (I (227 + 2 * Int.toNat v0) 1) v1 1 999 → (-1000001) = -1000001) ∧ (GD (I ((227 + 2 * Int.toNat v0) + 1)) (I (227 + 2 * Int.toNat v0) 1) v1 1 999 → (¬ GD (I ((227 + 2 * Int.toNat v0) + 1)) (I (227 + 2 * Int.toNat v0) 1) v1 1 v2 → (-1000001) = -1000003) ∧ (GD (I ((227 + 2 * Int.toNat v0) + 1)) (I (227 + 2 * Int.toNat v0) 1) v1 1 v2 → (-1000001) = tbF (shN (I ((227 + 2 * Int.toNat v0) + 1)) v1) (Int.toNat v1) v2 (2 ^ Int.toNat v1 - 1) (2 ^ Int.toNat v1 - 1) / 1024)))) from by
                              refine ⟨fun z => ?_, fun z => ⟨fun b => ?_, fun b => ⟨fun g => ?_, fun g => ⟨fun e => ?_, fun e => ?_⟩⟩⟩⟩
                              all_goals first | omega | (exfalso; omega))⟩
theorem r_plt11_l3 (hF : FS F) (hR : Rg I) {g lo s v0 v1 v2 : Int} (hs : 0 ≤ v0 ∧ v0 ≤ 3) (hn : 0 ≤ v1 ∧ v1 ≤ 10) (hl : 1 ≤ v2 ∧ v2 ≤ 999) {X : Nat → Int} (hX : ∀ j : Nat, (j : Int) < v1 → I 252 (24 * Int.toNat v0 + j) = X j ∧ 1 ≤ X j ∧ X j ≤ v2) {T : Nat → Int} (hq : 1 ≤ s ∧ s ≤ 1023) (hs2 : Int.toNat s < 2 ^ (Int.toNat v1)) (hG : TG T v2 (Int.toNat s - 1)) (hK : ∀ (J : pI), Rg J → (∀ k j, ¬ (k = 238 ∨ k = 247 ∨ k = 248) → J k j = I k j) → (PLM J T (Int.toNat s)) → (PLB J (Int.toNat s) v1 (bzF T X v2 (Int.toNat s) (Int.toNat v1))) → GoN G (d + 1) kX12_plates NP NP 358 [some (vr 235), some (vi v0), some (vi v1), some (vi v2), some (vi g), some (vi lo), some (vi s), none, none, none, none, none, none] [] F J Q) : ∀ (mz : Nat) (k : Int) (J : pI), Rg J → (∀ k j, ¬ (k = 238 ∨ k = 247 ∨ k = 248) → J k j = I k j) → ((0 : Int) ≤ k) → ((k : Int) ≤ 10) → (k ≤ v1) → (PLM J T (Int.toNat s)) → (PLB J (Int.toNat s) v1 (bzF T X v2 (Int.toNat s) (Int.toNat k))) → (10 - k).toNat < mz → GoN G (d + 1) kX12_plates NP NP 188 [some (vr 235), some (vi v0), some (vi v1), some (vi v2), some (vi g), some (vi lo), some (vi s), some (vi k), none, none, none, none, none] [] F J Q := by
  intro mz
  induction mz with
  | zero => intro k J hJ hV _ _ _ _ _ h; exact absurd h (Nat.not_lt_zero _)
  | succ mz ih =>
    intro k J hJ hV cc100 cc101 cc102 cc103 cc104 hm
    refine GoN_in (fun hok hA => ?_)
    have iiv0 : -2147483648 ≤ v0 ∧ v0 < 2147483648 := hok 1 _ rfl
    have iiv1 : -2147483648 ≤ v1 ∧ v1 < 2147483648 := hok 2 _ rfl
    have iiv2 : -2147483648 ≤ v2 ∧ v2 < 2147483648 := hok 3 _ rfl
    have iig : -2147483648 ≤ g ∧ g < 2147483648 := hok 4 _ rfl
    have iilo : -2147483648 ≤ lo ∧ lo < 2147483648 := hok 5 _ rfl
    have iis : -2147483648 ≤ s ∧ s < 2147483648 := hok 6 _ rfl
    have iik : -2147483648 ≤ k ∧ k < 2147483648 := hok 7 _ rfl
    have hbe := hb_v (s := s) (i := k) (by omega) (by omega)
    have hb1 := hb_01 (s := Int.toNat s) (i := Int.toNat k)
    have hpm := cc103
    have hpb := cc104
    unfold PLB at hpb
    refine Go_wp (by decide) ckX12_plates [188, 358] ?_
    refine ⟨fun (c1 : ((v1 : Int) ≤ k)) => ?_, fun (c1 : (¬ ((v1 : Int) ≤ k))) => ?_⟩
    ·
      refine GoN_lv (lv' := [some (vr 235), some (vi v0), some (vi v1), some (vi v2), some (vi g), some (vi lo), some (vi s), none, none, none, none, none, none]) (LvLe.k (LvLe.k (LvLe.k (LvLe.k (LvLe.k (LvLe.k (LvLe.k (LvLe.d (LvLe.k (LvLe.k (LvLe.k (LvLe.k (LvLe.k LvLe.n))))))))))))) ?_
      exact hK  J hJ (fun ka ja hk => (hV ka ja (by omega))) (show PLM J T (Int.toNat s) from hpm) (show PLB J (Int.toNat s) v1 (bzF T X v2 (Int.toNat s) (Int.toNat v1)) from (by
                              rw [show Int.toNat v1 = Int.toNat k from by omega]
                              exact cc104))
    ·
      refine Call_wp (lv := [some (vi s), some (vi k)]) (by decide) ckX12_has [] rfl rfl ?_
      have n2 : 0 ≤ (bI (srI s k) 1) ∧ (bI (srI s k) 1) ≤ 1 := bI_ri (by decide)
      refine ⟨fun (c3 : (¬ ((bI (srI s k) 1) : Int) = 1)) => ?_, fun (c3 : (((bI (srI s k) 1) : Int) = 1)) => ?_⟩
      ·
        refine ⟨rfl, (by decide), ?_⟩
        refine ⟨fun _ => ?_, fun c => absurd (show ((0 : Int) = 0) from by decide) c⟩
        have n4 : (wr (k + 1)) = k + 1 := wr_id (show -2147483648 ≤ (k + 1 : Int) ∧ (k + 1 : Int) < 2147483648 from by omega)
        exact ih (wr (k + 1)) J hJ (fun ka ja hk => (hV ka ja (by omega))) (show (0 : Int) ≤ (wr (k + 1)) from by first | omega | (simp only [wr, wl] at *; omega)) (show ((wr (k + 1)) : Int) ≤ 10 from by first | omega | (simp only [wr, wl] at *; omega)) (show (wr (k + 1)) ≤ v1 from by first | omega | (simp only [wr, wl] at *; omega)) (show PLM J T (Int.toNat s) from hpm) (show PLB J (Int.toNat s) v1 (bzF T X v2 (Int.toNat s) (Int.toNat (wr (k + 1)))) from (by
                              have ks := bzF_s (T := T) (X := X) (l := v2) (s := Int.toNat s) (i := Int.toNat k)
                              rw [show Int.toNat (wr (k + 1)) = Int.toNat k + 1 from by omega]
                              rw [ks.1 (by omega)]
                              exact cc104)) (show (10 - (wr (k + 1))).toNat < mz from by omega)
      ·
        refine ⟨rfl, (by decide), ?_⟩
        refine ⟨fun c => absurd c (show (¬ ((1 : Int) = 0)) from by decide), fun _ => ?_⟩
        refine ⟨_, rfl, (by decide), ?_⟩
        refine fun w0 hw0 => ?_; obtain rfl : w0 = some 252 := hw0.symm.trans (FS.g hF rfl)
        have n5 : (wr (24 * v0)) = 24 * v0 := wr_id (show -2147483648 ≤ (24 * v0 : Int) ∧ (24 * v0 : Int) < 2147483648 from by omega)
        have n6 : (wr ((wr (24 * v0)) + k)) = (wr (24 * v0)) + k := wr_id (show -2147483648 ≤ ((wr (24 * v0)) + k : Int) ∧ ((wr (24 * v0)) + k : Int) < 2147483648 from by omega)
        refine ⟨_, rfl, (by decide), (show (0 : Int) ≤ (wr ((wr (24 * v0)) + k)) from by first | omega | (simp only [wr, wl] at *; omega)), (show (wr ((wr (24 * v0)) + k)) < (96 : Int) from by first | omega | (simp only [wr, wl] at *; omega)), ?_⟩
        have hxk := hX (Int.toNat k) (by omega)
        have z7 : (I 252 (Int.toNat (wr ((wr (24 * v0)) + k)))) = X (Int.toNat k) := (congrArg (I 252) (by omega)).trans ((rfl).trans hxk.1)
        have u8 : (J 252 (Int.toNat (wr ((wr (24 * v0)) + k)))) = (I 252 (Int.toNat (wr ((wr (24 * v0)) + k)))) := hV _ _ (by first | omega | decide)
        have a9 : -2147483648 ≤ (J 252 (Int.toNat (wr ((wr (24 * v0)) + k)))) ∧ (J 252 (Int.toNat (wr ((wr (24 * v0)) + k)))) < 2147483648 := hA.1 _ _
        have hxk := hX (Int.toNat k) (by omega)
        have z10 : (J 252 (Int.toNat (wr ((wr (24 * v0)) + k)))) = X (Int.toNat k) := (congrArg (J 252) (by omega)).trans ((hV 252 (24 * Int.toNat v0 + Int.toNat k) (by omega)).trans hxk.1)
        refine ⟨_, rfl, (by decide), ?_⟩
        refine fun w0 hw0 => ?_; obtain rfl : w0 = some 248 := hw0.symm.trans (FS.g hF rfl)
        have n11 : 1 ≤ (slI 1 k) ∧ (slI 1 k) ≤ 512 := slI_9 (by omega)
        have n12 : 0 ≤ (bI s (xI (slI 1 k) (-1))) ∧ (bI s (xI (slI 1 k) (-1))) ≤ s := bI_le (by omega)
        refine ⟨_, rfl, (by decide), (show (0 : Int) ≤ (bI s (xI (slI 1 k) (-1))) from by first | omega | (simp only [wr, wl] at *; omega)), (show (bI s (xI (slI 1 k) (-1))) < (1024 : Int) from by first | omega | (simp only [wr, wl] at *; omega)), ?_⟩
        have hx := rs_m (s := s) (i := k) (by omega) (by omega) (by omega)
        have hr := rs_t (s := Int.toNat s) (i := Int.toNat k) (by omega) (by omega) (by omega)
        have hg := hG (rsN (Int.toNat s) (Int.toNat k)) (by omega)
        have hc := (pc_n (n := (Int.toNat v1)) (s := (Int.toNat s)) (by omega) (by omega)).1
        have ht := hpm (rsN (Int.toNat s) (Int.toNat k)) (by omega)
        have z13 : (J 248 (Int.toNat (bI s (xI (slI 1 k) (-1))))) = J 248 (rsN (Int.toNat s) (Int.toNat k)) := congrArg (J 248) (by omega)
        have a14 : -2147483648 ≤ (J 248 (Int.toNat (bI s (xI (slI 1 k) (-1))))) ∧ (J 248 (Int.toNat (bI s (xI (slI 1 k) (-1))))) < 2147483648 := hA.1 _ _
        have n15 : (wr ((J 248 (Int.toNat (bI s (xI (slI 1 k) (-1))))) + (J 252 (Int.toNat (wr ((wr (24 * v0)) + k)))))) = (J 248 (Int.toNat (bI s (xI (slI 1 k) (-1))))) + (J 252 (Int.toNat (wr ((wr (24 * v0)) + k)))) := wr_id (show -2147483648 ≤ ((J 248 (Int.toNat (bI s (xI (slI 1 k) (-1))))) + (J 252 (Int.toNat (wr ((wr (24 * v0)) + k)))) : Int) ∧ ((J 248 (Int.toNat (bI s (xI (slI 1 k) (-1))))) + (J 252 (Int.toNat (wr ((wr (24 * v0)) + k)))) : Int) < 2147483648 from by omega)
        refine ⟨fun (c16 : ((v2 : Int) < (wr ((J 248 (Int.toNat (bI s (xI (slI 1 k) (-1))))) + (J 252 (Int.toNat (wr ((wr (24 * v0)) + k)))))))) => ?_, fun (c16 : (¬ ((v2 : Int) < (wr ((J 248 (Int.toNat (bI s (xI (slI 1 k) (-1))))) + (J 252 (Int.toNat (wr ((wr (24 * v0)) + k))))))))) => ?_⟩
        ·
          refine ⟨fun _ => ?_, fun c => absurd (show ((0 : Int) = 0) from by decide) c⟩
          refine ⟨_, rfl, (by decide), ?_⟩
          refine fun w0 hw0 => ?_; obtain rfl : w0 = some 247 := hw0.symm.trans (FS.g hF rfl)
          refine ⟨_, rfl, (by decide), (show (0 : Int) ≤ (bI s (xI (slI 1 k) (-1))) from by first | omega | (simp only [wr, wl] at *; omega)), (show (bI s (xI (slI 1 k) (-1))) < (1024 : Int) from by first | omega | (simp only [wr, wl] at *; omega)), ?_⟩
          have z17 : (J 247 (Int.toNat (bI s (xI (slI 1 k) (-1))))) = J 247 (rsN (Int.toNat s) (Int.toNat k)) := congrArg (J 247) (by omega)
          refine ⟨fun _ => ?_, fun c => absurd (show ((0 : Int) = 0) from by decide) c⟩
          refine ⟨_, rfl, (by decide), ?_⟩
          refine fun w0 hw0 => ?_; obtain rfl : w0 = some 247 := hw0.symm.trans (FS.g hF rfl)
          refine ⟨_, rfl, (by decide), (show (0 : Int) ≤ s from by first | omega | (simp only [wr, wl] at *; omega)), (show s < (1024 : Int) from by first | omega | (simp only [wr, wl] at *; omega)), ?_⟩
          have a18 : -2147483648 ≤ (J 247 (Int.toNat (bI s (xI (slI 1 k) (-1))))) ∧ (J 247 (Int.toNat (bI s (xI (slI 1 k) (-1))))) < 2147483648 := hA.1 _ _
          have n19 : (wr ((J 247 (Int.toNat (bI s (xI (slI 1 k) (-1))))) + 1)) = (J 247 (Int.toNat (bI s (xI (slI 1 k) (-1))))) + 1 := wr_id (show -2147483648 ≤ ((J 247 (Int.toNat (bI s (xI (slI 1 k) (-1))))) + 1 : Int) ∧ ((J 247 (Int.toNat (bI s (xI (slI 1 k) (-1))))) + 1 : Int) < 2147483648 from by omega)
          have a20 : -2147483648 ≤ (J 247 (Int.toNat s)) ∧ (J 247 (Int.toNat s)) < 2147483648 := hA.1 _ _
          refine ⟨fun (c21 : (((wr ((J 247 (Int.toNat (bI s (xI (slI 1 k) (-1))))) + 1)) : Int) < (J 247 (Int.toNat s)))) => ?_, fun (c21 : (¬ (((wr ((J 247 (Int.toNat (bI s (xI (slI 1 k) (-1))))) + 1)) : Int) < (J 247 (Int.toNat s))))) => ?_⟩
          ·
            refine ⟨_, rfl, (by decide), ?_⟩
            refine fun w0 hw0 => ?_; obtain rfl : w0 = some 247 := hw0.symm.trans (FS.g hF rfl)
            refine ⟨_, rfl, (by decide), (show (0 : Int) ≤ s from by first | omega | (simp only [wr, wl] at *; omega)), (show s < (1024 : Int) from by first | omega | (simp only [wr, wl] at *; omega)), ?_⟩
            refine ⟨_, rfl, (by decide), ?_⟩
            refine fun w0 hw0 => ?_; obtain rfl : w0 = some 248 := hw0.symm.trans (FS.g hF rfl)
            refine ⟨_, rfl, (by decide), (show (0 : Int) ≤ s from by first | omega | (simp only [wr, wl] at *; omega)), (show s < (1024 : Int) from by first | omega | (simp only [wr, wl] at *; omega)), ?_⟩
            refine GoN_lv (lv' := [some (vr 235), some (vi v0), some (vi v1), some (vi v2), some (vi g), some (vi lo), some (vi s), some (vi (wr (k + 1))), none, none, none, none, none]) (LvLe.k (LvLe.k (LvLe.k (LvLe.k (LvLe.k (LvLe.k (LvLe.k (LvLe.k (LvLe.d (LvLe.d (LvLe.d (LvLe.d (LvLe.d LvLe.n))))))))))))) ?_
            have n22 : (wr (k + 1)) = k + 1 := wr_id (show -2147483648 ≤ (k + 1 : Int) ∧ (k + 1 : Int) < 2147483648 from by omega)
            exact ih (wr (k + 1)) (uI (uI J 247 (Int.toNat s) (wr ((J 247 (Int.toNat (bI s (xI (slI 1 k) (-1))))) + 1))) 248 (Int.toNat s) (J 252 (Int.toNat (wr ((wr (24 * v0)) + k))))) (Rg.u (Rg.u hJ (Pr_p (k := 247) rfl _ _)) (Pr_p (k := 248) rfl _ _)) (fun ka ja hk => ((uI_o (show ¬ (ka = 248 ∧ ja = (Int.toNat s)) from by omega))).trans (((uI_o (show ¬ (ka = 247 ∧ ja = (Int.toNat s)) from by omega))).trans ((hV ka ja (by omega))))) (show (0 : Int) ≤ (wr (k + 1)) from by first | omega | (simp only [wr, wl] at *; omega)) (show ((wr (k + 1)) : Int) ≤ 10 from by first | omega | (simp only [wr, wl] at *; omega)) (show (wr (k + 1)) ≤ v1 from by first | omega | (simp only [wr, wl] at *; omega)) (show PLM (uI (uI J 247 (Int.toNat s) (wr ((J 247 (Int.toNat (bI s (xI (slI 1 k) (-1))))) + 1))) 248 (Int.toNat s) (J 252 (Int.toNat (wr ((wr (24 * v0)) + k))))) T (Int.toNat s) from PLM_f hpm (fun q hq => ⟨(uI_o (show ¬ (247 = 248 ∧ q = (Int.toNat s)) from fun e => absurd e.1 (by decide))).trans (uJ_ne (show ¬ q = (Int.toNat s) from by omega)), (uJ_ne (show ¬ q = (Int.toNat s) from by omega)).trans (uI_o (show ¬ (248 = 247 ∧ q = (Int.toNat s)) from fun e => absurd e.1 (by decide)))⟩)) (show PLB (uI (uI J 247 (Int.toNat s) (wr ((J 247 (Int.toNat (bI s (xI (slI 1 k) (-1))))) + 1))) 248 (Int.toNat s) (J 252 (Int.toNat (wr ((wr (24 * v0)) + k))))) (Int.toNat s) v1 (bzF T X v2 (Int.toNat s) (Int.toNat (wr (k + 1)))) from (by
                              have ks := bzF_s (T := T) (X := X) (l := v2) (s := Int.toNat s) (i := Int.toNat k)
                              rw [show Int.toNat (wr (k + 1)) = Int.toNat k + 1 from by omega]
                              have cm := c1_m (p := X (Int.toNat k)) (l := v2) ht.1 ht.2.1
                              have g1 : (uI (uI J 247 (Int.toNat s) (wr ((J 247 (Int.toNat (bI s (xI (slI 1 k) (-1))))) + 1))) 248 (Int.toNat s) (J 252 (Int.toNat (wr ((wr (24 * v0)) + k))))) 247 (Int.toNat s) = (wr ((J 247 (Int.toNat (bI s (xI (slI 1 k) (-1))))) + 1)) := (uI_o (show ¬ (247 = 248 ∧ (Int.toNat s) = (Int.toNat s)) from fun e => absurd e.1 (by decide))).trans (uJ_eqj (show (Int.toNat s) = (Int.toNat s) from by omega))
                              have g2 : (uI (uI J 247 (Int.toNat s) (wr ((J 247 (Int.toNat (bI s (xI (slI 1 k) (-1))))) + 1))) 248 (Int.toNat s) (J 252 (Int.toNat (wr ((wr (24 * v0)) + k))))) 248 (Int.toNat s) = (J 252 (Int.toNat (wr ((wr (24 * v0)) + k)))) := uJ_eqj (show (Int.toNat s) = (Int.toNat s) from by omega)
                              rw [ks.2.2 (by omega) (by omega)]
                              refine Or.inr ?_
                              rw [g1, g2]
                              omega)) (show (10 - (wr (k + 1))).toNat < mz from by omega)
          ·
            refine ⟨_, rfl, (by decide), ?_⟩
            refine fun w0 hw0 => ?_; obtain rfl : w0 = some 247 := hw0.symm.trans (FS.g hF rfl)
            refine ⟨_, rfl, (by decide), (show (0 : Int) ≤ s from by first | omega | (simp only [wr, wl] at *; omega)), (show s < (1024 : Int) from by first | omega | (simp only [wr, wl] at *; omega)), ?_⟩
            refine ⟨fun (c23 : (¬ ((wr ((J 247 (Int.toNat (bI s (xI (slI 1 k) (-1))))) + 1)) : Int) = (J 247 (Int.toNat s)))) => ?_, fun (c23 : (((wr ((J 247 (Int.toNat (bI s (xI (slI 1 k) (-1))))) + 1)) : Int) = (J 247 (Int.toNat s)))) => ?_⟩
            ·
              refine GoN_lv (lv' := [some (vr 235), some (vi v0), some (vi v1), some (vi v2), some (vi g), some (vi lo), some (vi s), some (vi (wr (k + 1))), none, none, none, none, none]) (LvLe.k (LvLe.k (LvLe.k (LvLe.k (LvLe.k (LvLe.k (LvLe.k (LvLe.k (LvLe.d (LvLe.d (LvLe.d (LvLe.d (LvLe.d LvLe.n))))))))))))) ?_
              have n24 : (wr (k + 1)) = k + 1 := wr_id (show -2147483648 ≤ (k + 1 : Int) ∧ (k + 1 : Int) < 2147483648 from by omega)
              exact ih (wr (k + 1)) J hJ (fun ka ja hk => (hV ka ja (by omega))) (show (0 : Int) ≤ (wr (k + 1)) from by first | omega | (simp only [wr, wl] at *; omega)) (show ((wr (k + 1)) : Int) ≤ 10 from by first | omega | (simp only [wr, wl] at *; omega)) (show (wr (k + 1)) ≤ v1 from by first | omega | (simp only [wr, wl] at *; omega)) (show PLM J T (Int.toNat s) from hpm) (show PLB J (Int.toNat s) v1 (bzF T X v2 (Int.toNat s) (Int.toNat (wr (k + 1)))) from (by
                              have ks := bzF_s (T := T) (X := X) (l := v2) (s := Int.toNat s) (i := Int.toNat k)
                              rw [show Int.toNat (wr (k + 1)) = Int.toNat k + 1 from by omega]
                              have cm := c1_m (p := X (Int.toNat k)) (l := v2) ht.1 ht.2.1
                              rw [ks.2.1 (by omega) (by omega)]
                              exact cc104)) (show (10 - (wr (k + 1))).toNat < mz from by omega)
            ·
              refine ⟨_, rfl, (by decide), ?_⟩
              refine fun w0 hw0 => ?_; obtain rfl : w0 = some 248 := hw0.symm.trans (FS.g hF rfl)
              refine ⟨_, rfl, (by decide), (show (0 : Int) ≤ s from by first | omega | (simp only [wr, wl] at *; omega)), (show s < (1024 : Int) from by first | omega | (simp only [wr, wl] at *; omega)), ?_⟩
              have a25 : -2147483648 ≤ (J 248 (Int.toNat s)) ∧ (J 248 (Int.toNat s)) < 2147483648 := hA.1 _ _
              refine ⟨fun (c26 : (((J 248 (Int.toNat s)) : Int) ≤ (J 252 (Int.toNat (wr ((wr (24 * v0)) + k)))))) => ?_, fun (c26 : (¬ (((J 248 (Int.toNat s)) : Int) ≤ (J 252 (Int.toNat (wr ((wr (24 * v0)) + k))))))) => ?_⟩
              ·
                refine GoN_lv (lv' := [some (vr 235), some (vi v0), some (vi v1), some (vi v2), some (vi g), some (vi lo), some (vi s), some (vi (wr (k + 1))), none, none, none, none, none]) (LvLe.k (LvLe.k (LvLe.k (LvLe.k (LvLe.k (LvLe.k (LvLe.k (LvLe.k (LvLe.d (LvLe.d (LvLe.d (LvLe.d (LvLe.d LvLe.n))))))))))))) ?_
                have n27 : (wr (k + 1)) = k + 1 := wr_id (show -2147483648 ≤ (k + 1 : Int) ∧ (k + 1 : Int) < 2147483648 from by omega)
                exact ih (wr (k + 1)) J hJ (fun ka ja hk => (hV ka ja (by omega))) (show (0 : Int) ≤ (wr (k + 1)) from by first | omega | (simp only [wr, wl] at *; omega)) (show ((wr (k + 1)) : Int) ≤ 10 from by first | omega | (simp only [wr, wl] at *; omega)) (show (wr (k + 1)) ≤ v1 from by first | omega | (simp only [wr, wl] at *; omega)) (show PLM J T (Int.toNat s) from hpm) (show PLB J (Int.toNat s) v1 (bzF T X v2 (Int.toNat s) (Int.toNat (wr (k + 1)))) from (by
                              have ks := bzF_s (T := T) (X := X) (l := v2) (s := Int.toNat s) (i := Int.toNat k)
                              rw [show Int.toNat (wr (k + 1)) = Int.toNat k + 1 from by omega]
                              have cm := c1_m (p := X (Int.toNat k)) (l := v2) ht.1 ht.2.1
                              rw [ks.2.1 (by omega) (by omega)]
                              exact cc104)) (show (10 - (wr (k + 1))).toNat < mz from by omega)
              ·
                refine ⟨_, rfl, (by decide), ?_⟩
                refine fun w0 hw0 => ?_; obtain rfl : w0 = some 247 := hw0.symm.trans (FS.g hF rfl)
                refine ⟨_, rfl, (by decide), (show (0 : Int) ≤ s from by first | omega | (simp only [wr, wl] at *; omega)), (show s < (1024 : Int) from by first | omega | (simp only [wr, wl] at *; omega)), ?_⟩
                refine ⟨_, rfl, (by decide), ?_⟩
                refine fun w0 hw0 => ?_; obtain rfl : w0 = some 248 := hw0.symm.trans (FS.g hF rfl)
                refine ⟨_, rfl, (by decide), (show (0 : Int) ≤ s from by first | omega | (simp only [wr, wl] at *; omega)), (show s < (1024 : Int) from by first | omega | (simp only [wr, wl] at *; omega)), ?_⟩
                refine GoN_lv (lv' := [some (vr 235), some (vi v0), some (vi v1), some (vi v2), some (vi g), some (vi lo), some (vi s), some (vi (wr (k + 1))), none, none, none, none, none]) (LvLe.k (LvLe.k (LvLe.k (LvLe.k (LvLe.k (LvLe.k (LvLe.k (LvLe.k (LvLe.d (LvLe.d (LvLe.d (LvLe.d (LvLe.d LvLe.n))))))))))))) ?_
                have n28 : (wr (k + 1)) = k + 1 := wr_id (show -2147483648 ≤ (k + 1 : Int) ∧ (k + 1 : Int) < 2147483648 from by omega)
                exact ih (wr (k + 1)) (uI (uI J 247 (Int.toNat s) (wr ((J 247 (Int.toNat (bI s (xI (slI 1 k) (-1))))) + 1))) 248 (Int.toNat s) (J 252 (Int.toNat (wr ((wr (24 * v0)) + k))))) (Rg.u (Rg.u hJ (Pr_p (k := 247) rfl _ _)) (Pr_p (k := 248) rfl _ _)) (fun ka ja hk => ((uI_o (show ¬ (ka = 248 ∧ ja = (Int.toNat s)) from by omega))).trans (((uI_o (show ¬ (ka = 247 ∧ ja = (Int.toNat s)) from by omega))).trans ((hV ka ja (by omega))))) (show (0 : Int) ≤ (wr (k + 1)) from by first | omega | (simp only [wr, wl] at *; omega)) (show ((wr (k + 1)) : Int) ≤ 10 from by first | omega | (simp only [wr, wl] at *; omega)) (show (wr (k + 1)) ≤ v1 from by first | omega | (simp only [wr, wl] at *; omega)) (show PLM (uI (uI J 247 (Int.toNat s) (wr ((J 247 (Int.toNat (bI s (xI (slI 1 k) (-1))))) + 1))) 248 (Int.toNat s) (J 252 (Int.toNat (wr ((wr (24 * v0)) + k))))) T (Int.toNat s) from PLM_f hpm (fun q hq => ⟨(uI_o (show ¬ (247 = 248 ∧ q = (Int.toNat s)) from fun e => absurd e.1 (by decide))).trans (uJ_ne (show ¬ q = (Int.toNat s) from by omega)), (uJ_ne (show ¬ q = (Int.toNat s) from by omega)).trans (uI_o (show ¬ (248 = 247 ∧ q = (Int.toNat s)) from fun e => absurd e.1 (by decide)))⟩)) (show PLB (uI (uI J 247 (Int.toNat s) (wr ((J 247 (Int.toNat (bI s (xI (slI 1 k) (-1))))) + 1))) 248 (Int.toNat s) (J 252 (Int.toNat (wr ((wr (24 * v0)) + k))))) (Int.toNat s) v1 (bzF T X v2 (Int.toNat s) (Int.toNat (wr (k + 1)))) from (by
                              have ks := bzF_s (T := T) (X := X) (l := v2) (s := Int.toNat s) (i := Int.toNat k)
                              rw [show Int.toNat (wr (k + 1)) = Int.toNat k + 1 from by omega]
                              have cm := c1_m (p := X (Int.toNat k)) (l := v2) ht.1 ht.2.1
                              have g1 : (uI (uI J 247 (Int.toNat s) (wr ((J 247 (Int.toNat (bI s (xI (slI 1 k) (-1))))) + 1))) 248 (Int.toNat s) (J 252 (Int.toNat (wr ((wr (24 * v0)) + k))))) 247 (Int.toNat s) = (wr ((J 247 (Int.toNat (bI s (xI (slI 1 k) (-1))))) + 1)) := (uI_o (show ¬ (247 = 248 ∧ (Int.toNat s) = (Int.toNat s)) from fun e => absurd e.1 (by decide))).trans (uJ_eqj (show (Int.toNat s) = (Int.toNat s) from by omega))
                              have g2 : (uI (uI J 247 (Int.toNat s) (wr ((J 247 (Int.toNat (bI s (xI (slI 1 k) (-1))))) + 1))) 248 (Int.toNat s) (J 252 (Int.toNat (wr ((wr (24 * v0)) + k))))) 248 (Int.toNat s) = (J 252 (Int.toNat (wr ((wr (24 * v0)) + k)))) := uJ_eqj (show (Int.toNat s) = (Int.toNat s) from by omega)
                              rw [ks.2.2 (by omega) (by omega)]
                              refine Or.inr ?_
                              rw [g1, g2]
                              omega)) (show (10 - (wr (k + 1))).toNat < mz from by omega)
        ·
          refine ⟨fun c => absurd c (show (¬ ((1 : Int) = 0)) from by decide), fun _ => ?_⟩
          refine ⟨_, rfl, (by decide), ?_⟩
          refine fun w0 hw0 => ?_; obtain rfl : w0 = some 247 := hw0.symm.trans (FS.g hF rfl)
          refine ⟨_, rfl, (by decide), (show (0 : Int) ≤ (bI s (xI (slI 1 k) (-1))) from by first | omega | (simp only [wr, wl] at *; omega)), (show (bI s (xI (slI 1 k) (-1))) < (1024 : Int) from by first | omega | (simp only [wr, wl] at *; omega)), ?_⟩
          have z29 : (J 247 (Int.toNat (bI s (xI (slI 1 k) (-1))))) = J 247 (rsN (Int.toNat s) (Int.toNat k)) := congrArg (J 247) (by omega)
          refine ⟨fun c => absurd c (show (¬ ((1 : Int) = 0)) from by decide), fun _ => ?_⟩
          refine ⟨_, rfl, (by decide), ?_⟩
          refine fun w0 hw0 => ?_; obtain rfl : w0 = some 248 := hw0.symm.trans (FS.g hF rfl)
          refine ⟨_, rfl, (by decide), (show (0 : Int) ≤ (bI s (xI (slI 1 k) (-1))) from by first | omega | (simp only [wr, wl] at *; omega)), (show (bI s (xI (slI 1 k) (-1))) < (1024 : Int) from by first | omega | (simp only [wr, wl] at *; omega)), ?_⟩
          refine ⟨_, rfl, (by decide), ?_⟩
          refine fun w0 hw0 => ?_; obtain rfl : w0 = some 247 := hw0.symm.trans (FS.g hF rfl)
          refine ⟨_, rfl, (by decide), (show (0 : Int) ≤ s from by first | omega | (simp only [wr, wl] at *; omega)), (show s < (1024 : Int) from by first | omega | (simp only [wr, wl] at *; omega)), ?_⟩
          have a30 : -2147483648 ≤ (J 247 (Int.toNat (bI s (xI (slI 1 k) (-1))))) ∧ (J 247 (Int.toNat (bI s (xI (slI 1 k) (-1))))) < 2147483648 := hA.1 _ _
          have a31 : -2147483648 ≤ (J 247 (Int.toNat s)) ∧ (J 247 (Int.toNat s)) < 2147483648 := hA.1 _ _
          refine ⟨fun (c32 : (((J 247 (Int.toNat (bI s (xI (slI 1 k) (-1))))) : Int) < (J 247 (Int.toNat s)))) => ?_, fun (c32 : (¬ (((J 247 (Int.toNat (bI s (xI (slI 1 k) (-1))))) : Int) < (J 247 (Int.toNat s))))) => ?_⟩
          ·
            refine ⟨_, rfl, (by decide), ?_⟩
            refine fun w0 hw0 => ?_; obtain rfl : w0 = some 247 := hw0.symm.trans (FS.g hF rfl)
            refine ⟨_, rfl, (by decide), (show (0 : Int) ≤ s from by first | omega | (simp only [wr, wl] at *; omega)), (show s < (1024 : Int) from by first | omega | (simp only [wr, wl] at *; omega)), ?_⟩
            refine ⟨_, rfl, (by decide), ?_⟩
            refine fun w0 hw0 => ?_; obtain rfl : w0 = some 248 := hw0.symm.trans (FS.g hF rfl)
            refine ⟨_, rfl, (by decide), (show (0 : Int) ≤ s from by first | omega | (simp only [wr, wl] at *; omega)), (show s < (1024 : Int) from by first | omega | (simp only [wr, wl] at *; omega)), ?_⟩
            refine GoN_lv (lv' := [some (vr 235), some (vi v0), some (vi v1), some (vi v2), some (vi g), some (vi lo), some (vi s), some (vi (wr (k + 1))), none, none, none, none, none]) (LvLe.k (LvLe.k (LvLe.k (LvLe.k (LvLe.k (LvLe.k (LvLe.k (LvLe.k (LvLe.d (LvLe.d (LvLe.d (LvLe.d (LvLe.d LvLe.n))))))))))))) ?_
            have n33 : (wr (k + 1)) = k + 1 := wr_id (show -2147483648 ≤ (k + 1 : Int) ∧ (k + 1 : Int) < 2147483648 from by omega)
            exact ih (wr (k + 1)) (uI (uI J 247 (Int.toNat s) (J 247 (Int.toNat (bI s (xI (slI 1 k) (-1)))))) 248 (Int.toNat s) (wr ((J 248 (Int.toNat (bI s (xI (slI 1 k) (-1))))) + (J 252 (Int.toNat (wr ((wr (24 * v0)) + k))))))) (Rg.u (Rg.u hJ (Pr_p (k := 247) rfl _ _)) (Pr_p (k := 248) rfl _ _)) (fun ka ja hk => ((uI_o (show ¬ (ka = 248 ∧ ja = (Int.toNat s)) from by omega))).trans (((uI_o (show ¬ (ka = 247 ∧ ja = (Int.toNat s)) from by omega))).trans ((hV ka ja (by omega))))) (show (0 : Int) ≤ (wr (k + 1)) from by first | omega | (simp only [wr, wl] at *; omega)) (show ((wr (k + 1)) : Int) ≤ 10 from by first | omega | (simp only [wr, wl] at *; omega)) (show (wr (k + 1)) ≤ v1 from by first | omega | (simp only [wr, wl] at *; omega)) (show PLM (uI (uI J 247 (Int.toNat s) (J 247 (Int.toNat (bI s (xI (slI 1 k) (-1)))))) 248 (Int.toNat s) (wr ((J 248 (Int.toNat (bI s (xI (slI 1 k) (-1))))) + (J 252 (Int.toNat (wr ((wr (24 * v0)) + k))))))) T (Int.toNat s) from PLM_f hpm (fun q hq => ⟨(uI_o (show ¬ (247 = 248 ∧ q = (Int.toNat s)) from fun e => absurd e.1 (by decide))).trans (uJ_ne (show ¬ q = (Int.toNat s) from by omega)), (uJ_ne (show ¬ q = (Int.toNat s) from by omega)).trans (uI_o (show ¬ (248 = 247 ∧ q = (Int.toNat s)) from fun e => absurd e.1 (by decide)))⟩)) (show PLB (uI (uI J 247 (Int.toNat s) (J 247 (Int.toNat (bI s (xI (slI 1 k) (-1)))))) 248 (Int.toNat s) (wr ((J 248 (Int.toNat (bI s (xI (slI 1 k) (-1))))) + (J 252 (Int.toNat (wr ((wr (24 * v0)) + k))))))) (Int.toNat s) v1 (bzF T X v2 (Int.toNat s) (Int.toNat (wr (k + 1)))) from (by
                              have ks := bzF_s (T := T) (X := X) (l := v2) (s := Int.toNat s) (i := Int.toNat k)
                              rw [show Int.toNat (wr (k + 1)) = Int.toNat k + 1 from by omega]
                              have cm := c1_m (p := X (Int.toNat k)) (l := v2) ht.1 ht.2.1
                              have g1 : (uI (uI J 247 (Int.toNat s) (J 247 (Int.toNat (bI s (xI (slI 1 k) (-1)))))) 248 (Int.toNat s) (wr ((J 248 (Int.toNat (bI s (xI (slI 1 k) (-1))))) + (J 252 (Int.toNat (wr ((wr (24 * v0)) + k))))))) 247 (Int.toNat s) = (J 247 (Int.toNat (bI s (xI (slI 1 k) (-1))))) := (uI_o (show ¬ (247 = 248 ∧ (Int.toNat s) = (Int.toNat s)) from fun e => absurd e.1 (by decide))).trans (uJ_eqj (show (Int.toNat s) = (Int.toNat s) from by omega))
                              have g2 : (uI (uI J 247 (Int.toNat s) (J 247 (Int.toNat (bI s (xI (slI 1 k) (-1)))))) 248 (Int.toNat s) (wr ((J 248 (Int.toNat (bI s (xI (slI 1 k) (-1))))) + (J 252 (Int.toNat (wr ((wr (24 * v0)) + k))))))) 248 (Int.toNat s) = (wr ((J 248 (Int.toNat (bI s (xI (slI 1 k) (-1))))) + (J 252 (Int.toNat (wr ((wr (24 * v0)) + k)))))) := uJ_eqj (show (Int.toNat s) = (Int.toNat s) from by omega)
                              rw [ks.2.2 (by omega) (by omega)]
                              refine Or.inr ?_
                              rw [g1, g2]
                              omega)) (show (10 - (wr (k + 1))).toNat < mz from by omega)
          ·
            refine ⟨_, rfl, (by decide), ?_⟩
            refine fun w0 hw0 => ?_; obtain rfl : w0 = some 247 := hw0.symm.trans (FS.g hF rfl)
            refine ⟨_, rfl, (by decide), (show (0 : Int) ≤ s from by first | omega | (simp only [wr, wl] at *; omega)), (show s < (1024 : Int) from by first | omega | (simp only [wr, wl] at *; omega)), ?_⟩
            refine ⟨fun (c34 : (¬ ((J 247 (Int.toNat (bI s (xI (slI 1 k) (-1))))) : Int) = (J 247 (Int.toNat s)))) => ?_, fun (c34 : (((J 247 (Int.toNat (bI s (xI (slI 1 k) (-1))))) : Int) = (J 247 (Int.toNat s)))) => ?_⟩
            ·
              refine GoN_lv (lv' := [some (vr 235), some (vi v0), some (vi v1), some (vi v2), some (vi g), some (vi lo), some (vi s), some (vi (wr (k + 1))), none, none, none, none, none]) (LvLe.k (LvLe.k (LvLe.k (LvLe.k (LvLe.k (LvLe.k (LvLe.k (LvLe.k (LvLe.d (LvLe.d (LvLe.d (LvLe.d (LvLe.d LvLe.n))))))))))))) ?_
              have n35 : (wr (k + 1)) = k + 1 := wr_id (show -2147483648 ≤ (k + 1 : Int) ∧ (k + 1 : Int) < 2147483648 from by omega)
              exact ih (wr (k + 1)) J hJ (fun ka ja hk => (hV ka ja (by omega))) (show (0 : Int) ≤ (wr (k + 1)) from by first | omega | (simp only [wr, wl] at *; omega)) (show ((wr (k + 1)) : Int) ≤ 10 from by first | omega | (simp only [wr, wl] at *; omega)) (show (wr (k + 1)) ≤ v1 from by first | omega | (simp only [wr, wl] at *; omega)) (show PLM J T (Int.toNat s) from hpm) (show PLB J (Int.toNat s) v1 (bzF T X v2 (Int.toNat s) (Int.toNat (wr (k + 1)))) from (by
                              have ks := bzF_s (T := T) (X := X) (l := v2) (s := Int.toNat s) (i := Int.toNat k)
                              rw [show Int.toNat (wr (k + 1)) = Int.toNat k + 1 from by omega]
                              have cm := c1_m (p := X (Int.toNat k)) (l := v2) ht.1 ht.2.1
                              rw [ks.2.1 (by omega) (by omega)]
                              exact cc104)) (show (10 - (wr (k + 1))).toNat < mz from by omega)
            ·
              refine ⟨_, rfl, (by decide), ?_⟩
              refine fun w0 hw0 => ?_; obtain rfl : w0 = some 248 := hw0.symm.trans (FS.g hF rfl)
              refine ⟨_, rfl, (by decide), (show (0 : Int) ≤ s from by first | omega | (simp only [wr, wl] at *; omega)), (show s < (1024 : Int) from by first | omega | (simp only [wr, wl] at *; omega)), ?_⟩
              have a36 : -2147483648 ≤ (J 248 (Int.toNat s)) ∧ (J 248 (Int.toNat s)) < 2147483648 := hA.1 _ _
              refine ⟨fun (c37 : (((J 248 (Int.toNat s)) : Int) ≤ (wr ((J 248 (Int.toNat (bI s (xI (slI 1 k) (-1))))) + (J 252 (Int.toNat (wr ((wr (24 * v0)) + k)))))))) => ?_, fun (c37 : (¬ (((J 248 (Int.toNat s)) : Int) ≤ (wr ((J 248 (Int.toNat (bI s (xI (slI 1 k) (-1))))) + (J 252 (Int.toNat (wr ((wr (24 * v0)) + k))))))))) => ?_⟩
              ·
                refine GoN_lv (lv' := [some (vr 235), some (vi v0), some (vi v1), some (vi v2), some (vi g), some (vi lo), some (vi s), some (vi (wr (k + 1))), none, none, none, none, none]) (LvLe.k (LvLe.k (LvLe.k (LvLe.k (LvLe.k (LvLe.k (LvLe.k (LvLe.k (LvLe.d (LvLe.d (LvLe.d (LvLe.d (LvLe.d LvLe.n))))))))))))) ?_
                have n38 : (wr (k + 1)) = k + 1 := wr_id (show -2147483648 ≤ (k + 1 : Int) ∧ (k + 1 : Int) < 2147483648 from by omega)
                exact ih (wr (k + 1)) J hJ (fun ka ja hk => (hV ka ja (by omega))) (show (0 : Int) ≤ (wr (k + 1)) from by first | omega | (simp only [wr, wl] at *; omega)) (show ((wr (k + 1)) : Int) ≤ 10 from by first | omega | (simp only [wr, wl] at *; omega)) (show (wr (k + 1)) ≤ v1 from by first | omega | (simp only [wr, wl] at *; omega)) (show PLM J T (Int.toNat s) from hpm) (show PLB J (Int.toNat s) v1 (bzF T X v2 (Int.toNat s) (Int.toNat (wr (k + 1)))) from (by
                              have ks := bzF_s (T := T) (X := X) (l := v2) (s := Int.toNat s) (i := Int.toNat k)
                              rw [show Int.toNat (wr (k + 1)) = Int.toNat k + 1 from by omega]
                              have cm := c1_m (p := X (Int.toNat k)) (l := v2) ht.1 ht.2.1
                              rw [ks.2.1 (by omega) (by omega)]
                              exact cc104)) (show (10 - (wr (k + 1))).toNat < mz from by omega)
              ·
                refine ⟨_, rfl, (by decide), ?_⟩
                refine fun w0 hw0 => ?_; obtain rfl : w0 = some 247 := hw0.symm.trans (FS.g hF rfl)
                refine ⟨_, rfl, (by decide), (show (0 : Int) ≤ s from by first | omega | (simp only [wr, wl] at *; omega)), (show s < (1024 : Int) from by first | omega | (simp only [wr, wl] at *; omega)), ?_⟩
                refine ⟨_, rfl, (by decide), ?_⟩
                refine fun w0 hw0 => ?_; obtain rfl : w0 = some 248 := hw0.symm.trans (FS.g hF rfl)
                refine ⟨_, rfl, (by decide), (show (0 : Int) ≤ s from by first | omega | (simp only [wr, wl] at *; omega)), (show s < (1024 : Int) from by first | omega | (simp only [wr, wl] at *; omega)), ?_⟩
                refine GoN_lv (lv' := [some (vr 235), some (vi v0), some (vi v1), some (vi v2), some (vi g), some (vi lo), some (vi s), some (vi (wr (k + 1))), none, none, none, none, none]) (LvLe.k (LvLe.k (LvLe.k (LvLe.k (LvLe.k (LvLe.k (LvLe.k (LvLe.k (LvLe.d (LvLe.d (LvLe.d (LvLe.d (LvLe.d LvLe.n))))))))))))) ?_
                have n39 : (wr (k + 1)) = k + 1 := wr_id (show -2147483648 ≤ (k + 1 : Int) ∧ (k + 1 : Int) < 2147483648 from by omega)
                exact ih (wr (k + 1)) (uI (uI J 247 (Int.toNat s) (J 247 (Int.toNat (bI s (xI (slI 1 k) (-1)))))) 248 (Int.toNat s) (wr ((J 248 (Int.toNat (bI s (xI (slI 1 k) (-1))))) + (J 252 (Int.toNat (wr ((wr (24 * v0)) + k))))))) (Rg.u (Rg.u hJ (Pr_p (k := 247) rfl _ _)) (Pr_p (k := 248) rfl _ _)) (fun ka ja hk => ((uI_o (show ¬ (ka = 248 ∧ ja = (Int.toNat s)) from by omega))).trans (((uI_o (show ¬ (ka = 247 ∧ ja = (Int.toNat s)) from by omega))).trans ((hV ka ja (by omega))))) (show (0 : Int) ≤ (wr (k + 1)) from by first | omega | (simp only [wr, wl] at *; omega)) (show ((wr (k + 1)) : Int) ≤ 10 from by first | omega | (simp only [wr, wl] at *; omega)) (show (wr (k + 1)) ≤ v1 from by first | omega | (simp only [wr, wl] at *; omega)) (show PLM (uI (uI J 247 (Int.toNat s) (J 247 (Int.toNat (bI s (xI (slI 1 k) (-1)))))) 248 (Int.toNat s) (wr ((J 248 (Int.toNat (bI s (xI (slI 1 k) (-1))))) + (J 252 (Int.toNat (wr ((wr (24 * v0)) + k))))))) T (Int.toNat s) from PLM_f hpm (fun q hq => ⟨(uI_o (show ¬ (247 = 248 ∧ q = (Int.toNat s)) from fun e => absurd e.1 (by decide))).trans (uJ_ne (show ¬ q = (Int.toNat s) from by omega)), (uJ_ne (show ¬ q = (Int.toNat s) from by omega)).trans (uI_o (show ¬ (248 = 247 ∧ q = (Int.toNat s)) from fun e => absurd e.1 (by decide)))⟩)) (show PLB (uI (uI J 247 (Int.toNat s) (J 247 (Int.toNat (bI s (xI (slI 1 k) (-1)))))) 248 (Int.toNat s) (wr ((J 248 (Int.toNat (bI s (xI (slI 1 k) (-1))))) + (J 252 (Int.toNat (wr ((wr (24 * v0)) + k))))))) (Int.toNat s) v1 (bzF T X v2 (Int.toNat s) (Int.toNat (wr (k + 1)))) from (by
                              have ks := bzF_s (T := T) (X := X) (l := v2) (s := Int.toNat s) (i := Int.toNat k)
                              rw [show Int.toNat (wr (k + 1)) = Int.toNat k + 1 from by omega]
                              have cm := c1_m (p := X (Int.toNat k)) (l := v2) ht.1 ht.2.1
                              have g1 : (uI (uI J 247 (Int.toNat s) (J 247 (Int.toNat (bI s (xI (slI 1 k) (-1)))))) 248 (Int.toNat s) (wr ((J 248 (Int.toNat (bI s (xI (slI 1 k) (-1))))) + (J 252 (Int.toNat (wr ((wr (24 * v0)) + k))))))) 247 (Int.toNat s) = (J 247 (Int.toNat (bI s (xI (slI 1 k) (-1))))) := (uI_o (show ¬ (247 = 248 ∧ (Int.toNat s) = (Int.toNat s)) from fun e => absurd e.1 (by decide))).trans (uJ_eqj (show (Int.toNat s) = (Int.toNat s) from by omega))
                              have g2 : (uI (uI J 247 (Int.toNat s) (J 247 (Int.toNat (bI s (xI (slI 1 k) (-1)))))) 248 (Int.toNat s) (wr ((J 248 (Int.toNat (bI s (xI (slI 1 k) (-1))))) + (J 252 (Int.toNat (wr ((wr (24 * v0)) + k))))))) 248 (Int.toNat s) = (wr ((J 248 (Int.toNat (bI s (xI (slI 1 k) (-1))))) + (J 252 (Int.toNat (wr ((wr (24 * v0)) + k)))))) := uJ_eqj (show (Int.toNat s) = (Int.toNat s) from by omega)
                              rw [ks.2.2 (by omega) (by omega)]
                              refine Or.inr ?_
                              rw [g1, g2]
                              omega)) (show (10 - (wr (k + 1))).toNat < mz from by omega)
theorem r_plt11_l2 (hF : FS F) (hR : Rg I) {v0 v1 v2 : Int} (hs : 0 ≤ v0 ∧ v0 ≤ 3) (hn : 0 ≤ v1 ∧ v1 ≤ 10) (hl : 1 ≤ v2 ∧ v2 ≤ 999) {X : Nat → Int} (hX : ∀ j : Nat, (j : Int) < v1 → I 252 (24 * Int.toNat v0 + j) = X j ∧ 1 ≤ X j ∧ X j ≤ v2) (hQ : ∀ (r : Int) (I' : pI), Rg I' → (∀ k j, ¬ (k = 238 ∨ k = 247 ∨ k = 248) → I' k j = I k j) → (r = tbF X (Int.toNat v1) v2 (2 ^ (Int.toNat v1) - 1) (2 ^ (Int.toNat v1) - 1) / 1024) → Q (some (vi r)) F I') : ∀ (mz : Nat) (g lo s : Int) (J : pI), Rg J → (∀ k j, ¬ (k = 238 ∨ k = 247 ∨ k = 248) → J k j = I k j) → ((1 : Int) ≤ s) → ((s : Int) ≤ 1024) → (s ≤ slI 1 v1) → (PLM J (tbF X (Int.toNat v1) v2 (Int.toNat s - 1)) (Int.toNat s)) → (1024 - s).toNat < mz → GoN G (d + 1) kX12_plates NP NP 167 [some (vr 235), some (vi v0), some (vi v1), some (vi v2), some (vi g), some (vi lo), some (vi s), none, none, none, none, none, none] [] F J Q := by
  intro mz
  induction mz with
  | zero => intro g lo s J hJ hV _ _ _ _ h; exact absurd h (Nat.not_lt_zero _)
  | succ mz ih =>
    intro g lo s J hJ hV cc100 cc101 cc102 cc103 hm
    refine GoN_in (fun hok hA => ?_)
    have iiv0 : -2147483648 ≤ v0 ∧ v0 < 2147483648 := hok 1 _ rfl
    have iiv1 : -2147483648 ≤ v1 ∧ v1 < 2147483648 := hok 2 _ rfl
    have iiv2 : -2147483648 ≤ v2 ∧ v2 < 2147483648 := hok 3 _ rfl
    have iig : -2147483648 ≤ g ∧ g < 2147483648 := hok 4 _ rfl
    have iilo : -2147483648 ≤ lo ∧ lo < 2147483648 := hok 5 _ rfl
    have iis : -2147483648 ≤ s ∧ s < 2147483648 := hok 6 _ rfl
    have e2 := sl_v (i := v1) (by omega)
    have p2 := p2_10 (n := (Int.toNat v1)) (by omega)
    have hXa : ∀ j, j < (Int.toNat v1) → 1 ≤ X j ∧ X j ≤ v2 := fun j hj => (hX j (by omega)).2
    obtain ⟨T, hTd⟩ : ∃ T, T = tbF X (Int.toNat v1) v2 (Int.toNat s - 1) := ⟨_, rfl⟩
    have hGa : Int.toNat s - 1 < 2 ^ (Int.toNat v1) → TG T v2 (Int.toNat s - 1) := fun q => by rw [hTd]; exact tb_g (X := X) (n := (Int.toNat v1)) (l := v2) (by omega) hl hXa (Int.toNat s - 1) q
    have hpm : PLM J T (Int.toNat s) := by rw [hTd]; exact cc103
    refine Go_wp (by decide) ckX12_plates [167, 188] ?_
    have n1 : 1 ≤ (slI 1 v1) ∧ (slI 1 v1) ≤ 1024 := slI_10 (by omega)
    refine ⟨fun (c2 : (((slI 1 v1) : Int) ≤ s)) => ?_, fun (c2 : (¬ (((slI 1 v1) : Int) ≤ s))) => ?_⟩
    ·
      refine ⟨_, rfl, (by decide), ?_⟩
      refine fun w0 hw0 => ?_; obtain rfl : w0 = some 247 := hw0.symm.trans (FS.g hF rfl)
      have n3 : (wr ((slI 1 v1) - 1)) = (slI 1 v1) - 1 := wr_id (show -2147483648 ≤ ((slI 1 v1) - 1 : Int) ∧ ((slI 1 v1) - 1 : Int) < 2147483648 from by omega)
      refine ⟨_, rfl, (by decide), (show (0 : Int) ≤ (wr ((slI 1 v1) - 1)) from by first | omega | (simp only [wr, wl] at *; omega)), (show (wr ((slI 1 v1) - 1)) < (1024 : Int) from by first | omega | (simp only [wr, wl] at *; omega)), ?_⟩
      have zl := hpm (2 ^ (Int.toNat v1) - 1) (by omega)
      rw [hTd, show Int.toNat s - 1 = 2 ^ (Int.toNat v1) - 1 from by omega] at zl
      have z4 : (J 247 (Int.toNat (wr ((slI 1 v1) - 1)))) = J 247 (2 ^ (Int.toNat v1) - 1) := congrArg (J 247) (by omega)
      have a5 : -2147483648 ≤ (J 247 (Int.toNat (wr ((slI 1 v1) - 1)))) ∧ (J 247 (Int.toNat (wr ((slI 1 v1) - 1)))) < 2147483648 := hA.1 _ _
      exact ⟨rfl, hQ _ _ hJ (fun ka ja hk => (hV ka ja (by omega))) (by omega)⟩
    ·
      refine ⟨_, rfl, (by decide), ?_⟩
      refine fun w0 hw0 => ?_; obtain rfl : w0 = some 247 := hw0.symm.trans (FS.g hF rfl)
      refine ⟨_, rfl, (by decide), (show (0 : Int) ≤ s from by first | omega | (simp only [wr, wl] at *; omega)), (show s < (1024 : Int) from by first | omega | (simp only [wr, wl] at *; omega)), ?_⟩
      refine r_plt11_l3 hF (Rg.u hJ (Pr_p (k := 247) rfl _ _)) (by omega) (by omega) (by omega) (fun j hj => ⟨((uI_o (show ¬ (252 = 247 ∧ (24 * Int.toNat v0 + j) = (Int.toNat s)) from fun e => absurd e.1 (by decide))).trans (hV 252 (24 * Int.toNat v0 + j) (by omega))).trans (hX j hj).1, (hX j hj).2⟩) (by omega) (by omega) (hGa (by omega)) (fun J6 hR7 hV9 c10 c11 => ?_) _ 0 (uI J 247 (Int.toNat s) (wr (v1 + 1))) (Rg.u hJ (Pr_p (k := 247) rfl _ _)) (fun _ _ _ => rfl) (show (0 : Int) ≤ (0 : Int) from by first | omega | (simp only [wr, wl] at *; omega)) (show ((0 : Int) : Int) ≤ 10 from by first | omega | (simp only [wr, wl] at *; omega)) (show (0 : Int) ≤ v1 from by first | omega | (simp only [wr, wl] at *; omega)) (show PLM (uI J 247 (Int.toNat s) (wr (v1 + 1))) T (Int.toNat s) from PLM_f hpm (fun q hq => ⟨uJ_ne (show ¬ q = (Int.toNat s) from by omega), uI_o (show ¬ (248 = 247 ∧ q = (Int.toNat s)) from fun e => absurd e.1 (by decide))⟩)) (show PLB (uI J 247 (Int.toNat s) (wr (v1 + 1))) (Int.toNat s) v1 (bzF T X v2 (Int.toNat s) (Int.toNat (0 : Int))) from Or.inl ⟨rfl, (uJ_eqj (show (Int.toNat s) = (Int.toNat s) from by omega)).trans (wr_id (by unfold iR; omega))⟩) (Nat.lt_succ_self _)
      refine GoN_in (fun hok12 hA8 => ?_)
      refine Go_wp (by decide) ckX12_plates [167, 188] ?_
      have n13 : (wr (s + 1)) = s + 1 := wr_id (show -2147483648 ≤ (s + 1 : Int) ∧ (s + 1 : Int) < 2147483648 from by omega)
      exact ih g lo (wr (s + 1)) J6 hR7 (fun ka ja hk => ((hV9 ka ja (by omega))).trans (((uI_o (show ¬ (ka = 247 ∧ ja = (Int.toNat s)) from by omega))).trans ((hV ka ja (by omega))))) (show (1 : Int) ≤ (wr (s + 1)) from by first | omega | (simp only [wr, wl] at *; omega)) (show ((wr (s + 1)) : Int) ≤ 1024 from by first | omega | (simp only [wr, wl] at *; omega)) (show (wr (s + 1)) ≤ slI 1 v1 from by first | omega | (simp only [wr, wl] at *; omega)) (show PLM J6 (tbF X (Int.toNat v1) v2 (Int.toNat (wr (s + 1)) - 1)) (Int.toNat (wr (s + 1))) from (by
                              have z := PLM_s (X := X) (n := (Int.toNat v1)) (s := Int.toNat s) (l := v2) (J := J6) ⟨by omega, by omega⟩ (by omega) hl hXa (by rw [← hTd]; exact c10) (by rw [show (((Int.toNat v1) : Nat) : Int) = v1 from by omega, ← hTd]; exact c11)
                              rw [show Int.toNat (wr (s + 1)) - 1 = Int.toNat s from by omega, show Int.toNat (wr (s + 1)) = Int.toNat s + 1 from by omega]
                              exact z)) (show (1024 - (wr (s + 1))).toNat < mz from by omega)
theorem r_plt11_l1 (hF : FS F) (hR : Rg I) {v0 v1 v2 : Int} (hs : 0 ≤ v0 ∧ v0 ≤ 3) (hn : 0 ≤ v1 ∧ v1 ≤ 10) (hl : 1 ≤ v2 ∧ v2 ≤ 999) (hQ : ∀ (r : Int) (I' : pI), Rg I' → (∀ k j, ¬ (k = 238 ∨ k = 247 ∨ k = 248) → I' k j = I k j) → ((¬ GD (fun j => I 252 (24 * Int.toNat v0 + j)) (I 251 (Int.toNat v0)) v1 1 999 → r = -1000001) ∧ (GD (fun j => I 252 (24 * Int.toNat v0 + j)) (I 251 (Int.toNat v0)) v1 1 999 → (¬ GD (fun j => I 252 (24 * Int.toNat v0 + j)) (I 251 (Int.toNat v0)) v1 1 v2 → r = -1000003) ∧ (GD (fun j => I 252 (24 * Int.toNat v0 + j)) (I 251 (Int.toNat v0)) v1 1 v2 → r = tbF (shN (fun j => I 252 (24 * Int.toNat v0 + j)) v1) (Int.toNat v1) v2 (2 ^ (Int.toNat v1) - 1) (2 ^ (Int.toNat v1) - 1) / 1024))) → Q (some (vi r)) F I') : ∀ (mz : Nat) (g lo k : Int) (J : pI), Rg J → (∀ k j, ¬ (k = 238 ∨ k = 247 ∨ k = 248) → J k j = I k j) → ((0 : Int) ≤ k) → ((k : Int) ≤ 10) → (0 ≤ g ∧ g ≤ 1) → (k ≤ v1) → ((g = 1 → v1 ≤ I 251 (Int.toNat v0) ∧ ∀ j : Nat, (j : Int) < k → (1 ≤ I 252 (24 * Int.toNat v0 + j) ∧ I 252 (24 * Int.toNat v0 + j) ≤ 999)) ∧ (g = 0 → ¬ GD (fun j => I 252 (24 * Int.toNat v0 + j)) (I 251 (Int.toNat v0)) v1 1 999)) → (g = 1 → (0 ≤ lo ∧ lo ≤ 999) ∧ (∀ j : Nat, (j : Int) < k → I 252 (24 * Int.toNat v0 + j) ≤ lo) ∧ (lo = 0 ∨ ∃ j : Nat, (j : Int) < k ∧ I 252 (24 * Int.toNat v0 + j) = lo)) → (10 - k).toNat < mz → GoN G (d + 1) kX12_plates NP NP 74 [some (vr 235), some (vi v0), some (vi v1), some (vi v2), some (vi g), some (vi lo), some (vi k), none, none, none, none, none, none] [] F J Q := by
  intro mz
  induction mz with
  | zero => intro g lo k J hJ hV _ _ _ _ _ _ h; exact absurd h (Nat.not_lt_zero _)
  | succ mz ih =>
    intro g lo k J hJ hV cc100 cc101 cc102 cc103 cc104 cc105 hm
    refine GoN_in (fun hok hA => ?_)
    have iiv0 : -2147483648 ≤ v0 ∧ v0 < 2147483648 := hok 1 _ rfl
    have iiv1 : -2147483648 ≤ v1 ∧ v1 < 2147483648 := hok 2 _ rfl
    have iiv2 : -2147483648 ≤ v2 ∧ v2 < 2147483648 := hok 3 _ rfl
    have iig : -2147483648 ≤ g ∧ g < 2147483648 := hok 4 _ rfl
    have iilo : -2147483648 ≤ lo ∧ lo < 2147483648 := hok 5 _ rfl
    have iik : -2147483648 ≤ k ∧ k < 2147483648 := hok 6 _ rfl
    refine Go_wp (by decide) ckX12_plates [74, 167] ?_
    refine ⟨fun (c1 : ((v1 : Int) ≤ k)) => ?_, fun (c1 : (¬ ((v1 : Int) ≤ k))) => ?_⟩
    ·
      refine ⟨fun (c2 : (¬ (g : Int) = 0)) => ?_, fun (c2 : ((g : Int) = 0)) => ?_⟩
      ·
        refine ⟨fun (c3 : ((lo : Int) ≤ v2)) => ?_, fun (c3 : (¬ ((lo : Int) ≤ v2))) => ?_⟩
        ·
          refine ⟨_, rfl, (by decide), ?_⟩
          refine fun w0 hw0 => ?_; obtain rfl : w0 = some 247 := hw0.symm.trans (FS.g hF rfl)
          refine ⟨_, rfl, (by decide), (by decide), (by decide), ?_⟩
          refine ⟨_, rfl, (by decide), ?_⟩
          refine fun w0 hw0 => ?_; obtain rfl : w0 = some 248 := hw0.symm.trans (FS.g hF rfl)
          refine ⟨_, rfl, (by decide), (by decide), (by decide), ?_⟩
          have e2 := sl_v (i := v1) (by omega)
          have p2 := p2_10 (n := Int.toNat v1) (by omega)
          have hgb : GD (fun j => I 252 (24 * Int.toNat v0 + j)) (I 251 (Int.toNat v0)) v1 1 v2 := by
            obtain ⟨q1, q2, q3⟩ := cc105 (by omega)
            refine ⟨(cc104.1 (by omega)).1, fun j hj => ?_⟩
            have y := q2 j (by omega)
            have y2 := (cc104.1 (by omega)).2 j (by omega)
            show 1 ≤ I 252 (24 * Int.toNat v0 + j) ∧ I 252 (24 * Int.toNat v0 + j) ≤ v2
            omega
          obtain ⟨X, hXd⟩ : ∃ X, X = shN (fun j => I 252 (24 * Int.toNat v0 + j)) v1 := ⟨_, rfl⟩
          refine r_plt11_l2 hF (Rg.u (Rg.u hJ (Pr_f rfl)) (Pr_f rfl)) (by omega) (by omega) (by omega) (fun j hj => ⟨((uI_o (show ¬ (252 = 248 ∧ (24 * Int.toNat v0 + j) = 0) from fun e => absurd e.1 (by decide))).trans ((uI_o (show ¬ (252 = 247 ∧ (24 * Int.toNat v0 + j) = 0) from fun e => absurd e.1 (by decide))).trans (hV 252 (24 * Int.toNat v0 + j) (by omega)))).trans (by rw [hXd]; exact (shN_i (f := fun j => I 252 (24 * Int.toNat v0 + j)) hj).symm), by rw [hXd, shN_i hj]; exact hgb.2 j hj⟩) (fun r I' g1 g2 g3 => hQ _ _ g1 (fun ka ja hk => (g2 ka ja (by omega)).trans (((uI_o (show ¬ (ka = 248 ∧ ja = 0) from by omega))).trans (((uI_o (show ¬ (ka = 247 ∧ ja = 0) from by omega))).trans ((hV ka ja (by omega)))))) ⟨fun z => absurd (show GD (fun j => I 252 (24 * Int.toNat v0 + j)) (I 251 (Int.toNat v0)) v1 1 999 from ⟨(cc104.1 (by omega)).1, fun j hj => (cc104.1 (by omega)).2 j (by omega)⟩) z, fun _ => ⟨fun e => absurd hgb e, fun _ => by rw [← hXd]; exact g3⟩⟩) _ g lo 1 (uI (uI J 247 0 0) 248 0 v2) (Rg.u (Rg.u hJ (Pr_f rfl)) (Pr_f rfl)) (fun _ _ _ => rfl) (show (1 : Int) ≤ (1 : Int) from by first | omega | (simp only [wr, wl] at *; omega)) (show ((1 : Int) : Int) ≤ 1024 from by first | omega | (simp only [wr, wl] at *; omega)) (show (1 : Int) ≤ slI 1 v1 from by first | omega | (simp only [wr, wl] at *; omega)) (show PLM (uI (uI J 247 0 0) 248 0 v2) (tbF X (Int.toNat v1) v2 (Int.toNat (1 : Int) - 1)) (Int.toNat (1 : Int)) from (fun q hq => (by
                              obtain rfl : q = 0 := by omega
                              exact (by
                              have g1 : (uI (uI J 247 0 0) 248 0 v2) 247 0 = 0 := (uI_o (show ¬ (247 = 248 ∧ 0 = 0) from fun e => absurd e.1 (by decide))).trans (uJ_eq)
                              have g2 : (uI (uI J 247 0 0) 248 0 v2) 248 0 = v2 := uJ_eq
                              show (uI (uI J 247 0 0) 248 0 v2) 247 0 * 1024 + (uI (uI J 247 0 0) 248 0 v2) 248 0 = v2 ∧ (0 ≤ (uI (uI J 247 0 0) 248 0 v2) 248 0 ∧ (uI (uI J 247 0 0) 248 0 v2) 248 0 ≤ 999) ∧ 0 ≤ (uI (uI J 247 0 0) 248 0 v2) 247 0
                              rw [g1, g2]
                              omega)))) (Nat.lt_succ_self _)
        ·
          refine ⟨⟨_, rfl, (by decide)⟩, ?_⟩
          refine s_X12_finding hF (v := (-1000003)) (by decide) ?_
          exact ⟨rfl, hQ _ _ (Rg.u hJ (Pr_f rfl)) (fun ka ja hk => ((uI_o (show ¬ (ka = 238 ∧ ja = 3) from by omega))).trans ((hV ka ja (by omega)))) (show (¬ GD (fun j => I 252 (24 * Int.toNat v0 + j)) (I 251 (Int.toNat v0)) v1 1 999 → (-1000003) = -1000001) ∧ (GD (fun j => I 252 (24 * Int.toNat v0 + j)) (I 251 (Int.toNat v0)) v1 1 999 → (¬ GD (fun j => I 252 (24 * Int.toNat v0 + j)) (I 251 (Int.toNat v0)) v1 1 v2 → (-1000003) = -1000003) ∧ (GD (fun j => I 252 (24 * Int.toNat v0 + j)) (I 251 (Int.toNat v0)) v1 1 v2 → (-1000003) = tbF (shN (fun j => I 252 (24 * Int.toNat v0 + j)) v1) (Int.toNat v1) v2 (2 ^ (Int.toNat v1) - 1) (2 ^ (Int.toNat v1) - 1) / 1024)) from by
                              refine ⟨fun z => ?_, fun z => ⟨fun e => ?_, fun e => ?_⟩⟩
                              all_goals first | omega | (exact absurd z (cc104.2 (by omega))) | (exact absurd (show GD (fun j => I 252 (24 * Int.toNat v0 + j)) (I 251 (Int.toNat v0)) v1 1 999 from ⟨(cc104.1 (by omega)).1, fun j hj => (cc104.1 (by omega)).2 j (by omega)⟩) z) | (obtain ⟨q1, q2, q3⟩ := cc105 (by omega); rcases q3 with q3 | ⟨j, h1, h2⟩ <;> first | omega | (have y : 1 ≤ I 252 (24 * Int.toNat v0 + j) ∧ I 252 (24 * Int.toNat v0 + j) ≤ v2 := e.2 j (by omega); omega)))⟩
      ·
        refine ⟨⟨_, rfl, (by decide)⟩, ?_⟩
        refine s_X12_finding hF (v := (-1000001)) (by decide) ?_
        exact ⟨rfl, hQ _ _ (Rg.u hJ (Pr_f rfl)) (fun ka ja hk => ((uI_o (show ¬ (ka = 238 ∧ ja = 1) from by omega))).trans ((hV ka ja (by omega)))) (show (¬ GD (fun j => I 252 (24 * Int.toNat v0 + j)) (I 251 (Int.toNat v0)) v1 1 999 → (-1000001) = -1000001) ∧ (GD (fun j => I 252 (24 * Int.toNat v0 + j)) (I 251 (Int.toNat v0)) v1 1 999 → (¬ GD (fun j => I 252 (24 * Int.toNat v0 + j)) (I 251 (Int.toNat v0)) v1 1 v2 → (-1000001) = -1000003) ∧ (GD (fun j => I 252 (24 * Int.toNat v0 + j)) (I 251 (Int.toNat v0)) v1 1 v2 → (-1000001) = tbF (shN (fun j => I 252 (24 * Int.toNat v0 + j)) v1) (Int.toNat v1) v2 (2 ^ (Int.toNat v1) - 1) (2 ^ (Int.toNat v1) - 1) / 1024)) from by
                              refine ⟨fun z => ?_, fun z => ⟨fun e => ?_, fun e => ?_⟩⟩
                              all_goals first | omega | (exact absurd z (cc104.2 (by omega))) | (exact absurd (show GD (fun j => I 252 (24 * Int.toNat v0 + j)) (I 251 (Int.toNat v0)) v1 1 999 from ⟨(cc104.1 (by omega)).1, fun j hj => (cc104.1 (by omega)).2 j (by omega)⟩) z) | (obtain ⟨q1, q2, q3⟩ := cc105 (by omega); rcases q3 with q3 | ⟨j, h1, h2⟩ <;> first | omega | (have y : 1 ≤ I 252 (24 * Int.toNat v0 + j) ∧ I 252 (24 * Int.toNat v0 + j) ≤ v2 := e.2 j (by omega); omega)))⟩
    ·
      refine ⟨fun (c4 : ((g : Int) = 0)) => ?_, fun (c4 : (¬ ((g : Int) = 0))) => ?_⟩
      ·
        refine ⟨fun c => absurd (show ((g : Int) = 0) from by first | omega | (simp only [wr, wl] at *; omega)) c, fun _ => ?_⟩
        refine ⟨⟨_, rfl, (by decide)⟩, ?_⟩
        refine s_X12_finding hF (v := (-1000001)) (by decide) ?_
        exact ⟨rfl, hQ _ _ (Rg.u hJ (Pr_f rfl)) (fun ka ja hk => ((uI_o (show ¬ (ka = 238 ∧ ja = 1) from by omega))).trans ((hV ka ja (by omega)))) (show (¬ GD (fun j => I 252 (24 * Int.toNat v0 + j)) (I 251 (Int.toNat v0)) v1 1 999 → (-1000001) = -1000001) ∧ (GD (fun j => I 252 (24 * Int.toNat v0 + j)) (I 251 (Int.toNat v0)) v1 1 999 → (¬ GD (fun j => I 252 (24 * Int.toNat v0 + j)) (I 251 (Int.toNat v0)) v1 1 v2 → (-1000001) = -1000003) ∧ (GD (fun j => I 252 (24 * Int.toNat v0 + j)) (I 251 (Int.toNat v0)) v1 1 v2 → (-1000001) = tbF (shN (fun j => I 252 (24 * Int.toNat v0 + j)) v1) (Int.toNat v1) v2 (2 ^ (Int.toNat v1) - 1) (2 ^ (Int.toNat v1) - 1) / 1024)) from by
                              refine ⟨fun z => ?_, fun z => ⟨fun e => ?_, fun e => ?_⟩⟩
                              all_goals first | omega | (exact absurd z (cc104.2 (by omega))) | (exact absurd (show GD (fun j => I 252 (24 * Int.toNat v0 + j)) (I 251 (Int.toNat v0)) v1 1 999 from ⟨(cc104.1 (by omega)).1, fun j hj => (cc104.1 (by omega)).2 j (by omega)⟩) z) | (obtain ⟨q1, q2, q3⟩ := cc105 (by omega); rcases q3 with q3 | ⟨j, h1, h2⟩ <;> first | omega | (have y : 1 ≤ I 252 (24 * Int.toNat v0 + j) ∧ I 252 (24 * Int.toNat v0 + j) ≤ v2 := e.2 j (by omega); omega)))⟩
      ·
        refine ⟨_, rfl, (by decide), ?_⟩
        refine fun w0 hw0 => ?_; obtain rfl : w0 = some 252 := hw0.symm.trans (FS.g hF rfl)
        have n5 : (wr (24 * v0)) = 24 * v0 := wr_id (show -2147483648 ≤ (24 * v0 : Int) ∧ (24 * v0 : Int) < 2147483648 from by omega)
        have n6 : (wr ((wr (24 * v0)) + k)) = (wr (24 * v0)) + k := wr_id (show -2147483648 ≤ ((wr (24 * v0)) + k : Int) ∧ ((wr (24 * v0)) + k : Int) < 2147483648 from by omega)
        refine ⟨_, rfl, (by decide), (show (0 : Int) ≤ (wr ((wr (24 * v0)) + k)) from by first | omega | (simp only [wr, wl] at *; omega)), (show (wr ((wr (24 * v0)) + k)) < (96 : Int) from by first | omega | (simp only [wr, wl] at *; omega)), ?_⟩
        have zk : (I 252 (Int.toNat (wr ((wr (24 * v0)) + k)))) = I 252 (24 * Int.toNat v0 + Int.toNat k) := (congrArg (I 252) (by omega)).trans (rfl)
        have u7 : (J 252 (Int.toNat (wr ((wr (24 * v0)) + k)))) = (I 252 (Int.toNat (wr ((wr (24 * v0)) + k)))) := hV _ _ (by first | omega | decide)
        have a8 : -2147483648 ≤ (J 252 (Int.toNat (wr ((wr (24 * v0)) + k)))) ∧ (J 252 (Int.toNat (wr ((wr (24 * v0)) + k)))) < 2147483648 := hA.1 _ _
        have zk : (J 252 (Int.toNat (wr ((wr (24 * v0)) + k)))) = I 252 (24 * Int.toNat v0 + Int.toNat k) := (congrArg (J 252) (by omega)).trans (hV 252 (24 * Int.toNat v0 + Int.toNat k) (by omega))
        refine s_X12_within (fun (w9 : ((1 : Int) ≤ (J 252 (Int.toNat (wr ((wr (24 * v0)) + k)))) ∧ ((J 252 (Int.toNat (wr ((wr (24 * v0)) + k)))) : Int) ≤ 999)) => ?_) (fun (w9 : ¬ ((1 : Int) ≤ (J 252 (Int.toNat (wr ((wr (24 * v0)) + k)))) ∧ ((J 252 (Int.toNat (wr ((wr (24 * v0)) + k)))) : Int) ≤ 999)) => ?_)
        ·
          refine j_max (fun w10 h11 h12 h13 => ?_)
          refine GoN_lv (lv' := [some (vr 235), some (vi v0), some (vi v1), some (vi v2), some (vi 1), some (vi w10), some (vi (wr (k + 1))), none, none, none, none, none, none]) (LvLe.k (LvLe.k (LvLe.k (LvLe.k (LvLe.k (LvLe.k (LvLe.k (LvLe.d (LvLe.k (LvLe.k (LvLe.k (LvLe.k (LvLe.k LvLe.n))))))))))))) ?_
          have n14 : (wr (k + 1)) = k + 1 := wr_id (show -2147483648 ≤ (k + 1 : Int) ∧ (k + 1 : Int) < 2147483648 from by omega)
          exact ih 1 w10 (wr (k + 1)) J hJ (fun ka ja hk => (hV ka ja (by omega))) (show (0 : Int) ≤ (wr (k + 1)) from by first | omega | (simp only [wr, wl] at *; omega)) (show ((wr (k + 1)) : Int) ≤ 10 from by first | omega | (simp only [wr, wl] at *; omega)) (show 0 ≤ (1 : Int) ∧ (1 : Int) ≤ 1 from by first | omega | (simp only [wr, wl] at *; omega)) (show (wr (k + 1)) ≤ v1 from by first | omega | (simp only [wr, wl] at *; omega)) (show ((1 : Int) = 1 → v1 ≤ I 251 (Int.toNat v0) ∧ ∀ j : Nat, (j : Int) < (wr (k + 1)) → (1 ≤ I 252 (24 * Int.toNat v0 + j) ∧ I 252 (24 * Int.toNat v0 + j) ≤ 999)) ∧ ((1 : Int) = 0 → ¬ GD (fun j => I 252 (24 * Int.toNat v0 + j)) (I 251 (Int.toNat v0)) v1 1 999) from ⟨fun _ => ⟨(cc104.1 (by omega)).1, fun j hj => if e : j = Int.toNat k then (by rw [e]; omega) else (cc104.1 (by omega)).2 j (by omega)⟩, fun z => absurd z (by decide)⟩) (show (1 : Int) = 1 → (0 ≤ w10 ∧ w10 ≤ 999) ∧ (∀ j : Nat, (j : Int) < (wr (k + 1)) → I 252 (24 * Int.toNat v0 + j) ≤ w10) ∧ (w10 = 0 ∨ ∃ j : Nat, (j : Int) < (wr (k + 1)) ∧ I 252 (24 * Int.toNat v0 + j) = w10) from (by
                              intro _
                              obtain ⟨q1, q2, q3⟩ := cc105 (by omega)
                              refine ⟨by omega, fun j hj => ?_, ?_⟩
                              · by_cases e : j = Int.toNat k
                                · rw [e]; omega
                                · have y := q2 j (by omega)
                                  omega
                              · by_cases e : w10 = I 252 (24 * Int.toNat v0 + Int.toNat k)
                                · exact Or.inr ⟨Int.toNat k, by omega, e.symm⟩
                                · rcases q3 with q3 | ⟨j, h1, h2⟩
                                  · exact Or.inl (by omega)
                                  · exact Or.inr ⟨j, by omega, by omega⟩)) (show (10 - (wr (k + 1))).toNat < mz from by omega)
        ·
          refine j_max (fun w15 h16 h17 h18 => ?_)
          refine GoN_lv (lv' := [some (vr 235), some (vi v0), some (vi v1), some (vi v2), some (vi 0), some (vi w15), some (vi (wr (k + 1))), none, none, none, none, none, none]) (LvLe.k (LvLe.k (LvLe.k (LvLe.k (LvLe.k (LvLe.k (LvLe.k (LvLe.d (LvLe.k (LvLe.k (LvLe.k (LvLe.k (LvLe.k LvLe.n))))))))))))) ?_
          have n19 : (wr (k + 1)) = k + 1 := wr_id (show -2147483648 ≤ (k + 1 : Int) ∧ (k + 1 : Int) < 2147483648 from by omega)
          exact ih 0 w15 (wr (k + 1)) J hJ (fun ka ja hk => (hV ka ja (by omega))) (show (0 : Int) ≤ (wr (k + 1)) from by first | omega | (simp only [wr, wl] at *; omega)) (show ((wr (k + 1)) : Int) ≤ 10 from by first | omega | (simp only [wr, wl] at *; omega)) (show 0 ≤ (0 : Int) ∧ (0 : Int) ≤ 1 from by first | omega | (simp only [wr, wl] at *; omega)) (show (wr (k + 1)) ≤ v1 from by first | omega | (simp only [wr, wl] at *; omega)) (show ((0 : Int) = 1 → v1 ≤ I 251 (Int.toNat v0) ∧ ∀ j : Nat, (j : Int) < (wr (k + 1)) → (1 ≤ I 252 (24 * Int.toNat v0 + j) ∧ I 252 (24 * Int.toNat v0 + j) ≤ 999)) ∧ ((0 : Int) = 0 → ¬ GD (fun j => I 252 (24 * Int.toNat v0 + j)) (I 251 (Int.toNat v0)) v1 1 999) from ⟨fun z => absurd z (by decide), fun _ z => (by have y : 1 ≤ I 252 (24 * Int.toNat v0 + Int.toNat k) ∧ I 252 (24 * Int.toNat v0 + Int.toNat k) ≤ 999 := z.2 (Int.toNat k) (by omega); omega)⟩) (show (0 : Int) = 1 → (0 ≤ w15 ∧ w15 ≤ 999) ∧ (∀ j : Nat, (j : Int) < (wr (k + 1)) → I 252 (24 * Int.toNat v0 + j) ≤ w15) ∧ (w15 = 0 ∨ ∃ j : Nat, (j : Int) < (wr (k + 1)) ∧ I 252 (24 * Int.toNat v0 + j) = w15) from fun z => absurd z (by decide)) (show (10 - (wr (k + 1))).toNat < mz from by omega)
theorem r_plates11 (hF : FS F) (hR : Rg I) {v0 v1 v2 : Int}  (hQ : ∀ (r : Int) (I' : pI), Rg I' → AR I' → iR r → (∀ k j, ¬ (k = 238 ∨ k = 247 ∨ k = 248) → I' k j = I k j) → ((¬ ((0 ≤ v0 ∧ v0 ≤ 3) ∧ (0 ≤ v1 ∧ v1 ≤ 10) ∧ (1 ≤ v2 ∧ v2 ≤ 999)) → r = -1000001) ∧ (((0 ≤ v0 ∧ v0 ≤ 3) ∧ (0 ≤ v1 ∧ v1 ≤ 10) ∧ (1 ≤ v2 ∧ v2 ≤ 999)) → (I 250 (Int.toNat v0) = 0 → r = -1000002) ∧ (¬ I 250 (Int.toNat v0) = 0 → (¬ GD (fun j => I 252 (24 * Int.toNat v0 + j)) (I 251 (Int.toNat v0)) v1 1 999 → r = -1000001) ∧ (GD (fun j => I 252 (24 * Int.toNat v0 + j)) (I 251 (Int.toNat v0)) v1 1 999 → (¬ GD (fun j => I 252 (24 * Int.toNat v0 + j)) (I 251 (Int.toNat v0)) v1 1 v2 → r = -1000003) ∧ (GD (fun j => I 252 (24 * Int.toNat v0 + j)) (I 251 (Int.toNat v0)) v1 1 v2 → r = tbF (shN (fun j => I 252 (24 * Int.toNat v0 + j)) v1) (Int.toNat v1) v2 (2 ^ Int.toNat v1 - 1) (2 ^ Int.toNat v1 - 1) / 1024))))) → Q (some (vi r)) F I') : CallN G (d + 2) kX12_plates [vr 235, vi v0, vi v1, vi v2] NP F I Q := by
  refine CallN_in (fun hok hA => CallN_out ?_)
  have iv0 : -2147483648 ≤ v0 ∧ v0 < 2147483648 := hok (vi v0) (by simp)
  have iv1 : -2147483648 ≤ v1 ∧ v1 < 2147483648 := hok (vi v1) (by simp)
  have iv2 : -2147483648 ≤ v2 ∧ v2 < 2147483648 := hok (vi v2) (by simp)
  refine Call_wp (lv := [some (vr 235), some (vi v0), some (vi v1), some (vi v2), none, none, none, none, none, none, none, none, none]) (by decide) ckX12_plates [74] rfl rfl ?_
  refine s_X12_isSheet (fun (w1 : ((0 : Int) ≤ v0 ∧ (v0 : Int) ≤ 3)) => ?_) (fun (w1 : ¬ ((0 : Int) ≤ v0 ∧ (v0 : Int) ≤ 3)) => ?_)
  ·
    refine ⟨fun c => absurd c (show (¬ ((1 : Int) = 0)) from by decide), fun _ => ?_⟩
    refine s_X12_within (fun (w2 : ((0 : Int) ≤ v1 ∧ (v1 : Int) ≤ 10)) => ?_) (fun (w2 : ¬ ((0 : Int) ≤ v1 ∧ (v1 : Int) ≤ 10)) => ?_)
    ·
      refine ⟨fun c => absurd c (show (¬ ((1 : Int) = 0)) from by decide), fun _ => ?_⟩
      refine s_X12_within (fun (w3 : ((1 : Int) ≤ v2 ∧ (v2 : Int) ≤ 999)) => ?_) (fun (w3 : ¬ ((1 : Int) ≤ v2 ∧ (v2 : Int) ≤ 999)) => ?_)
      ·
        refine ⟨fun _ => ?_, fun c => absurd c (show (¬ (1 : Int) = 0) from by decide)⟩
        refine ⟨_, rfl, (by decide), ?_⟩
        refine fun w0 hw0 => ?_; obtain rfl : w0 = some 250 := hw0.symm.trans (FS.g hF rfl)
        refine ⟨_, rfl, (by decide), (show (0 : Int) ≤ v0 from by first | omega | (simp only [wr, wl] at *; omega)), (show v0 < (4 : Int) from by first | omega | (simp only [wr, wl] at *; omega)), ?_⟩
        have a4 : -2147483648 ≤ (I 250 (Int.toNat v0)) ∧ (I 250 (Int.toNat v0)) < 2147483648 := hA.1 _ _
        refine ⟨fun (c5 : (¬ ((I 250 (Int.toNat v0)) : Int) = 0)) => ?_, fun (c5 : (((I 250 (Int.toNat v0)) : Int) = 0)) => ?_⟩
        ·
          refine ⟨_, rfl, (by decide), ?_⟩
          refine fun w0 hw0 => ?_; obtain rfl : w0 = some 251 := hw0.symm.trans (FS.g hF rfl)
          refine ⟨_, rfl, (by decide), (show (0 : Int) ≤ v0 from by first | omega | (simp only [wr, wl] at *; omega)), (show v0 < (4 : Int) from by first | omega | (simp only [wr, wl] at *; omega)), ?_⟩
          have r6 : 0 ≤ (I 251 (Int.toNat v0)) ∧ (I 251 (Int.toNat v0)) ≤ 24 := hR.s _ (by omega)
          have a7 : -2147483648 ≤ (I 251 (Int.toNat v0)) ∧ (I 251 (Int.toNat v0)) < 2147483648 := hA.1 _ _
          refine ⟨fun (c8 : (((I 251 (Int.toNat v0)) : Int) < v1)) => ?_, fun (c8 : (¬ (((I 251 (Int.toNat v0)) : Int) < v1))) => ?_⟩
          ·
            refine r_plt11_l1 hF hR (by omega) (by omega) (by omega) (fun r I' g1 g2 g3 hv hA' => hQ _ _ g1 hA' (hv _ rfl) g2 ⟨fun z => absurd (by omega) z, fun _ => ⟨fun z => absurd z (by omega), fun _ => g3⟩⟩) _ 0 0 0 I hR (fun _ _ _ => rfl) (show (0 : Int) ≤ (0 : Int) from by first | omega | (simp only [wr, wl] at *; omega)) (show ((0 : Int) : Int) ≤ 10 from by first | omega | (simp only [wr, wl] at *; omega)) (show 0 ≤ (0 : Int) ∧ (0 : Int) ≤ 1 from by first | omega | (simp only [wr, wl] at *; omega)) (show (0 : Int) ≤ v1 from by first | omega | (simp only [wr, wl] at *; omega)) (show ((0 : Int) = 1 → v1 ≤ I 251 (Int.toNat v0) ∧ ∀ j : Nat, (j : Int) < (0 : Int) → (1 ≤ I 252 (24 * Int.toNat v0 + j) ∧ I 252 (24 * Int.toNat v0 + j) ≤ 999)) ∧ ((0 : Int) = 0 → ¬ GD (fun j => I 252 (24 * Int.toNat v0 + j)) (I 251 (Int.toNat v0)) v1 1 999) from ⟨fun z => absurd z (by decide), fun _ z => absurd z.1 (by omega)⟩) (show (0 : Int) = 1 → (0 ≤ (0 : Int) ∧ (0 : Int) ≤ 999) ∧ (∀ j : Nat, (j : Int) < (0 : Int) → I 252 (24 * Int.toNat v0 + j) ≤ (0 : Int)) ∧ ((0 : Int) = 0 ∨ ∃ j : Nat, (j : Int) < (0 : Int) ∧ I 252 (24 * Int.toNat v0 + j) = (0 : Int)) from fun _ => ⟨by omega, fun j hj => absurd hj (by omega), Or.inl rfl⟩) (Nat.lt_succ_self _)
          ·
            refine r_plt11_l1 hF hR (by omega) (by omega) (by omega) (fun r I' g1 g2 g3 hv hA' => hQ _ _ g1 hA' (hv _ rfl) g2 ⟨fun z => absurd (by omega) z, fun _ => ⟨fun z => absurd z (by omega), fun _ => g3⟩⟩) _ 1 0 0 I hR (fun _ _ _ => rfl) (show (0 : Int) ≤ (0 : Int) from by first | omega | (simp only [wr, wl] at *; omega)) (show ((0 : Int) : Int) ≤ 10 from by first | omega | (simp only [wr, wl] at *; omega)) (show 0 ≤ (1 : Int) ∧ (1 : Int) ≤ 1 from by first | omega | (simp only [wr, wl] at *; omega)) (show (0 : Int) ≤ v1 from by first | omega | (simp only [wr, wl] at *; omega)) (show ((1 : Int) = 1 → v1 ≤ I 251 (Int.toNat v0) ∧ ∀ j : Nat, (j : Int) < (0 : Int) → (1 ≤ I 252 (24 * Int.toNat v0 + j) ∧ I 252 (24 * Int.toNat v0 + j) ≤ 999)) ∧ ((1 : Int) = 0 → ¬ GD (fun j => I 252 (24 * Int.toNat v0 + j)) (I 251 (Int.toNat v0)) v1 1 999) from ⟨fun _ => ⟨by omega, fun j hj => absurd hj (by omega)⟩, fun z => absurd z (by decide)⟩) (show (1 : Int) = 1 → (0 ≤ (0 : Int) ∧ (0 : Int) ≤ 999) ∧ (∀ j : Nat, (j : Int) < (0 : Int) → I 252 (24 * Int.toNat v0 + j) ≤ (0 : Int)) ∧ ((0 : Int) = 0 ∨ ∃ j : Nat, (j : Int) < (0 : Int) ∧ I 252 (24 * Int.toNat v0 + j) = (0 : Int)) from fun _ => ⟨by omega, fun j hj => absurd hj (by omega), Or.inl rfl⟩) (Nat.lt_succ_self _)
        ·
          refine ⟨⟨_, rfl, (by decide)⟩, ?_⟩
          refine s_X12_finding hF (v := (-1000002)) (by decide) ?_
          exact ⟨rfl, fun hv hA' => hQ _ _ (Rg.u hR (Pr_f rfl)) hA' (hv _ rfl) (fun ka ja hk => (uI_o (show ¬ (ka = 238 ∧ ja = 2) from by omega))) (show (¬ ((0 ≤ v0 ∧ v0 ≤ 3) ∧ (0 ≤ v1 ∧ v1 ≤ 10) ∧ (1 ≤ v2 ∧ v2 ≤ 999)) → (-1000002) = -1000001) ∧ (((0 ≤ v0 ∧ v0 ≤ 3) ∧ (0 ≤ v1 ∧ v1 ≤ 10) ∧ (1 ≤ v2 ∧ v2 ≤ 999)) → (I 250 (Int.toNat v0) = 0 → (-1000002) = -1000002) ∧ (¬ I 250 (Int.toNat v0) = 0 → (¬ GD (fun j => I 252 (24 * Int.toNat v0 + j)) (I 251 (Int.toNat v0)) v1 1 999 → (-1000002) = -1000001) ∧ (GD (fun j => I 252 (24 * Int.toNat v0 + j)) (I 251 (Int.toNat v0)) v1 1 999 → (¬ GD (fun j => I 252 (24 * Int.toNat v0 + j)) (I 251 (Int.toNat v0)) v1 1 v2 → (-1000002) = -1000003) ∧ (GD (fun j => I 252 (24 * Int.toNat v0 + j)) (I 251 (Int.toNat v0)) v1 1 v2 → (-1000002) = tbF (shN (fun j => I 252 (24 * Int.toNat v0 + j)) v1) (Int.toNat v1) v2 (2 ^ Int.toNat v1 - 1) (2 ^ Int.toNat v1 - 1) / 1024)))) from by
                              refine ⟨fun z => ?_, fun z => ⟨fun b => ?_, fun b => ⟨fun g => ?_, fun g => ⟨fun e => ?_, fun e => ?_⟩⟩⟩⟩
                              all_goals first | omega | (exfalso; omega))⟩
      ·
        refine ⟨fun c => absurd (show ((0 : Int) = 0) from by decide) c, fun _ => ?_⟩
        refine ⟨⟨_, rfl, (by decide)⟩, ?_⟩
        refine s_X12_finding hF (v := (-1000001)) (by decide) ?_
        exact ⟨rfl, fun hv hA' => hQ _ _ (Rg.u hR (Pr_f rfl)) hA' (hv _ rfl) (fun ka ja hk => (uI_o (show ¬ (ka = 238 ∧ ja = 1) from by omega))) (show (¬ ((0 ≤ v0 ∧ v0 ≤ 3) ∧ (0 ≤ v1 ∧ v1 ≤ 10) ∧ (1 ≤ v2 ∧ v2 ≤ 999)) → (-1000001) = -1000001) ∧ (((0 ≤ v0 ∧ v0 ≤ 3) ∧ (0 ≤ v1 ∧ v1 ≤ 10) ∧ (1 ≤ v2 ∧ v2 ≤ 999)) → (I 250 (Int.toNat v0) = 0 → (-1000001) = -1000002) ∧ (¬ I 250 (Int.toNat v0) = 0 → (¬ GD (fun j => I 252 (24 * Int.toNat v0 + j)) (I 251 (Int.toNat v0)) v1 1 999 → (-1000001) = -1000001) ∧ (GD (fun j => I 252 (24 * Int.toNat v0 + j)) (I 251 (Int.toNat v0)) v1 1 999 → (¬ GD (fun j => I 252 (24 * Int.toNat v0 + j)) (I 251 (Int.toNat v0)) v1 1 v2 → (-1000001) = -1000003) ∧ (GD (fun j => I 252 (24 * Int.toNat v0 + j)) (I 251 (Int.toNat v0)) v1 1 v2 → (-1000001) = tbF (shN (fun j => I 252 (24 * Int.toNat v0 + j)) v1) (Int.toNat v1) v2 (2 ^ Int.toNat v1 - 1) (2 ^ Int.toNat v1 - 1) / 1024)))) from by
                              refine ⟨fun z => ?_, fun z => ⟨fun b => ?_, fun b => ⟨fun g => ?_, fun g => ⟨fun e => ?_, fun e => ?_⟩⟩⟩⟩
                              all_goals first | omega | (exfalso; omega))⟩
    ·
      refine ⟨fun _ => ?_, fun c => absurd (show ((0 : Int) = 0) from by decide) c⟩
      refine ⟨⟨_, rfl, (by decide)⟩, ?_⟩
      refine s_X12_finding hF (v := (-1000001)) (by decide) ?_
      exact ⟨rfl, fun hv hA' => hQ _ _ (Rg.u hR (Pr_f rfl)) hA' (hv _ rfl) (fun ka ja hk => (uI_o (show ¬ (ka = 238 ∧ ja = 1) from by omega))) (show (¬ ((0 ≤ v0 ∧ v0 ≤ 3) ∧ (0 ≤ v1 ∧ v1 ≤ 10) ∧ (1 ≤ v2 ∧ v2 ≤ 999)) → (-1000001) = -1000001) ∧ (((0 ≤ v0 ∧ v0 ≤ 3) ∧ (0 ≤ v1 ∧ v1 ≤ 10) ∧ (1 ≤ v2 ∧ v2 ≤ 999)) → (I 250 (Int.toNat v0) = 0 → (-1000001) = -1000002) ∧ (¬ I 250 (Int.toNat v0) = 0 → (¬ GD (fun j => I 252 (24 * Int.toNat v0 + j)) (I 251 (Int.toNat v0)) v1 1 999 → (-1000001) = -1000001) ∧ (GD (fun j => I 252 (24 * Int.toNat v0 + j)) (I 251 (Int.toNat v0)) v1 1 999 → (¬ GD (fun j => I 252 (24 * Int.toNat v0 + j)) (I 251 (Int.toNat v0)) v1 1 v2 → (-1000001) = -1000003) ∧ (GD (fun j => I 252 (24 * Int.toNat v0 + j)) (I 251 (Int.toNat v0)) v1 1 v2 → (-1000001) = tbF (shN (fun j => I 252 (24 * Int.toNat v0 + j)) v1) (Int.toNat v1) v2 (2 ^ Int.toNat v1 - 1) (2 ^ Int.toNat v1 - 1) / 1024)))) from by
                              refine ⟨fun z => ?_, fun z => ⟨fun b => ?_, fun b => ⟨fun g => ?_, fun g => ⟨fun e => ?_, fun e => ?_⟩⟩⟩⟩
                              all_goals first | omega | (exfalso; omega))⟩
  ·
    refine ⟨fun _ => ?_, fun c => absurd (show ((0 : Int) = 0) from by decide) c⟩
    refine ⟨⟨_, rfl, (by decide)⟩, ?_⟩
    refine s_X12_finding hF (v := (-1000001)) (by decide) ?_
    exact ⟨rfl, fun hv hA' => hQ _ _ (Rg.u hR (Pr_f rfl)) hA' (hv _ rfl) (fun ka ja hk => (uI_o (show ¬ (ka = 238 ∧ ja = 1) from by omega))) (show (¬ ((0 ≤ v0 ∧ v0 ≤ 3) ∧ (0 ≤ v1 ∧ v1 ≤ 10) ∧ (1 ≤ v2 ∧ v2 ≤ 999)) → (-1000001) = -1000001) ∧ (((0 ≤ v0 ∧ v0 ≤ 3) ∧ (0 ≤ v1 ∧ v1 ≤ 10) ∧ (1 ≤ v2 ∧ v2 ≤ 999)) → (I 250 (Int.toNat v0) = 0 → (-1000001) = -1000002) ∧ (¬ I 250 (Int.toNat v0) = 0 → (¬ GD (fun j => I 252 (24 * Int.toNat v0 + j)) (I 251 (Int.toNat v0)) v1 1 999 → (-1000001) = -1000001) ∧ (GD (fun j => I 252 (24 * Int.toNat v0 + j)) (I 251 (Int.toNat v0)) v1 1 999 → (¬ GD (fun j => I 252 (24 * Int.toNat v0 + j)) (I 251 (Int.toNat v0)) v1 1 v2 → (-1000001) = -1000003) ∧ (GD (fun j => I 252 (24 * Int.toNat v0 + j)) (I 251 (Int.toNat v0)) v1 1 v2 → (-1000001) = tbF (shN (fun j => I 252 (24 * Int.toNat v0 + j)) v1) (Int.toNat v1) v2 (2 ^ Int.toNat v1 - 1) (2 ^ Int.toNat v1 - 1) / 1024)))) from by
                              refine ⟨fun z => ?_, fun z => ⟨fun b => ?_, fun b => ⟨fun g => ?_, fun g => ⟨fun e => ?_, fun e => ?_⟩⟩⟩⟩
                              all_goals first | omega | (exfalso; omega))⟩
end PLT
def PLTC (v0 v1 v2 r : Int) (I : pI) : Prop := (¬ ((0 ≤ v0 ∧ v0 ≤ 3) ∧ (0 ≤ v1 ∧ v1 ≤ 10) ∧ (1 ≤ v2 ∧ v2 ≤ 999)) → r = -1000001) ∧ (((0 ≤ v0 ∧ v0 ≤ 3) ∧ (0 ≤ v1 ∧ v1 ≤ 10) ∧ (1 ≤ v2 ∧ v2 ≤ 999)) → (I (227 + 2 * Int.toNat v0) 0 = 0 → r = -1000002) ∧ (¬ I (227 + 2 * Int.toNat v0) 0 = 0 → (¬ GD (I ((227 + 2 * Int.toNat v0) + 1)) (I (227 + 2 * Int.toNat v0) 1) v1 1 999 → r = -1000001) ∧ (GD (I ((227 + 2 * Int.toNat v0) + 1)) (I (227 + 2 * Int.toNat v0) 1) v1 1 999 → (¬ GD (I ((227 + 2 * Int.toNat v0) + 1)) (I (227 + 2 * Int.toNat v0) 1) v1 1 v2 → r = -1000003) ∧ (GD (I ((227 + 2 * Int.toNat v0) + 1)) (I (227 + 2 * Int.toNat v0) 1) v1 1 v2 → r = tbF (shN (I ((227 + 2 * Int.toNat v0) + 1)) v1) (Int.toNat v1) v2 (2 ^ Int.toNat v1 - 1) (2 ^ Int.toNat v1 - 1) / 1024))))
def PLTR (v0 v1 v2 r : Int) (J : pI) : Prop := (¬ ((0 ≤ v0 ∧ v0 ≤ 3) ∧ (0 ≤ v1 ∧ v1 ≤ 10) ∧ (1 ≤ v2 ∧ v2 ≤ 999)) → r = -1000001) ∧ (((0 ≤ v0 ∧ v0 ≤ 3) ∧ (0 ≤ v1 ∧ v1 ≤ 10) ∧ (1 ≤ v2 ∧ v2 ≤ 999)) → (J 250 (Int.toNat v0) = 0 → r = -1000002) ∧ (¬ J 250 (Int.toNat v0) = 0 → (¬ GD (fun j => J 252 (24 * Int.toNat v0 + j)) (J 251 (Int.toNat v0)) v1 1 999 → r = -1000001) ∧ (GD (fun j => J 252 (24 * Int.toNat v0 + j)) (J 251 (Int.toNat v0)) v1 1 999 → (¬ GD (fun j => J 252 (24 * Int.toNat v0 + j)) (J 251 (Int.toNat v0)) v1 1 v2 → r = -1000003) ∧ (GD (fun j => J 252 (24 * Int.toNat v0 + j)) (J 251 (Int.toNat v0)) v1 1 v2 → r = tbF (shN (fun j => J 252 (24 * Int.toNat v0 + j)) v1) (Int.toNat v1) v2 (2 ^ Int.toNat v1 - 1) (2 ^ Int.toNat v1 - 1) / 1024))))
theorem plates_e {I J : pI} {v0 v1 v2 r r' : Int} (hH : LH I) (hN : LN I) (h4 : ∀ k j, 235 ≤ k → J k j = I k j) (c : PLTC v0 v1 v2 r I) (d : PLTR v0 v1 v2 r' J) : r = r' := by
  unfold PLTC at c
  unfold PLTR at d
  by_cases v : ((0 ≤ v0 ∧ v0 ≤ 3) ∧ (0 ≤ v1 ∧ v1 ≤ 10) ∧ (1 ≤ v2 ∧ v2 ≤ 999))
  · have c1 := c.2 v
    have d1 := d.2 v
    have e := hH (Int.toNat v0) (by omega)
    have e0 : J 250 (Int.toNat v0) = I (227 + 2 * Int.toNat v0) 0 := (h4 250 _ (by decide)).trans e.1.symm
    have e1 : J 251 (Int.toNat v0) = I (227 + 2 * Int.toNat v0) 1 := (h4 251 _ (by decide)).trans e.2.symm
    have en : ∀ j, j < 24 → (fun j => J 252 (24 * Int.toNat v0 + j)) j = I (227 + 2 * Int.toNat v0 + 1) j := fun j hj => by
      show J 252 (24 * Int.toNat v0 + j) = _
      rw [h4 252 _ (by decide), ← hN (Int.toNat v0) j (by omega) hj, show 228 + 2 * Int.toNat v0 = 227 + 2 * Int.toNat v0 + 1 from by omega]
    have ex : shN (fun j => J 252 (24 * Int.toNat v0 + j)) v1 = shN (I (227 + 2 * Int.toNat v0 + 1)) v1 := shN_e (fun k hk => en k (by omega))
    rw [e0, e1, ex] at d1
    have q1 := GD_e (l := I (227 + 2 * Int.toNat v0) 1) (n := v1) (lo := 1) (hi := 999) (by omega) en
    have q2 := GD_e (l := I (227 + 2 * Int.toNat v0) 1) (n := v1) (lo := 1) (hi := v2) (by omega) en
    by_cases b : I (227 + 2 * Int.toNat v0) 0 = 0
    · exact (c1.1 b).trans (d1.1 b).symm
    · have c2 := c1.2 b
      have d2 := d1.2 b
      by_cases g : GD (I (227 + 2 * Int.toNat v0 + 1)) (I (227 + 2 * Int.toNat v0) 1) v1 1 999
      · have c3 := c2.2 g
        have d3 := d2.2 (q1.2 g)
        by_cases k : GD (I (227 + 2 * Int.toNat v0 + 1)) (I (227 + 2 * Int.toNat v0) 1) v1 1 v2
        · exact (c3.2 k).trans (d3.2 (q2.2 k)).symm
        · exact (c3.1 k).trans (d3.1 (fun z => k (q2.1 z))).symm
      · exact (c2.1 g).trans (d2.1 (fun z => g (q1.1 z))).symm
  · exact (c.1 v).trans (d.1 v).symm
