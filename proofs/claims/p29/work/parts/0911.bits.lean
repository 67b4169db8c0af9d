/-! numbers of 32 bits that aren't negative, bit by bit. Own work. -/
theorem bv_nat {x : Int} (hx : 0 ≤ x ∧ x < 2147483648) : BitVec.ofInt 32 x = BitVec.ofNat 32 x.toNat := by
  obtain ⟨n, rfl⟩ := Int.eq_ofNat_of_zero_le hx.1
  simp [BitVec.ofInt_natCast]
theorem bI_le {x y : Int} (hx : 0 ≤ x ∧ x < 2147483648) : 0 ≤ bI x y ∧ bI x y ≤ x := by
  unfold bI
  show 0 ≤ ((Int32.ofInt x &&& Int32.ofInt y).toBitVec).toInt ∧ ((Int32.ofInt x &&& Int32.ofInt y).toBitVec).toInt ≤ x
  rw [Int32.toBitVec_and]
  show 0 ≤ (BitVec.ofInt 32 x &&& (Int32.ofInt y).toBitVec).toInt ∧ (BitVec.ofInt 32 x &&& (Int32.ofInt y).toBitVec).toInt ≤ x
  rw [bv_nat hx]
  generalize (Int32.ofInt y).toBitVec = Y
  have h : (BitVec.ofNat 32 x.toNat &&& Y).toNat ≤ x.toNat := by
    rw [BitVec.toNat_and, BitVec.toNat_ofNat, Nat.mod_eq_of_lt (by omega)]
    exact Nat.and_le_left
  rw [BitVec.toInt_eq_toNat_of_lt (by omega)]
  omega
theorem bI_comm (x y : Int) : bI x y = bI y x := by
  unfold bI
  rw [Int32.and_comm]
theorem bI_ri {x y : Int} (hy : 0 ≤ y ∧ y < 2147483648) : 0 ≤ bI x y ∧ bI x y ≤ y := by
  rw [bI_comm]
  exact bI_le hy
theorem bv_natL {x : Int} (hx : 0 ≤ x ∧ x < 9223372036854775808) : BitVec.ofInt 64 x = BitVec.ofNat 64 x.toNat := by
  obtain ⟨n, rfl⟩ := Int.eq_ofNat_of_zero_le hx.1
  simp [BitVec.ofInt_natCast]
theorem bL_ri {x y : Int} (hy : 0 ≤ y ∧ y < 9223372036854775808) : 0 ≤ bL x y ∧ bL x y ≤ y := by
  unfold bL
  show 0 ≤ ((Int64.ofInt x &&& Int64.ofInt y).toBitVec).toInt ∧ ((Int64.ofInt x &&& Int64.ofInt y).toBitVec).toInt ≤ y
  rw [Int64.toBitVec_and]
  show 0 ≤ ((Int64.ofInt x).toBitVec &&& BitVec.ofInt 64 y).toInt ∧ ((Int64.ofInt x).toBitVec &&& BitVec.ofInt 64 y).toInt ≤ y
  rw [bv_natL hy]
  generalize (Int64.ofInt x).toBitVec = X
  have h : (X &&& BitVec.ofNat 64 y.toNat).toNat ≤ y.toNat := by
    rw [BitVec.toNat_and, BitVec.toNat_ofNat, Nat.mod_eq_of_lt (by omega)]
    exact Nat.and_le_right
  rw [BitVec.toInt_eq_toNat_of_lt (by omega)]
  omega
theorem xI_lt {x y : Int} (hx : 0 ≤ x ∧ x < 1024) (hy : 0 ≤ y ∧ y < 1024) : 0 ≤ xI x y ∧ xI x y < 1024 := by
  unfold xI
  show 0 ≤ ((Int32.ofInt x ^^^ Int32.ofInt y).toBitVec).toInt ∧ ((Int32.ofInt x ^^^ Int32.ofInt y).toBitVec).toInt < 1024
  rw [Int32.toBitVec_xor]
  show 0 ≤ (BitVec.ofInt 32 x ^^^ BitVec.ofInt 32 y).toInt ∧ (BitVec.ofInt 32 x ^^^ BitVec.ofInt 32 y).toInt < 1024
  rw [bv_nat (by omega), bv_nat (x := y) (by omega)]
  have h : (BitVec.ofNat 32 x.toNat ^^^ BitVec.ofNat 32 y.toNat).toNat < 1024 := by
    rw [BitVec.toNat_xor, BitVec.toNat_ofNat, BitVec.toNat_ofNat, Nat.mod_eq_of_lt (by omega), Nat.mod_eq_of_lt (by omega)]
    exact Nat.xor_lt_two_pow (n := 10) (by omega) (by omega)
  rw [BitVec.toInt_eq_toNat_of_lt (by omega)]
  omega
theorem slI_f9 : ∀ n : Fin 10, 1 ≤ slI 1 (n.val : Int) ∧ slI 1 (n.val : Int) ≤ 512 := by decide +kernel
theorem slI_f10 : ∀ n : Fin 11, 1 ≤ slI 1 (n.val : Int) ∧ slI 1 (n.val : Int) ≤ 1024 := by decide +kernel
theorem slI_f12 : ∀ n : Fin 13, 1 ≤ slI 1 (n.val : Int) ∧ slI 1 (n.val : Int) ≤ 4096 := by decide +kernel
theorem slI_9 {x : Int} (h : 0 ≤ x ∧ x ≤ 9) : 1 ≤ slI 1 x ∧ slI 1 x ≤ 512 := by
  have := slI_f9 ⟨x.toNat, by omega⟩
  rwa [show ((⟨x.toNat, by omega⟩ : Fin 10).val : Int) = x from Int.toNat_of_nonneg h.1] at this
theorem slI_10 {x : Int} (h : 0 ≤ x ∧ x ≤ 10) : 1 ≤ slI 1 x ∧ slI 1 x ≤ 1024 := by
  have := slI_f10 ⟨x.toNat, by omega⟩
  rwa [show ((⟨x.toNat, by omega⟩ : Fin 11).val : Int) = x from Int.toNat_of_nonneg h.1] at this
theorem slI_12 {x : Int} (h : 0 ≤ x ∧ x ≤ 12) : 1 ≤ slI 1 x ∧ slI 1 x ≤ 4096 := by
  have := slI_f12 ⟨x.toNat, by omega⟩
  rwa [show ((⟨x.toNat, by omega⟩ : Fin 13).val : Int) = x from Int.toNat_of_nonneg h.1] at this
