/-! numbers of 32 bits that aren't negative, bit by bit. Own work. -/
theorem bv_nat {x : Int} (hx : 0 ≤ x ∧ x < 2147483648) : BitVec.ofInt 32 x = BitVec.ofNat 32 x.toNat := by
  obtain ⟨n, rfl⟩ := Int.eq_ofNat_of_zero_le hx.1
  simp [BitVec.ofInt_natCast]
theorem bv_toInt {n : Nat} (h : n < 2147483648) : (BitVec.ofNat 32 n).toInt = (n : Int) := by
  rw [BitVec.toInt_eq_toNat_of_lt]
  · simp [BitVec.toNat_ofNat]; omega
  · simp [BitVec.toNat_ofNat]; omega
theorem bI_n {x y : Int} (hx : 0 ≤ x ∧ x < 2147483648) (hy : 0 ≤ y ∧ y < 2147483648) : bI x y = ((x.toNat &&& y.toNat : Nat) : Int) := by
  unfold bI
  show ((Int32.ofInt x &&& Int32.ofInt y).toBitVec).toInt = _
  rw [Int32.toBitVec_and]
  show (BitVec.ofInt 32 x &&& BitVec.ofInt 32 y).toInt = _
  rw [bv_nat hx, bv_nat hy, ← BitVec.ofNat_and, bv_toInt]
  have := @Nat.and_le_left x.toNat y.toNat
  omega
theorem sh_mod : ∀ n : Fin 32, ((BitVec.ofNat 32 n.val &&& 31#32).smod 32#32).toNat = n.val := by decide +kernel
theorem sh_umod : ∀ n : Fin 32, ((BitVec.ofNat 32 n.val &&& 31#32) % 32#32).toNat = n.val := by decide +kernel
theorem srI_n {x y : Int} (hx : 0 ≤ x ∧ x < 2147483648) (hy : 0 ≤ y ∧ y < 32) : srI x y = ((x.toNat >>> y.toNat : Nat) : Int) := by
  unfold srI
  show ((Int32.ofInt x >>> (Int32.ofInt y &&& 31)).toBitVec).toInt = _
  rw [Int32.toBitVec_shiftRight, Int32.toBitVec_and]
  show ((BitVec.ofInt 32 x).sshiftRight' ((BitVec.ofInt 32 y &&& 31#32).smod 32#32)).toInt = _
  rw [bv_nat hx, bv_nat (x := y) (by omega)]
  show ((BitVec.ofNat 32 x.toNat).sshiftRight (((BitVec.ofNat 32 y.toNat &&& 31#32).smod 32#32).toNat)).toInt = _
  rw [sh_mod ⟨y.toNat, by omega⟩]
  show ((BitVec.ofNat 32 x.toNat).sshiftRight y.toNat).toInt = _
  rw [BitVec.toInt_sshiftRight, bv_toInt (by omega)]
  rfl
theorem suI_n {x y : Int} (hx : 0 ≤ x ∧ x < 2147483648) (hy : 0 ≤ y ∧ y < 32) : suI x y = ((x.toNat >>> y.toNat : Nat) : Int) := by
  unfold suI
  show (((Int32.ofInt x).toUInt32 >>> ((Int32.ofInt y).toUInt32 &&& Int32.toUInt32 31)).toBitVec).toInt = _
  rw [UInt32.toBitVec_shiftRight, UInt32.toBitVec_and]
  show (BitVec.ofInt 32 x >>> ((BitVec.ofInt 32 y &&& 31#32) % 32#32)).toInt = _
  rw [bv_nat hx, bv_nat (x := y) (by omega)]
  show (BitVec.ofNat 32 x.toNat >>> (((BitVec.ofNat 32 y.toNat &&& 31#32) % 32#32).toNat)).toInt = _
  rw [sh_umod ⟨y.toNat, by omega⟩]
  show (BitVec.ofNat 32 x.toNat >>> y.toNat).toInt = _
  have h1 := Nat.shiftRight_le x.toNat y.toNat
  have h2 : (BitVec.ofNat 32 x.toNat >>> y.toNat).toNat = x.toNat >>> y.toNat := by
    rw [BitVec.toNat_ushiftRight, BitVec.toNat_ofNat, Nat.mod_eq_of_lt (by omega)]
  rw [BitVec.toInt_eq_toNat_of_lt (by rw [h2]; omega), h2]
theorem slI1 : ∀ n : Fin 13, slI 1 (n.val : Int) = ((2 ^ n.val : Nat) : Int) := by decide +kernel
