/-! whole numbers for the machine's words. Own work. -/
theorem bm32 (z : Int) : z.bmod 4294967296 = wr z := by
  unfold wr
  rw [Int.bmod_def]
  split <;> omega
theorem bm64 (z : Int) : z.bmod 18446744073709551616 = wl z := by
  unfold wl
  rw [Int.bmod_def]
  split <;> omega
theorem bm8 (z : Int) : z.bmod 256 = wb z := by
  unfold wb
  rw [Int.bmod_def]
  split <;> omega
theorem bm16 (z : Int) : z.bmod 65536 = wsh z := by
  unfold wsh
  rw [Int.bmod_def]
  split <;> omega
theorem wr_id {z : Int} (h : iR z) : wr z = z := by unfold iR at h; unfold wr; omega
theorem wl_id {z : Int} (h : lR z) : wl z = z := by unfold lR at h; unfold wl; omega
theorem wr_R (z : Int) : iR (wr z) := by unfold iR wr; omega
theorem wl_R (z : Int) : lR (wl z) := by unfold lR wl; omega
theorem wb_R (z : Int) : iR (wb z) := by unfold iR wb; omega
theorem wsh_R (z : Int) : iR (wsh z) := by unfold iR wsh; omega
theorem wr_wr (z : Int) : wr (wr z) = wr z := wr_id (wr_R z)
theorem wl_wl (z : Int) : wl (wl z) = wl z := wl_id (wl_R z)
theorem toI32 (z : Int) : (Int32.ofInt z).toInt = wr z := by rw [Int32.toInt_ofInt]; exact bm32 z
theorem toI64 (z : Int) : (Int64.ofInt z).toInt = wl z := by rw [Int64.toInt_ofInt]; exact bm64 z
theorem tI {z : Int} (h : iR z) : (Int32.ofInt z).toInt = z := by rw [toI32, wr_id h]
theorem tL {z : Int} (h : lR z) : (Int64.ofInt z).toInt = z := by rw [toI64, wl_id h]
theorem ofw (z : Int) : Int32.ofInt (wr z) = Int32.ofInt z := Int32.toInt_inj.1 (by rw [toI32, toI32, wr_wr])
theorem ofwl (z : Int) : Int64.ofInt (wl z) = Int64.ofInt z := Int64.toInt_inj.1 (by rw [toI64, toI64, wl_wl])
theorem toInt_R (x : Int32) : iR x.toInt := by
  have h1 := x.toInt_lt
  have h2 := x.le_toInt
  unfold iR
  omega
theorem toInt_LR (x : Int64) : lR x.toInt := by
  have h1 := x.toInt_lt
  have h2 := x.le_toInt
  unfold lR
  omega
theorem n_add (x y : Int) : Int32.ofInt x + Int32.ofInt y = Int32.ofInt (wr (x + y)) := by rw [ofw, Int32.ofInt_add]
theorem n_sub (x y : Int) : Int32.ofInt x - Int32.ofInt y = Int32.ofInt (wr (x - y)) := by rw [ofw, Int32.ofInt_sub]
theorem n_mul (x y : Int) : Int32.ofInt x * Int32.ofInt y = Int32.ofInt (wr (x * y)) := by rw [ofw, Int32.ofInt_mul]
theorem n_neg (x : Int) : -Int32.ofInt x = Int32.ofInt (wr (-x)) := by rw [ofw, Int32.ofInt_neg]
theorem n_div {x y : Int} (hx : iR x) (hy : iR y) : Int32.ofInt x / Int32.ofInt y = Int32.ofInt (wr (x.tdiv y)) := by
  refine Int32.toInt_inj.1 ?_
  rw [Int32.toInt_div, tI hx, tI hy, toI32, wr_wr]
  exact bm32 _
theorem n_rem {x y : Int} (hx : iR x) (hy : iR y) : Int32.ofInt x - Int32.ofInt x / Int32.ofInt y * Int32.ofInt y = Int32.ofInt (x.tmod y) := by
  rw [n_div hx hy, n_mul, n_sub, ofw]
  refine Int32.toInt_inj.1 ?_
  rw [toI32, toI32, Int.tmod_def, Int.mul_comm]
  have h1 : wr (wr (x.tdiv y) * y) = wr (x.tdiv y * y) := by
    have := n_mul (wr (x.tdiv y)) y
    rw [ofw, n_mul] at this
    have h2 := congrArg Int32.toInt this
    rw [toI32, toI32, wr_wr, wr_wr] at h2
    exact h2.symm
  rw [Int.mul_comm, h1, Int.mul_comm]
  unfold wr
  omega
theorem tmod_R {x y : Int} (hx : iR x) (hy : iR y) : iR (x.tmod y) := by
  have h := rem_toInt (Int32.ofInt x) (Int32.ofInt y)
  rw [tI hx, tI hy] at h
  rw [← h]
  exact toInt_R _
theorem l_add (x y : Int) : Int64.ofInt x + Int64.ofInt y = Int64.ofInt (wl (x + y)) := by rw [ofwl, Int64.ofInt_add]
theorem l_sub (x y : Int) : Int64.ofInt x - Int64.ofInt y = Int64.ofInt (wl (x - y)) := by rw [ofwl, Int64.ofInt_sub]
theorem l_mul (x y : Int) : Int64.ofInt x * Int64.ofInt y = Int64.ofInt (wl (x * y)) := by rw [ofwl, Int64.ofInt_mul]
theorem l_neg (x : Int) : -Int64.ofInt x = Int64.ofInt (wl (-x)) := by rw [ofwl, Int64.ofInt_neg]
theorem l_div {x y : Int} (hx : lR x) (hy : lR y) : Int64.ofInt x / Int64.ofInt y = Int64.ofInt (wl (x.tdiv y)) := by
  refine Int64.toInt_inj.1 ?_
  rw [Int64.toInt_div, tL hx, tL hy, toI64, wl_wl]
  exact bm64 _
theorem n_lt {x y : Int} (hx : iR x) (hy : iR y) : Int32.ofInt x < Int32.ofInt y ↔ x < y := by rw [Int32.lt_iff_toInt_lt, tI hx, tI hy]
theorem n_le {x y : Int} (hx : iR x) (hy : iR y) : Int32.ofInt x ≤ Int32.ofInt y ↔ x ≤ y := by rw [Int32.le_iff_toInt_le, tI hx, tI hy]
theorem n_eq {x y : Int} (hx : iR x) (hy : iR y) : Int32.ofInt x = Int32.ofInt y ↔ x = y := by rw [← Int32.toInt_inj, tI hx, tI hy]
theorem l_lt {x y : Int} (hx : lR x) (hy : lR y) : Int64.ofInt x < Int64.ofInt y ↔ x < y := by rw [Int64.lt_iff_toInt_lt, tL hx, tL hy]
theorem l_eq {x y : Int} (hx : lR x) (hy : lR y) : Int64.ofInt x = Int64.ofInt y ↔ x = y := by rw [← Int64.toInt_inj, tL hx, tL hy]
theorem z0 : (0 : Int32) = Int32.ofInt 0 := rfl
theorem z0l : (0 : Int64) = Int64.ofInt 0 := rfl
theorem iR0 : iR 0 := by unfold iR; omega
theorem lR0 : lR 0 := by unfold lR; omega
theorem n_nz {y : Int} (hy : iR y) (h : y ≠ 0) : ¬ Int32.ofInt y = 0 := by rw [z0, n_eq hy iR0]; exact h
theorem l_nz {y : Int} (hy : lR y) (h : y ≠ 0) : ¬ Int64.ofInt y = 0 := by rw [z0l, l_eq hy lR0]; exact h
theorem n_cl {i : Int} (hi : iR i) : (Int32.ofInt i).toNatClampNeg = i.toNat := by rw [← Int32.toNat_toInt, tI hi]
theorem n_in {i : Int} {m : Nat} (hi : iR i) (h0 : 0 ≤ i) (h1 : i < (m : Int)) : vp_in (Int32.ofInt i) m := by
  unfold vp_in
  rw [n_cl hi, z0, n_lt hi iR0]
  omega
theorem n_i2l {x : Int} (hx : iR x) : (Int32.ofInt x).toInt64 = Int64.ofInt x := by
  refine Int64.toInt_inj.1 ?_
  rw [Int32.toInt_toInt64, tI hx, tL (by unfold iR at hx; unfold lR; omega)]
theorem n_l2i {x : Int} (hx : lR x) : (Int64.ofInt x).toInt32 = Int32.ofInt (wr x) := by
  refine Int32.toInt_inj.1 ?_
  rw [Int64.toInt_toInt32, tL hx, toI32, wr_wr]
  exact bm32 _
theorem n_i2b {x : Int} (hx : iR x) : (Int32.ofInt x).toInt8.toInt32 = Int32.ofInt (wb x) := by
  refine Int32.toInt_inj.1 ?_
  rw [Int8.toInt_toInt32, Int32.toInt_toInt8, tI hx, tI (wb_R x)]
  exact bm8 _
theorem n_i2s {x : Int} (hx : iR x) : (Int32.ofInt x).toInt16.toInt32 = Int32.ofInt (wsh x) := by
  refine Int32.toInt_inj.1 ?_
  rw [Int16.toInt_toInt32, Int32.toInt_toInt16, tI hx, tI (wsh_R x)]
  exact bm16 _
theorem n_i2c {x : Int} (hx : iR x) : ((Int32.ofInt x).toUInt32 % 65536).toInt32 = Int32.ofInt (x % 65536) := by
  refine Int32.toInt_inj.1 ?_
  have h1 : (Int32.ofInt x).toUInt32.toNat = (x % 4294967296).toNat := by
    show (Int32.ofInt x).toBitVec.toNat = _
    rw [Int32.toBitVec_ofInt, BitVec.toNat_ofInt]
    rfl
  have h2 : ((Int32.ofInt x).toUInt32 % 65536).toNat = (x % 65536).toNat := by
    rw [UInt32.toNat_mod, h1]
    show (x % 4294967296).toNat % 65536 = _
    omega
  rw [tI (by unfold iR; omega)]
  have h3 : ((Int32.ofInt x).toUInt32 % 65536).toInt32.toInt = (((Int32.ofInt x).toUInt32 % 65536).toNat : Int).bmod 4294967296 := by
    show BitVec.toInt _ = _
    rw [BitVec.toInt_eq_toNat_bmod]
    rfl
  rw [h3, h2, bm32, wr_id (by unfold iR; omega)]
  omega
theorem n_cmp {x y : Int} (hx : lR x) (hy : lR y) : lg_cmp (Int64.ofInt x) (Int64.ofInt y) = Int32.ofInt (lcm x y) := by
  unfold lg_cmp lcm
  by_cases h1 : x < y
  · rw [if_neg (by rw [gt_iff_lt, l_lt hy hx]; omega), if_neg (by rw [l_eq hx hy]; omega), if_pos h1]
    rfl
  · by_cases h2 : x = y
    · rw [if_neg (by rw [gt_iff_lt, l_lt hy hx]; omega), if_pos (by rw [l_eq hx hy]; exact h2), if_neg h1, if_pos h2]
      rfl
    · rw [if_pos (by rw [gt_iff_lt, l_lt hy hx]; omega), if_neg h1, if_neg h2]
      rfl
theorem lcm_R (x y : Int) : iR (lcm x y) := by
  unfold lcm iR
  split
  · omega
  · split <;> omega
theorem bi_b (x y : Int) : Int32.ofInt x &&& Int32.ofInt y = Int32.ofInt (bI x y) := (Int32.ofInt_toInt _).symm
theorem bi_o (x y : Int) : Int32.ofInt x ||| Int32.ofInt y = Int32.ofInt (oI x y) := (Int32.ofInt_toInt _).symm
theorem bi_x (x y : Int) : Int32.ofInt x ^^^ Int32.ofInt y = Int32.ofInt (xI x y) := (Int32.ofInt_toInt _).symm
theorem bi_sl (x y : Int) : Int32.ofInt x <<< (Int32.ofInt y &&& 31) = Int32.ofInt (slI x y) := (Int32.ofInt_toInt _).symm
theorem bi_sr (x y : Int) : Int32.ofInt x >>> (Int32.ofInt y &&& 31) = Int32.ofInt (srI x y) := (Int32.ofInt_toInt _).symm
theorem bi_su (x y : Int) : ((Int32.ofInt x).toUInt32 >>> ((Int32.ofInt y).toUInt32 &&& Int32.toUInt32 31)).toInt32 = Int32.ofInt (suI x y) := (Int32.ofInt_toInt _).symm
theorem bl_b (x y : Int) : Int64.ofInt x &&& Int64.ofInt y = Int64.ofInt (bL x y) := (Int64.ofInt_toInt _).symm
theorem bl_o (x y : Int) : Int64.ofInt x ||| Int64.ofInt y = Int64.ofInt (oL x y) := (Int64.ofInt_toInt _).symm
theorem bl_sl (x y : Int) : Int64.ofInt x <<< ((Int32.ofInt y).toInt64 &&& 63) = Int64.ofInt (slL x y) := (Int64.ofInt_toInt _).symm
theorem bl_sr (x y : Int) : Int64.ofInt x >>> ((Int32.ofInt y).toInt64 &&& 63) = Int64.ofInt (srL x y) := (Int64.ofInt_toInt _).symm
