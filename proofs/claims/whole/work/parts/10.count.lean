/-! Long.bitCount's walk, as numbers -/
def uV (x : Int64) : Nat := x.toUInt64.toNat
theorem uV_lt (x : Int64) : uV x < 18446744073709551616 := x.toUInt64.toNat_lt
theorem uV_and (x y : Int64) : uV (x &&& y) = uV x &&& uV y := by
  show (x.toUInt64 &&& y.toUInt64).toNat = _
  exact UInt64.toNat_and _ _
theorem uV_add (x y : Int64) : uV (x + y) = (uV x + uV y) % 18446744073709551616 := by
  show (x.toUInt64 + y.toUInt64).toNat = _
  exact UInt64.toNat_add _ _
theorem uV_sub {x y : Int64} (h : uV y ≤ uV x) : uV (x - y) = uV x - uV y := by
  show (x.toUInt64 - y.toUInt64).toNat = _
  exact UInt64.toNat_sub_of_le _ _ h
theorem uV_shr (x : Int64) (s : UInt64) {k : Nat} (hs : s.toNat % 64 = k) : uV (x.toUInt64 >>> s).toInt64 = uV x / 2 ^ k := by
  show (x.toUInt64 >>> s).toNat = _
  rw [UInt64.toNat_shiftRight, hs, Nat.shiftRight_eq_div_pow]
  rfl
theorem bM_85 : bM 85 8 = 6148914691236517205 := by decide +kernel
theorem bM_51 : bM 51 8 = 3689348814741910323 := by decide +kernel
theorem bM_15 : bM 15 8 = 1085102592571150095 := by decide +kernel
theorem bc_low (x : Int64) : x.toInt32 &&& 127 = nI (uV x % 128) := by
  rw [pk_and x.toInt32 (m := 127) 7 (by decide)]
  congr 1
  have e : x.toInt32.toBitVec.toNat = uV x % 2 ^ 32 := by
    show (x.toBitVec.signExtend 32).toNat = _
    rw [BitVec.signExtend_eq_setWidth_of_le _ (by decide), BitVec.toNat_setWidth]
    rfl
  rw [e]
  omega
theorem bc_all {x x1 x2 x3 x4 x5 x6 x7 x8 x9 x10 x11 x12 x13 x14 x15 x16 : Int64} {x17 x18 : Int32}
    (e1 : x1 = (x.toUInt64 >>> ((1 : Int32).toInt64.toUInt64 &&& Int64.toUInt64 63)).toInt64) (e2 : x2 = x1 &&& 6148914691236517205) (e3 : x3 = x - x2)
    (e4 : x4 = x3 &&& 3689348814741910323) (e5 : x5 = (x3.toUInt64 >>> ((2 : Int32).toInt64.toUInt64 &&& Int64.toUInt64 63)).toInt64) (e6 : x6 = x5 &&& 3689348814741910323) (e7 : x7 = x4 + x6)
    (e8 : x8 = (x7.toUInt64 >>> ((4 : Int32).toInt64.toUInt64 &&& Int64.toUInt64 63)).toInt64) (e9 : x9 = x7 + x8) (e10 : x10 = x9 &&& 1085102592571150095)
    (e11 : x11 = (x10.toUInt64 >>> ((8 : Int32).toInt64.toUInt64 &&& Int64.toUInt64 63)).toInt64) (e12 : x12 = x10 + x11)
    (e13 : x13 = (x12.toUInt64 >>> ((16 : Int32).toInt64.toUInt64 &&& Int64.toUInt64 63)).toInt64) (e14 : x14 = x12 + x13)
    (e15 : x15 = (x14.toUInt64 >>> ((32 : Int32).toInt64.toUInt64 &&& Int64.toUInt64 63)).toInt64) (e16 : x16 = x14 + x15) (e17 : x17 = x16.toInt32) (e18 : x18 = x17 &&& 127) : x18 = nI (pcN 64 (x.toUInt64.toNat)) := by
  have c5 : uV (6148914691236517205 : Int64) = bM 85 8 := by rw [bM_85]; rfl
  have c3 : uV (3689348814741910323 : Int64) = bM 51 8 := by rw [bM_51]; rfl
  have cf : uV (1085102592571150095 : Int64) = bM 15 8 := by rw [bM_15]; rfl
  have u2 : uV x2 = (uV x / 2) &&& bM 85 8 := by rw [e2, uV_and, c5, e1, uV_shr x _ (k := 1) (by decide)]
  have l2 : uV x2 ≤ uV x := by
    rw [u2]
    exact Nat.le_trans Nat.and_le_left (Nat.div_le_self _ _)
  have u3 : uV x3 = bf1 (bM 85 8) (uV x) := by rw [e3, uV_sub l2, u2]; rfl
  have u4 : uV x4 = uV x3 &&& bM 51 8 := by rw [e4, uV_and, c3]
  have u6 : uV x6 = (uV x3 / 4) &&& bM 51 8 := by rw [e6, uV_and, c3, e5, uV_shr x3 _ (k := 2) (by decide)]
  have l4 : uV x4 ≤ 3689348814741910323 := by rw [u4, bM_51]; exact Nat.and_le_right
  have l6 : uV x6 ≤ 3689348814741910323 := by rw [u6, bM_51]; exact Nat.and_le_right
  have u7 : uV x7 = bf2 (bM 51 8) (uV x3) := by
    rw [e7, uV_add, Nat.mod_eq_of_lt (by omega), u4, u6]; rfl
  have l7 : uV x7 ≤ 7378697629483820646 := by rw [e7, uV_add, Nat.mod_eq_of_lt (by omega)]; omega
  have u8 : uV x8 = uV x7 / 16 := by rw [e8, uV_shr x7 _ (k := 4) (by decide)]
  have u9 : uV x9 = uV x7 + uV x7 / 16 := by
    rw [e9, uV_add, u8, Nat.mod_eq_of_lt (by omega)]
  have u10 : uV x10 = bG 8 (uV x) := by
    rw [e10, uV_and, cf, u9, u7, u3]; rfl
  have l10 : uV x10 ≤ 1085102592571150095 := by rw [e10, uV_and, cf, bM_15]; exact Nat.and_le_right
  have u11 : uV x11 = uV x10 / 256 := by rw [e11, uV_shr x10 _ (k := 8) (by decide)]
  have u12 : uV x12 = uV x10 + uV x10 / 256 := by rw [e12, uV_add, u11, Nat.mod_eq_of_lt (by omega)]
  have u13 : uV x13 = uV x12 / 65536 := by rw [e13, uV_shr x12 _ (k := 16) (by decide)]
  obtain ⟨b3, b2, b1, hr⟩ := b_fold (uV x) (uV x10) (uV x12) (uV x12 + uV x12 / 65536) (uV x12 + uV x12 / 65536 + (uV x12 + uV x12 / 65536) / 4294967296) u10 u12 rfl rfl
  have u14 : uV x14 = uV x12 + uV x12 / 65536 := by rw [e14, uV_add, u13, Nat.mod_eq_of_lt b2]
  have u15 : uV x15 = uV x14 / 4294967296 := by rw [e15, uV_shr x14 _ (k := 32) (by decide)]
  have u16 : uV x16 = uV x12 + uV x12 / 65536 + (uV x12 + uV x12 / 65536) / 4294967296 := by rw [e16, uV_add, u15, u14, Nat.mod_eq_of_lt b3]
  rw [e18, e17, bc_low, u16, hr]
  rfl
theorem nI_pred_add (z : Nat) : nI (z + 1) + Int32.ofInt (-1) = nI z := pk_m1 z
