/-! Long.bitCount's own arithmetic, on longs -/
def bu (x : Int64) : Nat := x.toUInt64.toNat
theorem bu_lt (x : Int64) : bu x < 18446744073709551616 := x.toUInt64.toNat_lt
theorem bu_add {x y : Int64} (h : bu x + bu y < 18446744073709551616) : bu (x + y) = bu x + bu y := by
  show (x.toUInt64 + y.toUInt64).toNat = _
  rw [UInt64.toNat_add]
  exact Nat.mod_eq_of_lt h
theorem bu_sub {x y : Int64} (h : bu y ≤ bu x) : bu (x - y) = bu x - bu y := by
  show (x.toUInt64 - y.toUInt64).toNat = _
  exact UInt64.toNat_sub_of_le _ _ (UInt64.le_iff_toNat_le.mpr h)
theorem bu_and (x y : Int64) : bu (x &&& y) = bu x &&& bu y := UInt64.toNat_and _ _
theorem bu_shr (x : Int64) (s : UInt64) {k : Nat} (h : s.toNat % 64 = k) : bu (x.toUInt64 >>> s).toInt64 = bu x / 2 ^ k := by
  show (x.toUInt64 >>> s).toNat = _
  rw [UInt64.toNat_shiftRight, Nat.shiftRight_eq_div_pow, h]
  rfl
theorem bu_c (x : Int64) (n : Nat) : bw_c x n = bp_c (bu x) n := by
  induction n with
  | zero => rfl
  | succ n ih =>
    show bw_c x n + (bw_m x n).toNat = bp_c (bu x) n + ((bu x).testBit n).toNat
    rw [ih]; rfl
theorem bu_low (x : Int64) : x.toInt32 &&& 127 = nI (bu x % 128) := by
  rw [pk_and x.toInt32 (m := 127) 7 (by decide)]
  congr 1
  rw [Int64.toBitVec_toInt32]
  have : (BitVec.signExtend 32 x.toBitVec).toNat = bu x % 2 ^ 32 := by
    rw [BitVec.signExtend_eq_setWidth_of_le _ (by decide), BitVec.toNat_setWidth]; rfl
  rw [this]
  omega
theorem bw_pop {x x1 x2 x3 y1 y2 y3 : Int64} (e1 : x1 = x - ((x.toUInt64 >>> ((1 : Int32).toInt64.toUInt64 &&& Int64.toUInt64 63)).toInt64 &&& 6148914691236517205))
    (e2 : x2 = (x1 &&& 3689348814741910323) + ((x1.toUInt64 >>> ((2 : Int32).toInt64.toUInt64 &&& Int64.toUInt64 63)).toInt64 &&& 3689348814741910323))
    (e3 : x3 = (x2 + (x2.toUInt64 >>> ((4 : Int32).toInt64.toUInt64 &&& Int64.toUInt64 63)).toInt64) &&& 1085102592571150095)
    (f1 : y1 = x3 + (x3.toUInt64 >>> ((8 : Int32).toInt64.toUInt64 &&& Int64.toUInt64 63)).toInt64) (f2 : y2 = y1 + (y1.toUInt64 >>> ((16 : Int32).toInt64.toUInt64 &&& Int64.toUInt64 63)).toInt64)
    (f3 : y3 = y2 + (y2.toUInt64 >>> ((32 : Int32).toInt64.toUInt64 &&& Int64.toUInt64 63)).toInt64) : y3.toInt32 &&& 127 = nI (bw_c x 64) := by
  obtain ⟨h1, h2, h3, h4, h5, h6, h7⟩ := bp_all (bu_lt x) rfl rfl rfl rfl rfl rfl
  have m1 : bu 6148914691236517205 = 6148914691236517205 := by decide +kernel
  have m2 : bu 3689348814741910323 = 3689348814741910323 := by decide +kernel
  have m3 : bu 1085102592571150095 = 1085102592571150095 := by decide +kernel
  have s1 : bu (x.toUInt64 >>> ((1 : Int32).toInt64.toUInt64 &&& Int64.toUInt64 63)).toInt64 = bu x / 2 := bu_shr x _ (k := 1) (by decide +kernel)
  have g1 : bu x1 = bu x - ((bu x / 2) &&& 6148914691236517205) := by
    rw [e1, bu_sub (by rw [bu_and, s1, m1]; exact h2), bu_and, s1, m1]
  rw [← g1] at h1 h3 h4 h5 h6 h7
  have s2 : bu (x1.toUInt64 >>> ((2 : Int32).toInt64.toUInt64 &&& Int64.toUInt64 63)).toInt64 = bu x1 / 4 := bu_shr x1 _ (k := 2) (by decide +kernel)
  have g2 : bu x2 = (bu x1 &&& 3689348814741910323) + ((bu x1 / 4) &&& 3689348814741910323) := by
    rw [e2, bu_add (by rw [bu_and, bu_and, s2, m2]; exact h3), bu_and, bu_and, s2, m2]
  rw [← g2] at h1 h4 h5 h6 h7
  have s3 : bu (x2.toUInt64 >>> ((4 : Int32).toInt64.toUInt64 &&& Int64.toUInt64 63)).toInt64 = bu x2 / 16 := bu_shr x2 _ (k := 4) (by decide +kernel)
  have g3 : bu x3 = (bu x2 + bu x2 / 16) &&& 1085102592571150095 := by
    rw [e3, bu_and, bu_add (by rw [s3]; exact h4), s3, m3]
  rw [← g3] at h1 h5 h6 h7
  have s4 : bu (x3.toUInt64 >>> ((8 : Int32).toInt64.toUInt64 &&& Int64.toUInt64 63)).toInt64 = bu x3 / 256 := bu_shr x3 _ (k := 8) (by decide +kernel)
  have k1 : bu y1 = bu x3 + bu x3 / 256 := by rw [f1, bu_add (by rw [s4]; exact h5), s4]
  rw [← k1] at h1 h6 h7
  have s5 : bu (y1.toUInt64 >>> ((16 : Int32).toInt64.toUInt64 &&& Int64.toUInt64 63)).toInt64 = bu y1 / 65536 := bu_shr y1 _ (k := 16) (by decide +kernel)
  have k2 : bu y2 = bu y1 + bu y1 / 65536 := by rw [f2, bu_add (by rw [s5]; exact h6), s5]
  rw [← k2] at h1 h7
  have s6 : bu (y2.toUInt64 >>> ((32 : Int32).toInt64.toUInt64 &&& Int64.toUInt64 63)).toInt64 = bu y2 / 4294967296 := bu_shr y2 _ (k := 32) (by decide +kernel)
  have k3 : bu y3 = bu y2 + bu y2 / 4294967296 := by rw [f3, bu_add (by rw [s6]; exact h7), s6]
  rw [← k3] at h1
  rw [bu_low, h1, bu_c]
