/-! the bits of a long, all -/
theorem by8 (n : Nat) (h : n < 18446744073709551616) : n = ((n / 1 % 256) + 256 * ((n / 256 % 256) + 256 * ((n / 65536 % 256) + 256 * ((n / 16777216 % 256) + 256 * ((n / 4294967296 % 256) + 256 * ((n / 1099511627776 % 256) + 256 * ((n / 281474976710656 % 256) + 256 * ((n / 72057594037927936 % 256) + 256 * 0)))))))) := by omega
def bc1 (x : Int64) : Int64 := x - ((x.toUInt64 >>> ((iI 1).toInt64.toUInt64 &&& Int64.toUInt64 63)).toInt64 &&& iL 6148914691236517205)
def bc2 (x : Int64) : Int64 := (x &&& iL 3689348814741910323) + ((x.toUInt64 >>> ((iI 2).toInt64.toUInt64 &&& Int64.toUInt64 63)).toInt64 &&& iL 3689348814741910323)
def bc3 (x : Int64) : Int64 := (x + (x.toUInt64 >>> ((iI 4).toInt64.toUInt64 &&& Int64.toUInt64 63)).toInt64) &&& iL 1085102592571150095
def bcs (s : Int) (x : Int64) : Int64 := x + (x.toUInt64 >>> ((iI s).toInt64.toUInt64 &&& Int64.toUInt64 63)).toInt64
def n64 (x : Int64) : Nat := x.toBitVec.toNat
theorem n64_lt (x : Int64) : n64 x < 18446744073709551616 := x.toBitVec.isLt
theorem n64_s1 (x : Int64) : n64 (x.toUInt64 >>> ((iI 1).toInt64.toUInt64 &&& Int64.toUInt64 63)).toInt64 = n64 x / 2 := by
  have e : (iI 1).toInt64.toUInt64 &&& Int64.toUInt64 63 = 1 := by decide
  rw [e]
  show (x.toBitVec >>> ((1 : UInt64).toBitVec % 64)).toNat = _
  rw [show ((1 : UInt64).toBitVec % 64) = 1#64 from by decide, BitVec.ushiftRight_eq', BitVec.toNat_ushiftRight, show (1#64).toNat = 1 from by decide, Nat.shiftRight_eq_div_pow]
  rfl
theorem n64_s2 (x : Int64) : n64 (x.toUInt64 >>> ((iI 2).toInt64.toUInt64 &&& Int64.toUInt64 63)).toInt64 = n64 x / 4 := by
  have e : (iI 2).toInt64.toUInt64 &&& Int64.toUInt64 63 = 2 := by decide
  rw [e]
  show (x.toBitVec >>> ((2 : UInt64).toBitVec % 64)).toNat = _
  rw [show ((2 : UInt64).toBitVec % 64) = 2#64 from by decide, BitVec.ushiftRight_eq', BitVec.toNat_ushiftRight, show (2#64).toNat = 2 from by decide, Nat.shiftRight_eq_div_pow]
  rfl
theorem n64_s4 (x : Int64) : n64 (x.toUInt64 >>> ((iI 4).toInt64.toUInt64 &&& Int64.toUInt64 63)).toInt64 = n64 x / 16 := by
  have e : (iI 4).toInt64.toUInt64 &&& Int64.toUInt64 63 = 4 := by decide
  rw [e]
  show (x.toBitVec >>> ((4 : UInt64).toBitVec % 64)).toNat = _
  rw [show ((4 : UInt64).toBitVec % 64) = 4#64 from by decide, BitVec.ushiftRight_eq', BitVec.toNat_ushiftRight, show (4#64).toNat = 4 from by decide, Nat.shiftRight_eq_div_pow]
  rfl
theorem n64_s8 (x : Int64) : n64 (x.toUInt64 >>> ((iI 8).toInt64.toUInt64 &&& Int64.toUInt64 63)).toInt64 = n64 x / 256 := by
  have e : (iI 8).toInt64.toUInt64 &&& Int64.toUInt64 63 = 8 := by decide
  rw [e]
  show (x.toBitVec >>> ((8 : UInt64).toBitVec % 64)).toNat = _
  rw [show ((8 : UInt64).toBitVec % 64) = 8#64 from by decide, BitVec.ushiftRight_eq', BitVec.toNat_ushiftRight, show (8#64).toNat = 8 from by decide, Nat.shiftRight_eq_div_pow]
  rfl
theorem n64_s16 (x : Int64) : n64 (x.toUInt64 >>> ((iI 16).toInt64.toUInt64 &&& Int64.toUInt64 63)).toInt64 = n64 x / 65536 := by
  have e : (iI 16).toInt64.toUInt64 &&& Int64.toUInt64 63 = 16 := by decide
  rw [e]
  show (x.toBitVec >>> ((16 : UInt64).toBitVec % 64)).toNat = _
  rw [show ((16 : UInt64).toBitVec % 64) = 16#64 from by decide, BitVec.ushiftRight_eq', BitVec.toNat_ushiftRight, show (16#64).toNat = 16 from by decide, Nat.shiftRight_eq_div_pow]
  rfl
theorem n64_s32 (x : Int64) : n64 (x.toUInt64 >>> ((iI 32).toInt64.toUInt64 &&& Int64.toUInt64 63)).toInt64 = n64 x / 4294967296 := by
  have e : (iI 32).toInt64.toUInt64 &&& Int64.toUInt64 63 = 32 := by decide
  rw [e]
  show (x.toBitVec >>> ((32 : UInt64).toBitVec % 64)).toNat = _
  rw [show ((32 : UInt64).toBitVec % 64) = 32#64 from by decide, BitVec.ushiftRight_eq', BitVec.toNat_ushiftRight, show (32#64).toNat = 32 from by decide, Nat.shiftRight_eq_div_pow]
  rfl
theorem n64_and (x y : Int64) : n64 (x &&& y) = n64 x &&& n64 y := by
  show (x &&& y).toBitVec.toNat = _
  rw [Int64.toBitVec_and, BitVec.toNat_and]
  rfl
theorem n64_add (x y : Int64) (h : n64 x + n64 y < 18446744073709551616) : n64 (x + y) = n64 x + n64 y := by
  show (x + y).toBitVec.toNat = _
  rw [Int64.toBitVec_add, BitVec.toNat_add]
  exact Nat.mod_eq_of_lt h
theorem n64_sub (x y : Int64) (h : n64 y ≤ n64 x) : n64 (x - y) = n64 x - n64 y := by
  show (x - y).toBitVec.toNat = _
  rw [Int64.toBitVec_sub, BitVec.toNat_sub]
  have h1 := n64_lt x
  unfold n64 at h h1 ⊢
  omega
theorem n64_m85 : n64 (iL 6148914691236517205) = 6148914691236517205 := by decide
theorem n64_m51 : n64 (iL 3689348814741910323) = 3689348814741910323 := by decide
theorem n64_m15 : n64 (iL 1085102592571150095) = 1085102592571150095 := by decide
theorem bc_gen {a0 a1 a2 a3 a4 a5 a6 a7 : Nat} (h0 : a0 < 256) (h1 : a1 < 256) (h2 : a2 < 256) (h3 : a3 < 256) (h4 : a4 < 256) (h5 : a5 < 256) (h6 : a6 < 256) (h7 : a7 < 256) (x : Int64) (hx : n64 x = (a0 + 256 * (a1 + 256 * (a2 + 256 * (a3 + 256 * (a4 + 256 * (a5 + 256 * (a6 + 256 * (a7 + 256 * 0))))))))) : n64 (bcs 32 (bcs 16 (bcs 8 (bc3 (bc2 (bc1 x)))))) % 128 = p8c a0 + p8c a1 + p8c a2 + p8c a3 + p8c a4 + p8c a5 + p8c a6 + p8c a7 := by
  have hle := bw1_le h0 h1 h2 h3 h4 h5 h6 h7
  have e1 := bw1 h0 h1 h2 h3 h4 h5 h6 h7
  have e2 := bw2 h0 h1 h2 h3 h4 h5 h6 h7
  have e3 := bw3 h0 h1 h2 h3 h4 h5 h6 h7
  obtain ⟨-, -, c0, d0, l0, f0⟩ := p8 h0
  obtain ⟨-, -, c1, d1, l1, f1⟩ := p8 h1
  obtain ⟨-, -, c2, d2, l2, f2⟩ := p8 h2
  obtain ⟨-, -, c3, d3, l3, f3⟩ := p8 h3
  obtain ⟨-, -, c4, d4, l4, f4⟩ := p8 h4
  obtain ⟨-, -, c5, d5, l5, f5⟩ := p8 h5
  obtain ⟨-, -, c6, d6, l6, f6⟩ := p8 h6
  obtain ⟨-, -, c7, d7, l7, f7⟩ := p8 h7
  have i0 : p8c a0 ≤ 8 := by clear hle e1 e2 e3 hx; omega
  have i1 : p8c a1 ≤ 8 := by clear hle e1 e2 e3 hx; omega
  have i2 : p8c a2 ≤ 8 := by clear hle e1 e2 e3 hx; omega
  have i3 : p8c a3 ≤ 8 := by clear hle e1 e2 e3 hx; omega
  have i4 : p8c a4 ≤ 8 := by clear hle e1 e2 e3 hx; omega
  have i5 : p8c a5 ≤ 8 := by clear hle e1 e2 e3 hx; omega
  have i6 : p8c a6 ≤ 8 := by clear hle e1 e2 e3 hx; omega
  have i7 : p8c a7 ≤ 8 := by clear hle e1 e2 e3 hx; omega
  have b2 : (p8b a0 + 256 * (p8b a1 + 256 * (p8b a2 + 256 * (p8b a3 + 256 * (p8b a4 + 256 * (p8b a5 + 256 * (p8b a6 + 256 * (p8b a7 + 256 * 0)))))))) < 18446744073709551616 := by clear hle e1 e2 e3 hx; omega
  have v1 : n64 (bc1 x) = (p8a a0 + 256 * (p8a a1 + 256 * (p8a a2 + 256 * (p8a a3 + 256 * (p8a a4 + 256 * (p8a a5 + 256 * (p8a a6 + 256 * (p8a a7 + 256 * 0)))))))) := by
    unfold bc1
    rw [n64_sub _ _ (by rw [n64_and, n64_s1, n64_m85, hx]; exact hle), n64_and, n64_s1, n64_m85, hx]
    exact e1
  have v2 : n64 (bc2 (bc1 x)) = (p8b a0 + 256 * (p8b a1 + 256 * (p8b a2 + 256 * (p8b a3 + 256 * (p8b a4 + 256 * (p8b a5 + 256 * (p8b a6 + 256 * (p8b a7 + 256 * 0)))))))) := by
    unfold bc2
    rw [n64_add _ _ (by rw [n64_and, n64_and, n64_s2, n64_m51, v1, e2]; exact b2), n64_and, n64_and, n64_s2, n64_m51, v1]
    exact e2
  have b3 : (p8b a0 + 256 * (p8b a1 + 256 * (p8b a2 + 256 * (p8b a3 + 256 * (p8b a4 + 256 * (p8b a5 + 256 * (p8b a6 + 256 * (p8b a7 + 256 * 0)))))))) + (p8b a0 + 256 * (p8b a1 + 256 * (p8b a2 + 256 * (p8b a3 + 256 * (p8b a4 + 256 * (p8b a5 + 256 * (p8b a6 + 256 * (p8b a7 + 256 * 0)))))))) / 16 < 18446744073709551616 := by clear hle e1 e2 e3 hx v1 v2 f0 i0 f1 i1 f2 i2 f3 i3 f4 i4 f5 i5 f6 i6 f7 i7; omega
  have v3 : n64 (bc3 (bc2 (bc1 x))) = (p8c a0 + 256 * (p8c a1 + 256 * (p8c a2 + 256 * (p8c a3 + 256 * (p8c a4 + 256 * (p8c a5 + 256 * (p8c a6 + 256 * (p8c a7 + 256 * 0)))))))) := by
    unfold bc3
    rw [n64_and, n64_add _ _ (by rw [n64_s4, v2]; exact b3), n64_s4, n64_m15, v2]
    exact e3
  obtain ⟨P, Q, S, hP, hQ, hS, hlt, hmod, hPl, hQl⟩ := bw4 i0 i1 i2 i3 i4 i5 i6 i7
  have v4 : n64 (bcs 8 (bc3 (bc2 (bc1 x)))) = P := by
    show n64 (_ + _) = P
    rw [n64_add _ _ (by rw [n64_s8, v3, ← hP]; exact hPl), n64_s8, v3, hP]
  have v5 : n64 (bcs 16 (bcs 8 (bc3 (bc2 (bc1 x))))) = Q := by
    show n64 (_ + _) = Q
    rw [n64_add _ _ (by rw [n64_s16, v4, ← hQ]; exact hQl), n64_s16, v4, hQ]
  have v6 : n64 (bcs 32 (bcs 16 (bcs 8 (bc3 (bc2 (bc1 x)))))) = S := by
    show n64 (_ + _) = S
    rw [n64_add _ _ (by rw [n64_s32, v5, ← hS]; exact hlt), n64_s32, v5, hS]
  rw [v6, hmod]
