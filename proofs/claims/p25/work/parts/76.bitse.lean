/-! the bits of a long, counted -/
theorem gg0 (n : Nat) : p8c (n / 1 % 256) = n / 1 % 2 + n / 2 % 2 + n / 4 % 2 + n / 8 % 2 + n / 16 % 2 + n / 32 % 2 + n / 64 % 2 + n / 128 % 2 := by
  rw [(p8 (a := n / 1 % 256) (Nat.mod_lt _ (by decide))).2.2.2.2.2, zz0 n, zz1 n, zz2 n, zz3 n, zz4 n, zz5 n, zz6 n, zz7 n]
theorem gi0 {n : Nat} {f : Nat → Int} (h : ∀ k : Nat, k < 64 → ((n / 2 ^ k % 2 : Nat) : Int) = f k) : ((p8c (n / 1 % 256) : Nat) : Int) = f 0 + f 1 + f 2 + f 3 + f 4 + f 5 + f 6 + f 7 := by
  rw [gg0 n]
  have h0 : ((n / 1 % 2 : Nat) : Int) = f 0 := h 0 (by decide)
  have h1 : ((n / 2 % 2 : Nat) : Int) = f 1 := h 1 (by decide)
  have h2 : ((n / 4 % 2 : Nat) : Int) = f 2 := h 2 (by decide)
  have h3 : ((n / 8 % 2 : Nat) : Int) = f 3 := h 3 (by decide)
  have h4 : ((n / 16 % 2 : Nat) : Int) = f 4 := h 4 (by decide)
  have h5 : ((n / 32 % 2 : Nat) : Int) = f 5 := h 5 (by decide)
  have h6 : ((n / 64 % 2 : Nat) : Int) = f 6 := h 6 (by decide)
  have h7 : ((n / 128 % 2 : Nat) : Int) = f 7 := h 7 (by decide)
  clear h
  generalize n / 1 % 2 = t0 at h0 ⊢
  generalize n / 2 % 2 = t1 at h1 ⊢
  generalize n / 4 % 2 = t2 at h2 ⊢
  generalize n / 8 % 2 = t3 at h3 ⊢
  generalize n / 16 % 2 = t4 at h4 ⊢
  generalize n / 32 % 2 = t5 at h5 ⊢
  generalize n / 64 % 2 = t6 at h6 ⊢
  generalize n / 128 % 2 = t7 at h7 ⊢
  omega
theorem gg1 (n : Nat) : p8c (n / 256 % 256) = n / 256 % 2 + n / 512 % 2 + n / 1024 % 2 + n / 2048 % 2 + n / 4096 % 2 + n / 8192 % 2 + n / 16384 % 2 + n / 32768 % 2 := by
  rw [(p8 (a := n / 256 % 256) (Nat.mod_lt _ (by decide))).2.2.2.2.2, zz8 n, zz9 n, zz10 n, zz11 n, zz12 n, zz13 n, zz14 n, zz15 n]
theorem gi1 {n : Nat} {f : Nat → Int} (h : ∀ k : Nat, k < 64 → ((n / 2 ^ k % 2 : Nat) : Int) = f k) : ((p8c (n / 256 % 256) : Nat) : Int) = f 8 + f 9 + f 10 + f 11 + f 12 + f 13 + f 14 + f 15 := by
  rw [gg1 n]
  have h0 : ((n / 256 % 2 : Nat) : Int) = f 8 := h 8 (by decide)
  have h1 : ((n / 512 % 2 : Nat) : Int) = f 9 := h 9 (by decide)
  have h2 : ((n / 1024 % 2 : Nat) : Int) = f 10 := h 10 (by decide)
  have h3 : ((n / 2048 % 2 : Nat) : Int) = f 11 := h 11 (by decide)
  have h4 : ((n / 4096 % 2 : Nat) : Int) = f 12 := h 12 (by decide)
  have h5 : ((n / 8192 % 2 : Nat) : Int) = f 13 := h 13 (by decide)
  have h6 : ((n / 16384 % 2 : Nat) : Int) = f 14 := h 14 (by decide)
  have h7 : ((n / 32768 % 2 : Nat) : Int) = f 15 := h 15 (by decide)
  clear h
  generalize n / 256 % 2 = t0 at h0 ⊢
  generalize n / 512 % 2 = t1 at h1 ⊢
  generalize n / 1024 % 2 = t2 at h2 ⊢
  generalize n / 2048 % 2 = t3 at h3 ⊢
  generalize n / 4096 % 2 = t4 at h4 ⊢
  generalize n / 8192 % 2 = t5 at h5 ⊢
  generalize n / 16384 % 2 = t6 at h6 ⊢
  generalize n / 32768 % 2 = t7 at h7 ⊢
  omega
theorem gg2 (n : Nat) : p8c (n / 65536 % 256) = n / 65536 % 2 + n / 131072 % 2 + n / 262144 % 2 + n / 524288 % 2 + n / 1048576 % 2 + n / 2097152 % 2 + n / 4194304 % 2 + n / 8388608 % 2 := by
  rw [(p8 (a := n / 65536 % 256) (Nat.mod_lt _ (by decide))).2.2.2.2.2, zz16 n, zz17 n, zz18 n, zz19 n, zz20 n, zz21 n, zz22 n, zz23 n]
theorem gi2 {n : Nat} {f : Nat → Int} (h : ∀ k : Nat, k < 64 → ((n / 2 ^ k % 2 : Nat) : Int) = f k) : ((p8c (n / 65536 % 256) : Nat) : Int) = f 16 + f 17 + f 18 + f 19 + f 20 + f 21 + f 22 + f 23 := by
  rw [gg2 n]
  have h0 : ((n / 65536 % 2 : Nat) : Int) = f 16 := h 16 (by decide)
  have h1 : ((n / 131072 % 2 : Nat) : Int) = f 17 := h 17 (by decide)
  have h2 : ((n / 262144 % 2 : Nat) : Int) = f 18 := h 18 (by decide)
  have h3 : ((n / 524288 % 2 : Nat) : Int) = f 19 := h 19 (by decide)
  have h4 : ((n / 1048576 % 2 : Nat) : Int) = f 20 := h 20 (by decide)
  have h5 : ((n / 2097152 % 2 : Nat) : Int) = f 21 := h 21 (by decide)
  have h6 : ((n / 4194304 % 2 : Nat) : Int) = f 22 := h 22 (by decide)
  have h7 : ((n / 8388608 % 2 : Nat) : Int) = f 23 := h 23 (by decide)
  clear h
  generalize n / 65536 % 2 = t0 at h0 ⊢
  generalize n / 131072 % 2 = t1 at h1 ⊢
  generalize n / 262144 % 2 = t2 at h2 ⊢
  generalize n / 524288 % 2 = t3 at h3 ⊢
  generalize n / 1048576 % 2 = t4 at h4 ⊢
  generalize n / 2097152 % 2 = t5 at h5 ⊢
  generalize n / 4194304 % 2 = t6 at h6 ⊢
  generalize n / 8388608 % 2 = t7 at h7 ⊢
  omega
theorem gg3 (n : Nat) : p8c (n / 16777216 % 256) = n / 16777216 % 2 + n / 33554432 % 2 + n / 67108864 % 2 + n / 134217728 % 2 + n / 268435456 % 2 + n / 536870912 % 2 + n / 1073741824 % 2 + n / 2147483648 % 2 := by
  rw [(p8 (a := n / 16777216 % 256) (Nat.mod_lt _ (by decide))).2.2.2.2.2, zz24 n, zz25 n, zz26 n, zz27 n, zz28 n, zz29 n, zz30 n, zz31 n]
theorem gi3 {n : Nat} {f : Nat → Int} (h : ∀ k : Nat, k < 64 → ((n / 2 ^ k % 2 : Nat) : Int) = f k) : ((p8c (n / 16777216 % 256) : Nat) : Int) = f 24 + f 25 + f 26 + f 27 + f 28 + f 29 + f 30 + f 31 := by
  rw [gg3 n]
  have h0 : ((n / 16777216 % 2 : Nat) : Int) = f 24 := h 24 (by decide)
  have h1 : ((n / 33554432 % 2 : Nat) : Int) = f 25 := h 25 (by decide)
  have h2 : ((n / 67108864 % 2 : Nat) : Int) = f 26 := h 26 (by decide)
  have h3 : ((n / 134217728 % 2 : Nat) : Int) = f 27 := h 27 (by decide)
  have h4 : ((n / 268435456 % 2 : Nat) : Int) = f 28 := h 28 (by decide)
  have h5 : ((n / 536870912 % 2 : Nat) : Int) = f 29 := h 29 (by decide)
  have h6 : ((n / 1073741824 % 2 : Nat) : Int) = f 30 := h 30 (by decide)
  have h7 : ((n / 2147483648 % 2 : Nat) : Int) = f 31 := h 31 (by decide)
  clear h
  generalize n / 16777216 % 2 = t0 at h0 ⊢
  generalize n / 33554432 % 2 = t1 at h1 ⊢
  generalize n / 67108864 % 2 = t2 at h2 ⊢
  generalize n / 134217728 % 2 = t3 at h3 ⊢
  generalize n / 268435456 % 2 = t4 at h4 ⊢
  generalize n / 536870912 % 2 = t5 at h5 ⊢
  generalize n / 1073741824 % 2 = t6 at h6 ⊢
  generalize n / 2147483648 % 2 = t7 at h7 ⊢
  omega
theorem gg4 (n : Nat) : p8c (n / 4294967296 % 256) = n / 4294967296 % 2 + n / 8589934592 % 2 + n / 17179869184 % 2 + n / 34359738368 % 2 + n / 68719476736 % 2 + n / 137438953472 % 2 + n / 274877906944 % 2 + n / 549755813888 % 2 := by
  rw [(p8 (a := n / 4294967296 % 256) (Nat.mod_lt _ (by decide))).2.2.2.2.2, zz32 n, zz33 n, zz34 n, zz35 n, zz36 n, zz37 n, zz38 n, zz39 n]
theorem gi4 {n : Nat} {f : Nat → Int} (h : ∀ k : Nat, k < 64 → ((n / 2 ^ k % 2 : Nat) : Int) = f k) : ((p8c (n / 4294967296 % 256) : Nat) : Int) = f 32 + f 33 + f 34 + f 35 + f 36 + f 37 + f 38 + f 39 := by
  rw [gg4 n]
  have h0 : ((n / 4294967296 % 2 : Nat) : Int) = f 32 := h 32 (by decide)
  have h1 : ((n / 8589934592 % 2 : Nat) : Int) = f 33 := h 33 (by decide)
  have h2 : ((n / 17179869184 % 2 : Nat) : Int) = f 34 := h 34 (by decide)
  have h3 : ((n / 34359738368 % 2 : Nat) : Int) = f 35 := h 35 (by decide)
  have h4 : ((n / 68719476736 % 2 : Nat) : Int) = f 36 := h 36 (by decide)
  have h5 : ((n / 137438953472 % 2 : Nat) : Int) = f 37 := h 37 (by decide)
  have h6 : ((n / 274877906944 % 2 : Nat) : Int) = f 38 := h 38 (by decide)
  have h7 : ((n / 549755813888 % 2 : Nat) : Int) = f 39 := h 39 (by decide)
  clear h
  generalize n / 4294967296 % 2 = t0 at h0 ⊢
  generalize n / 8589934592 % 2 = t1 at h1 ⊢
  generalize n / 17179869184 % 2 = t2 at h2 ⊢
  generalize n / 34359738368 % 2 = t3 at h3 ⊢
  generalize n / 68719476736 % 2 = t4 at h4 ⊢
  generalize n / 137438953472 % 2 = t5 at h5 ⊢
  generalize n / 274877906944 % 2 = t6 at h6 ⊢
  generalize n / 549755813888 % 2 = t7 at h7 ⊢
  omega
theorem gg5 (n : Nat) : p8c (n / 1099511627776 % 256) = n / 1099511627776 % 2 + n / 2199023255552 % 2 + n / 4398046511104 % 2 + n / 8796093022208 % 2 + n / 17592186044416 % 2 + n / 35184372088832 % 2 + n / 70368744177664 % 2 + n / 140737488355328 % 2 := by
  rw [(p8 (a := n / 1099511627776 % 256) (Nat.mod_lt _ (by decide))).2.2.2.2.2, zz40 n, zz41 n, zz42 n, zz43 n, zz44 n, zz45 n, zz46 n, zz47 n]
theorem gi5 {n : Nat} {f : Nat → Int} (h : ∀ k : Nat, k < 64 → ((n / 2 ^ k % 2 : Nat) : Int) = f k) : ((p8c (n / 1099511627776 % 256) : Nat) : Int) = f 40 + f 41 + f 42 + f 43 + f 44 + f 45 + f 46 + f 47 := by
  rw [gg5 n]
  have h0 : ((n / 1099511627776 % 2 : Nat) : Int) = f 40 := h 40 (by decide)
  have h1 : ((n / 2199023255552 % 2 : Nat) : Int) = f 41 := h 41 (by decide)
  have h2 : ((n / 4398046511104 % 2 : Nat) : Int) = f 42 := h 42 (by decide)
  have h3 : ((n / 8796093022208 % 2 : Nat) : Int) = f 43 := h 43 (by decide)
  have h4 : ((n / 17592186044416 % 2 : Nat) : Int) = f 44 := h 44 (by decide)
  have h5 : ((n / 35184372088832 % 2 : Nat) : Int) = f 45 := h 45 (by decide)
  have h6 : ((n / 70368744177664 % 2 : Nat) : Int) = f 46 := h 46 (by decide)
  have h7 : ((n / 140737488355328 % 2 : Nat) : Int) = f 47 := h 47 (by decide)
  clear h
  generalize n / 1099511627776 % 2 = t0 at h0 ⊢
  generalize n / 2199023255552 % 2 = t1 at h1 ⊢
  generalize n / 4398046511104 % 2 = t2 at h2 ⊢
  generalize n / 8796093022208 % 2 = t3 at h3 ⊢
  generalize n / 17592186044416 % 2 = t4 at h4 ⊢
  generalize n / 35184372088832 % 2 = t5 at h5 ⊢
  generalize n / 70368744177664 % 2 = t6 at h6 ⊢
  generalize n / 140737488355328 % 2 = t7 at h7 ⊢
  omega
theorem gg6 (n : Nat) : p8c (n / 281474976710656 % 256) = n / 281474976710656 % 2 + n / 562949953421312 % 2 + n / 1125899906842624 % 2 + n / 2251799813685248 % 2 + n / 4503599627370496 % 2 + n / 9007199254740992 % 2 + n / 18014398509481984 % 2 + n / 36028797018963968 % 2 := by
  rw [(p8 (a := n / 281474976710656 % 256) (Nat.mod_lt _ (by decide))).2.2.2.2.2, zz48 n, zz49 n, zz50 n, zz51 n, zz52 n, zz53 n, zz54 n, zz55 n]
theorem gi6 {n : Nat} {f : Nat → Int} (h : ∀ k : Nat, k < 64 → ((n / 2 ^ k % 2 : Nat) : Int) = f k) : ((p8c (n / 281474976710656 % 256) : Nat) : Int) = f 48 + f 49 + f 50 + f 51 + f 52 + f 53 + f 54 + f 55 := by
  rw [gg6 n]
  have h0 : ((n / 281474976710656 % 2 : Nat) : Int) = f 48 := h 48 (by decide)
  have h1 : ((n / 562949953421312 % 2 : Nat) : Int) = f 49 := h 49 (by decide)
  have h2 : ((n / 1125899906842624 % 2 : Nat) : Int) = f 50 := h 50 (by decide)
  have h3 : ((n / 2251799813685248 % 2 : Nat) : Int) = f 51 := h 51 (by decide)
  have h4 : ((n / 4503599627370496 % 2 : Nat) : Int) = f 52 := h 52 (by decide)
  have h5 : ((n / 9007199254740992 % 2 : Nat) : Int) = f 53 := h 53 (by decide)
  have h6 : ((n / 18014398509481984 % 2 : Nat) : Int) = f 54 := h 54 (by decide)
  have h7 : ((n / 36028797018963968 % 2 : Nat) : Int) = f 55 := h 55 (by decide)
  clear h
  generalize n / 281474976710656 % 2 = t0 at h0 ⊢
  generalize n / 562949953421312 % 2 = t1 at h1 ⊢
  generalize n / 1125899906842624 % 2 = t2 at h2 ⊢
  generalize n / 2251799813685248 % 2 = t3 at h3 ⊢
  generalize n / 4503599627370496 % 2 = t4 at h4 ⊢
  generalize n / 9007199254740992 % 2 = t5 at h5 ⊢
  generalize n / 18014398509481984 % 2 = t6 at h6 ⊢
  generalize n / 36028797018963968 % 2 = t7 at h7 ⊢
  omega
theorem gg7 (n : Nat) : p8c (n / 72057594037927936 % 256) = n / 72057594037927936 % 2 + n / 144115188075855872 % 2 + n / 288230376151711744 % 2 + n / 576460752303423488 % 2 + n / 1152921504606846976 % 2 + n / 2305843009213693952 % 2 + n / 4611686018427387904 % 2 + n / 9223372036854775808 % 2 := by
  rw [(p8 (a := n / 72057594037927936 % 256) (Nat.mod_lt _ (by decide))).2.2.2.2.2, zz56 n, zz57 n, zz58 n, zz59 n, zz60 n, zz61 n, zz62 n, zz63 n]
theorem gi7 {n : Nat} {f : Nat → Int} (h : ∀ k : Nat, k < 64 → ((n / 2 ^ k % 2 : Nat) : Int) = f k) : ((p8c (n / 72057594037927936 % 256) : Nat) : Int) = f 56 + f 57 + f 58 + f 59 + f 60 + f 61 + f 62 + f 63 := by
  rw [gg7 n]
  have h0 : ((n / 72057594037927936 % 2 : Nat) : Int) = f 56 := h 56 (by decide)
  have h1 : ((n / 144115188075855872 % 2 : Nat) : Int) = f 57 := h 57 (by decide)
  have h2 : ((n / 288230376151711744 % 2 : Nat) : Int) = f 58 := h 58 (by decide)
  have h3 : ((n / 576460752303423488 % 2 : Nat) : Int) = f 59 := h 59 (by decide)
  have h4 : ((n / 1152921504606846976 % 2 : Nat) : Int) = f 60 := h 60 (by decide)
  have h5 : ((n / 2305843009213693952 % 2 : Nat) : Int) = f 61 := h 61 (by decide)
  have h6 : ((n / 4611686018427387904 % 2 : Nat) : Int) = f 62 := h 62 (by decide)
  have h7 : ((n / 9223372036854775808 % 2 : Nat) : Int) = f 63 := h 63 (by decide)
  clear h
  generalize n / 72057594037927936 % 2 = t0 at h0 ⊢
  generalize n / 144115188075855872 % 2 = t1 at h1 ⊢
  generalize n / 288230376151711744 % 2 = t2 at h2 ⊢
  generalize n / 576460752303423488 % 2 = t3 at h3 ⊢
  generalize n / 1152921504606846976 % 2 = t4 at h4 ⊢
  generalize n / 2305843009213693952 % 2 = t5 at h5 ⊢
  generalize n / 4611686018427387904 % 2 = t6 at h6 ⊢
  generalize n / 9223372036854775808 % 2 = t7 at h7 ⊢
  omega
theorem bc_all (x : Int64) : n64 (bcs 32 (bcs 16 (bcs 8 (bc3 (bc2 (bc1 x)))))) % 128 = p8c (n64 x / 1 % 256) + p8c (n64 x / 256 % 256) + p8c (n64 x / 65536 % 256) + p8c (n64 x / 16777216 % 256) + p8c (n64 x / 4294967296 % 256) + p8c (n64 x / 1099511627776 % 256) + p8c (n64 x / 281474976710656 % 256) + p8c (n64 x / 72057594037927936 % 256) := by
  have h : ∀ m : Nat, m % 256 < 256 := fun m => Nat.mod_lt _ (by decide)
  exact bc_gen (h _) (h _) (h _) (h _) (h _) (h _) (h _) (h _) x (by8 (n64 x) (n64_lt x))
def bcI (x : Int64) : Int := (n64 (bcs 32 (bcs 16 (bcs 8 (bc3 (bc2 (bc1 x)))))) : Int) % 128
theorem bc_int (x : Int64) : x.toInt32 = iI (n64 x : Int) := by
  have e : x = Int64.ofInt (n64 x : Int) := by
    apply Int64.toBitVec_inj.mp
    apply BitVec.eq_of_toNat_eq
    rw [show (Int64.ofInt (n64 x : Int)).toBitVec = BitVec.ofInt 64 (n64 x : Int) from rfl, BitVec.toNat_ofInt]
    have h := n64_lt x
    show n64 x = _
    omega
  have e2 : (Int64.ofInt (n64 x : Int)).toInt32 = Int32.ofInt (n64 x : Int) := Int64.toInt32_ofInt
  rw [← e] at e2
  exact e2
theorem bit_bk {N : Int → Int} {k : Nat} (hk : k < 64) (h01 : k < 50 → N (10 + (k : Int)) = 0 ∨ N (10 + (k : Int)) = 1) : ((n64 (bkL N) / 2 ^ k % 2 : Nat) : Int) = if k < 50 then N (10 + (k : Int)) else 0 := by
  have h1 := bB_get (N := N) 50 k (by omega)
  have h2 : (bB N 50).getLsbD k = (n64 (bkL N)).testBit k := rfl
  rw [h2, Nat.testBit_eq_decide_div_mod_eq] at h1
  have h3 : n64 (bkL N) / 2 ^ k % 2 < 2 := Nat.mod_lt _ (by decide)
  by_cases e : k < 50
  · rw [if_pos e]
    rcases h01 e with g | g
    · rw [g] at h1 ⊢
      have : ¬ n64 (bkL N) / 2 ^ k % 2 = 1 := by intro z; rw [z] at h1; simp at h1
      omega
    · rw [g] at h1 ⊢
      have : n64 (bkL N) / 2 ^ k % 2 = 1 := by simpa [e] using h1
      omega
  · rw [if_neg e]
    have : ¬ n64 (bkL N) / 2 ^ k % 2 = 1 := by intro z; rw [z] at h1; simp [e] at h1
    omega
theorem bc_bk {N : Int → Int} (hw : wf N) : bcI (bkL N) = brokenOf N := by
  have w := hw.2.2.2.2.2.2.1
  have hb := bc_all (bkL N)
  have e : ∀ k : Nat, k < 64 → ((n64 (bkL N) / 2 ^ k % 2 : Nat) : Int) = if k < 50 then N (10 + (k : Int)) else 0 := fun k hk => bit_bk hk (fun h => by have := w (10 + (k : Int)) (by omega) (by omega); omega)
  have hs : brokenOf N = 0 + N (10 + ((0 : Nat) : Int)) + N (10 + ((1 : Nat) : Int)) + N (10 + ((2 : Nat) : Int)) + N (10 + ((3 : Nat) : Int)) + N (10 + ((4 : Nat) : Int)) + N (10 + ((5 : Nat) : Int)) + N (10 + ((6 : Nat) : Int)) + N (10 + ((7 : Nat) : Int)) + N (10 + ((8 : Nat) : Int)) + N (10 + ((9 : Nat) : Int)) + N (10 + ((10 : Nat) : Int)) + N (10 + ((11 : Nat) : Int)) + N (10 + ((12 : Nat) : Int)) + N (10 + ((13 : Nat) : Int)) + N (10 + ((14 : Nat) : Int)) + N (10 + ((15 : Nat) : Int)) + N (10 + ((16 : Nat) : Int)) + N (10 + ((17 : Nat) : Int)) + N (10 + ((18 : Nat) : Int)) + N (10 + ((19 : Nat) : Int)) + N (10 + ((20 : Nat) : Int)) + N (10 + ((21 : Nat) : Int)) + N (10 + ((22 : Nat) : Int)) + N (10 + ((23 : Nat) : Int)) + N (10 + ((24 : Nat) : Int)) + N (10 + ((25 : Nat) : Int)) + N (10 + ((26 : Nat) : Int)) + N (10 + ((27 : Nat) : Int)) + N (10 + ((28 : Nat) : Int)) + N (10 + ((29 : Nat) : Int)) + N (10 + ((30 : Nat) : Int)) + N (10 + ((31 : Nat) : Int)) + N (10 + ((32 : Nat) : Int)) + N (10 + ((33 : Nat) : Int)) + N (10 + ((34 : Nat) : Int)) + N (10 + ((35 : Nat) : Int)) + N (10 + ((36 : Nat) : Int)) + N (10 + ((37 : Nat) : Int)) + N (10 + ((38 : Nat) : Int)) + N (10 + ((39 : Nat) : Int)) + N (10 + ((40 : Nat) : Int)) + N (10 + ((41 : Nat) : Int)) + N (10 + ((42 : Nat) : Int)) + N (10 + ((43 : Nat) : Int)) + N (10 + ((44 : Nat) : Int)) + N (10 + ((45 : Nat) : Int)) + N (10 + ((46 : Nat) : Int)) + N (10 + ((47 : Nat) : Int)) + N (10 + ((48 : Nat) : Int)) + N (10 + ((49 : Nat) : Int)) := rfl
  rw [hs]
  unfold bcI
  have G0 : ((p8c (n64 (bkL N) / 1 % 256) : Nat) : Int) = N (10 + ((0 : Nat) : Int)) + N (10 + ((1 : Nat) : Int)) + N (10 + ((2 : Nat) : Int)) + N (10 + ((3 : Nat) : Int)) + N (10 + ((4 : Nat) : Int)) + N (10 + ((5 : Nat) : Int)) + N (10 + ((6 : Nat) : Int)) + N (10 + ((7 : Nat) : Int)) := gi0 e
  have G1 : ((p8c (n64 (bkL N) / 256 % 256) : Nat) : Int) = N (10 + ((8 : Nat) : Int)) + N (10 + ((9 : Nat) : Int)) + N (10 + ((10 : Nat) : Int)) + N (10 + ((11 : Nat) : Int)) + N (10 + ((12 : Nat) : Int)) + N (10 + ((13 : Nat) : Int)) + N (10 + ((14 : Nat) : Int)) + N (10 + ((15 : Nat) : Int)) := gi1 e
  have G2 : ((p8c (n64 (bkL N) / 65536 % 256) : Nat) : Int) = N (10 + ((16 : Nat) : Int)) + N (10 + ((17 : Nat) : Int)) + N (10 + ((18 : Nat) : Int)) + N (10 + ((19 : Nat) : Int)) + N (10 + ((20 : Nat) : Int)) + N (10 + ((21 : Nat) : Int)) + N (10 + ((22 : Nat) : Int)) + N (10 + ((23 : Nat) : Int)) := gi2 e
  have G3 : ((p8c (n64 (bkL N) / 16777216 % 256) : Nat) : Int) = N (10 + ((24 : Nat) : Int)) + N (10 + ((25 : Nat) : Int)) + N (10 + ((26 : Nat) : Int)) + N (10 + ((27 : Nat) : Int)) + N (10 + ((28 : Nat) : Int)) + N (10 + ((29 : Nat) : Int)) + N (10 + ((30 : Nat) : Int)) + N (10 + ((31 : Nat) : Int)) := gi3 e
  have G4 : ((p8c (n64 (bkL N) / 4294967296 % 256) : Nat) : Int) = N (10 + ((32 : Nat) : Int)) + N (10 + ((33 : Nat) : Int)) + N (10 + ((34 : Nat) : Int)) + N (10 + ((35 : Nat) : Int)) + N (10 + ((36 : Nat) : Int)) + N (10 + ((37 : Nat) : Int)) + N (10 + ((38 : Nat) : Int)) + N (10 + ((39 : Nat) : Int)) := gi4 e
  have G5 : ((p8c (n64 (bkL N) / 1099511627776 % 256) : Nat) : Int) = N (10 + ((40 : Nat) : Int)) + N (10 + ((41 : Nat) : Int)) + N (10 + ((42 : Nat) : Int)) + N (10 + ((43 : Nat) : Int)) + N (10 + ((44 : Nat) : Int)) + N (10 + ((45 : Nat) : Int)) + N (10 + ((46 : Nat) : Int)) + N (10 + ((47 : Nat) : Int)) := gi5 e
  have G6 : ((p8c (n64 (bkL N) / 281474976710656 % 256) : Nat) : Int) = N (10 + ((48 : Nat) : Int)) + N (10 + ((49 : Nat) : Int)) + 0 + 0 + 0 + 0 + 0 + 0 := gi6 e
  have G7 : ((p8c (n64 (bkL N) / 72057594037927936 % 256) : Nat) : Int) = 0 + 0 + 0 + 0 + 0 + 0 + 0 + 0 := gi7 e
  generalize p8c (n64 (bkL N) / 1 % 256) = q0 at G0 hb
  generalize p8c (n64 (bkL N) / 256 % 256) = q1 at G1 hb
  generalize p8c (n64 (bkL N) / 65536 % 256) = q2 at G2 hb
  generalize p8c (n64 (bkL N) / 16777216 % 256) = q3 at G3 hb
  generalize p8c (n64 (bkL N) / 4294967296 % 256) = q4 at G4 hb
  generalize p8c (n64 (bkL N) / 1099511627776 % 256) = q5 at G5 hb
  generalize p8c (n64 (bkL N) / 281474976710656 % 256) = q6 at G6 hb
  generalize p8c (n64 (bkL N) / 72057594037927936 % 256) = q7 at G7 hb
  generalize n64 (bcs 32 (bcs 16 (bcs 8 (bc3 (bc2 (bc1 (bkL N))))))) = m at hb ⊢
  clear e w hw
  omega
theorem zm_J13_bitCount_95d88 : zMT yJ13_bitCount_95d88 RJ13 cJ13_bitCount_95d88 2 (some .int) 1 := ⟨qc_J13_bitCount_95d88, qn_RJ13, rfl, by decide +kernel, by decide +kernel, by decide +kernel⟩
