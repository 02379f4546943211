/-! the bits of a long, one by one -/
theorem zz0 (n : Nat) : n / 1 % 256 % 2 = n / 1 % 2 := by omega
theorem zz1 (n : Nat) : n / 1 % 256 / 2 % 2 = n / 2 % 2 := by omega
theorem zz2 (n : Nat) : n / 1 % 256 / 4 % 2 = n / 4 % 2 := by omega
theorem zz3 (n : Nat) : n / 1 % 256 / 8 % 2 = n / 8 % 2 := by omega
theorem zz4 (n : Nat) : n / 1 % 256 / 16 % 2 = n / 16 % 2 := by omega
theorem zz5 (n : Nat) : n / 1 % 256 / 32 % 2 = n / 32 % 2 := by omega
theorem zz6 (n : Nat) : n / 1 % 256 / 64 % 2 = n / 64 % 2 := by omega
theorem zz7 (n : Nat) : n / 1 % 256 / 128 % 2 = n / 128 % 2 := by omega
theorem zz8 (n : Nat) : n / 256 % 256 % 2 = n / 256 % 2 := by omega
theorem zz9 (n : Nat) : n / 256 % 256 / 2 % 2 = n / 512 % 2 := by omega
theorem zz10 (n : Nat) : n / 256 % 256 / 4 % 2 = n / 1024 % 2 := by omega
theorem zz11 (n : Nat) : n / 256 % 256 / 8 % 2 = n / 2048 % 2 := by omega
theorem zz12 (n : Nat) : n / 256 % 256 / 16 % 2 = n / 4096 % 2 := by omega
theorem zz13 (n : Nat) : n / 256 % 256 / 32 % 2 = n / 8192 % 2 := by omega
theorem zz14 (n : Nat) : n / 256 % 256 / 64 % 2 = n / 16384 % 2 := by omega
theorem zz15 (n : Nat) : n / 256 % 256 / 128 % 2 = n / 32768 % 2 := by omega
theorem zz16 (n : Nat) : n / 65536 % 256 % 2 = n / 65536 % 2 := by omega
theorem zz17 (n : Nat) : n / 65536 % 256 / 2 % 2 = n / 131072 % 2 := by omega
theorem zz18 (n : Nat) : n / 65536 % 256 / 4 % 2 = n / 262144 % 2 := by omega
theorem zz19 (n : Nat) : n / 65536 % 256 / 8 % 2 = n / 524288 % 2 := by omega
theorem zz20 (n : Nat) : n / 65536 % 256 / 16 % 2 = n / 1048576 % 2 := by omega
theorem zz21 (n : Nat) : n / 65536 % 256 / 32 % 2 = n / 2097152 % 2 := by omega
theorem zz22 (n : Nat) : n / 65536 % 256 / 64 % 2 = n / 4194304 % 2 := by omega
theorem zz23 (n : Nat) : n / 65536 % 256 / 128 % 2 = n / 8388608 % 2 := by omega
theorem zz24 (n : Nat) : n / 16777216 % 256 % 2 = n / 16777216 % 2 := by omega
theorem zz25 (n : Nat) : n / 16777216 % 256 / 2 % 2 = n / 33554432 % 2 := by omega
theorem zz26 (n : Nat) : n / 16777216 % 256 / 4 % 2 = n / 67108864 % 2 := by omega
theorem zz27 (n : Nat) : n / 16777216 % 256 / 8 % 2 = n / 134217728 % 2 := by omega
theorem zz28 (n : Nat) : n / 16777216 % 256 / 16 % 2 = n / 268435456 % 2 := by omega
theorem zz29 (n : Nat) : n / 16777216 % 256 / 32 % 2 = n / 536870912 % 2 := by omega
theorem zz30 (n : Nat) : n / 16777216 % 256 / 64 % 2 = n / 1073741824 % 2 := by omega
theorem zz31 (n : Nat) : n / 16777216 % 256 / 128 % 2 = n / 2147483648 % 2 := by omega
theorem zz32 (n : Nat) : n / 4294967296 % 256 % 2 = n / 4294967296 % 2 := by omega
theorem zz33 (n : Nat) : n / 4294967296 % 256 / 2 % 2 = n / 8589934592 % 2 := by omega
theorem zz34 (n : Nat) : n / 4294967296 % 256 / 4 % 2 = n / 17179869184 % 2 := by omega
theorem zz35 (n : Nat) : n / 4294967296 % 256 / 8 % 2 = n / 34359738368 % 2 := by omega
theorem zz36 (n : Nat) : n / 4294967296 % 256 / 16 % 2 = n / 68719476736 % 2 := by omega
theorem zz37 (n : Nat) : n / 4294967296 % 256 / 32 % 2 = n / 137438953472 % 2 := by omega
theorem zz38 (n : Nat) : n / 4294967296 % 256 / 64 % 2 = n / 274877906944 % 2 := by omega
theorem zz39 (n : Nat) : n / 4294967296 % 256 / 128 % 2 = n / 549755813888 % 2 := by omega
theorem zz40 (n : Nat) : n / 1099511627776 % 256 % 2 = n / 1099511627776 % 2 := by omega
theorem zz41 (n : Nat) : n / 1099511627776 % 256 / 2 % 2 = n / 2199023255552 % 2 := by omega
theorem zz42 (n : Nat) : n / 1099511627776 % 256 / 4 % 2 = n / 4398046511104 % 2 := by omega
theorem zz43 (n : Nat) : n / 1099511627776 % 256 / 8 % 2 = n / 8796093022208 % 2 := by omega
theorem zz44 (n : Nat) : n / 1099511627776 % 256 / 16 % 2 = n / 17592186044416 % 2 := by omega
theorem zz45 (n : Nat) : n / 1099511627776 % 256 / 32 % 2 = n / 35184372088832 % 2 := by omega
theorem zz46 (n : Nat) : n / 1099511627776 % 256 / 64 % 2 = n / 70368744177664 % 2 := by omega
theorem zz47 (n : Nat) : n / 1099511627776 % 256 / 128 % 2 = n / 140737488355328 % 2 := by omega
theorem zz48 (n : Nat) : n / 281474976710656 % 256 % 2 = n / 281474976710656 % 2 := by omega
theorem zz49 (n : Nat) : n / 281474976710656 % 256 / 2 % 2 = n / 562949953421312 % 2 := by omega
theorem zz50 (n : Nat) : n / 281474976710656 % 256 / 4 % 2 = n / 1125899906842624 % 2 := by omega
theorem zz51 (n : Nat) : n / 281474976710656 % 256 / 8 % 2 = n / 2251799813685248 % 2 := by omega
theorem zz52 (n : Nat) : n / 281474976710656 % 256 / 16 % 2 = n / 4503599627370496 % 2 := by omega
theorem zz53 (n : Nat) : n / 281474976710656 % 256 / 32 % 2 = n / 9007199254740992 % 2 := by omega
theorem zz54 (n : Nat) : n / 281474976710656 % 256 / 64 % 2 = n / 18014398509481984 % 2 := by omega
theorem zz55 (n : Nat) : n / 281474976710656 % 256 / 128 % 2 = n / 36028797018963968 % 2 := by omega
theorem zz56 (n : Nat) : n / 72057594037927936 % 256 % 2 = n / 72057594037927936 % 2 := by omega
theorem zz57 (n : Nat) : n / 72057594037927936 % 256 / 2 % 2 = n / 144115188075855872 % 2 := by omega
theorem zz58 (n : Nat) : n / 72057594037927936 % 256 / 4 % 2 = n / 288230376151711744 % 2 := by omega
theorem zz59 (n : Nat) : n / 72057594037927936 % 256 / 8 % 2 = n / 576460752303423488 % 2 := by omega
theorem zz60 (n : Nat) : n / 72057594037927936 % 256 / 16 % 2 = n / 1152921504606846976 % 2 := by omega
theorem zz61 (n : Nat) : n / 72057594037927936 % 256 / 32 % 2 = n / 2305843009213693952 % 2 := by omega
theorem zz62 (n : Nat) : n / 72057594037927936 % 256 / 64 % 2 = n / 4611686018427387904 % 2 := by omega
theorem zz63 (n : Nat) : n / 72057594037927936 % 256 / 128 % 2 = n / 9223372036854775808 % 2 := by omega
