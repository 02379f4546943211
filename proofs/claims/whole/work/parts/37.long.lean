/-! longs as images of Int, without a sign -/
def iL (z : Int) : Int64 := Int64.ofInt z
theorem iL_bv (z : Int) : (iL z).toBitVec = BitVec.ofInt 64 z := rfl
theorem iL_nat {z : Int} (h : 0 ≤ z) : iL z = Int64.ofNat z.toNat := by
  apply Int64.toBitVec_inj.mp
  rw [iL_bv]
  show BitVec.ofInt 64 z = BitVec.ofNat 64 z.toNat
  obtain ⟨n, rfl⟩ : ∃ n : Nat, z = (n : Int) := ⟨z.toNat, by omega⟩
  rw [BitVec.ofInt_natCast]
  rfl
def uZ (x : Int64) : Int := (x.toBitVec.toNat : Int)
theorem uZ_rng (x : Int64) : 0 ≤ uZ x ∧ uZ x < 18446744073709551616 := by
  unfold uZ
  have := x.toBitVec.isLt
  omega
theorem iL_uZ (x : Int64) : iL (uZ x) = x := by
  apply Int64.toBitVec_inj.mp
  rw [iL_bv]
  unfold uZ
  simp
theorem iL_toNat {z : Int} (h : 0 ≤ z ∧ z < 18446744073709551616) : (iL z).toBitVec.toNat = z.toNat := by
  rw [iL_nat h.1]
  show (BitVec.ofNat 64 z.toNat).toNat = z.toNat
  rw [BitVec.toNat_ofNat]
  exact Nat.mod_eq_of_lt (by omega)
theorem iL_and255 {z : Int} (h : 0 ≤ z ∧ z < 18446744073709551616) : iL z &&& iL 255 = iL (z % 256) := by
  apply Int64.toBitVec_inj.mp
  apply BitVec.eq_of_toNat_eq
  rw [Int64.toBitVec_and, BitVec.toNat_and, iL_toNat h, iL_toNat (by omega), iL_toNat (by omega)]
  rw [show (255 : Int).toNat = 2 ^ 8 - 1 from rfl, Nat.and_two_pow_sub_one_eq_mod]
  omega
theorem iL_ushr8 {z : Int} (h : 0 ≤ z ∧ z < 18446744073709551616) : ((iL z).toUInt64 >>> ((iI 8).toInt64.toUInt64 &&& Int64.toUInt64 63)).toInt64 = iL (z / 256) := by
  apply Int64.toBitVec_inj.mp
  apply BitVec.eq_of_toNat_eq
  have e : ((iI 8).toInt64.toUInt64 &&& Int64.toUInt64 63) = 8 := by decide
  rw [e, iL_toNat (by omega)]
  show ((iL z).toUInt64 >>> 8).toNat = _
  rw [UInt64.toNat_shiftRight]
  show (iL z).toBitVec.toNat >>> (8 % 64) = _
  rw [iL_toNat h, Nat.shiftRight_eq_div_pow, show 2 ^ (8 % 64) = 256 from rfl]
  omega
theorem iL_toI {z : Int} (h : 0 ≤ z ∧ z < 2147483648) : (iL z).toInt32 = iI z := by
  apply Int32.toBitVec_inj.mp
  apply BitVec.eq_of_toNat_eq
  rw [iI_nat h.1]
  show ((iL z).toBitVec.signExtend 32).toNat = (BitVec.ofNat 32 z.toNat).toNat
  rw [BitVec.signExtend_eq_setWidth_of_le _ (by decide), BitVec.toNat_setWidth, iL_toNat (by omega), BitVec.toNat_ofNat]
def zsg (a : Int) : Int := if a = 0 then 0 else if a < 9223372036854775808 then 1 else -1
theorem iL_toInt {z : Int} (h : 0 ≤ z ∧ z < 18446744073709551616) : (iL z).toInt = if z < 9223372036854775808 then z else z - 18446744073709551616 := by
  show (iL z).toBitVec.toInt = _
  rw [BitVec.toInt_eq_toNat_cond, iL_toNat h]
  split <;> split <;> omega
theorem lg_z {a : Int} (h : 0 ≤ a ∧ a < 18446744073709551616) : lg_cmp (iL a) (iL 0) = iI (zsg a) := by
  have h1 := iL_toInt h
  have h0 : (iL 0).toInt = 0 := by decide
  unfold lg_cmp zsg
  by_cases e : a = 0
  · subst e; decide
  · have hne : ¬ iL a = iL 0 := fun z => by
      have := congrArg Int64.toInt z
      rw [h1, h0] at this
      split at this <;> omega
    by_cases hl : a < 9223372036854775808
    · rw [if_neg e, if_pos hl]
      have hlt : ¬ iL a < iL 0 := fun z => by rw [Int64.lt_iff_toInt_lt, h1, h0, if_pos hl] at z; omega
      have hgt : iL 0 < iL a := by rw [Int64.lt_iff_toInt_lt, h1, h0, if_pos hl]; omega
      first
        | (rw [if_neg hlt, if_neg hne]; rfl)
        | (rw [if_neg hlt, if_pos hgt]; rfl)
        | (rw [if_pos hgt]; rfl)
        | (rw [if_neg hne, if_neg hlt]; rfl)
        | (simp [hlt, hne, hgt]; rfl)
    · rw [if_neg e, if_neg hl]
      have hlt : iL a < iL 0 := by rw [Int64.lt_iff_toInt_lt, h1, h0, if_neg hl]; omega
      have hgt : ¬ iL 0 < iL a := fun z => by rw [Int64.lt_iff_toInt_lt, h1, h0, if_neg hl] at z; omega
      first
        | (rw [if_pos hlt]; rfl)
        | (rw [if_neg hgt, if_pos hlt]; rfl)
        | (rw [if_neg hgt, if_neg hne]; rfl)
        | (simp [hlt, hne, hgt]; rfl)
section ZL
variable {X : zX} {Z : zZ} {R : Room} {cc : ByteArray} {own : String} {nL : Nat} {k n : Nat} {ws : va_W} {pc : Nat} {lv : List (Nat × Value)} {st : List Value}
theorem z_ldc2 (ok : zOK X Z R cc own nL) {idx : Nat} {v : Int64} (hw : Cond.constantLong own idx v ∈ wsL_law) (d : decode cc pc = .ok (.ldc2_w idx, 3)) (h : zV X k n ws (pc + 3) lv (.long v :: st)) : zV X k n ws pc lv st := by
  obtain ⟨p, l, e0, R, s, m, args, below, meth, c, Q, Z, A, H0⟩ := X
  obtain ⟨rfl, rfl, hx, hb, hml, ho, hts, hK, hA⟩ := ok
  intro H locs ls hP hD hS hl
  exact lv_ldc2 hx hb ho (hts _ hw) d (h H locs ls hP hD hS hl)
theorem z_land255 (ok : zOK X Z R cc own nL) {a : Int} (d : decode cc pc = .ok (.land, 1)) (ha : 0 ≤ a ∧ a < 18446744073709551616) (h : zV X k n ws (pc + 1) lv (.long (iL (a % 256)) :: st)) : zV X k n ws pc lv (.long (iL 255) :: .long (iL a) :: st) := by
  obtain ⟨p, l, e0, R, s, m, args, below, meth, c, Q, Z, A, H0⟩ := X
  obtain ⟨rfl, rfl, hx, hb, hml, ho, hts, hK, hA⟩ := ok
  intro H locs ls hP hD hS hl
  exact lv_land hx hb d (by rw [iL_and255 ha]; exact h H locs ls hP hD hS hl)
theorem z_lushr8 (ok : zOK X Z R cc own nL) {a : Int} (d : decode cc pc = .ok (.lushr, 1)) (ha : 0 ≤ a ∧ a < 18446744073709551616) (h : zV X k n ws (pc + 1) lv (.long (iL (a / 256)) :: st)) : zV X k n ws pc lv (.int (iI 8) :: .long (iL a) :: st) := by
  obtain ⟨p, l, e0, R, s, m, args, below, meth, c, Q, Z, A, H0⟩ := X
  obtain ⟨rfl, rfl, hx, hb, hml, ho, hts, hK, hA⟩ := ok
  intro H locs ls hP hD hS hl
  exact lv_lushr hx hb d (iL_ushr8 ha) (h H locs ls hP hD hS hl)
theorem z_l2i (ok : zOK X Z R cc own nL) {a : Int} (d : decode cc pc = .ok (.l2i, 1)) (ha : 0 ≤ a ∧ a < 2147483648) (h : zV X k n ws (pc + 1) lv (.int (iI a) :: st)) : zV X k n ws pc lv (.long (iL a) :: st) := by
  obtain ⟨p, l, e0, R, s, m, args, below, meth, c, Q, Z, A, H0⟩ := X
  obtain ⟨rfl, rfl, hx, hb, hml, ho, hts, hK, hA⟩ := ok
  intro H locs ls hP hD hS hl
  exact lv_l2i hx hb d (iL_toI ha) (h H locs ls hP hD hS hl)
theorem z_lcmp0 (ok : zOK X Z R cc own nL) {a : Int} (d : decode cc pc = .ok (.lcmp, 1)) (ha : 0 ≤ a ∧ a < 18446744073709551616) (h : zV X k n ws (pc + 1) lv (.int (iI (zsg a)) :: st)) : zV X k n ws pc lv (.long (iL 0) :: .long (iL a) :: st) := by
  obtain ⟨p, l, e0, R, s, m, args, below, meth, c, Q, Z, A, H0⟩ := X
  obtain ⟨rfl, rfl, hx, hb, hml, ho, hts, hK, hA⟩ := ok
  intro H locs ls hP hD hS hl
  exact W.lcmp hx hb d (by rw [lg_z ha]; exact h H locs ls hP hD hS hl)
end ZL
theorem zsg_rng (a : Int) : -1 ≤ zsg a ∧ zsg a ≤ 1 ∧ (zsg a = 0 ↔ a = 0) := by
  unfold zsg
  (repeat' split) <;> omega
/-- the bytes of a number, the lowest first -/
def rsh (a : Int) : Nat → Int
  | 0 => a
  | i + 1 => rsh a i / 256
theorem rsh_rng {a : Int} (h : 0 ≤ a ∧ a < 18446744073709551616) : ∀ i : Nat, 0 ≤ rsh a i ∧ rsh a i < 18446744073709551616
  | 0 => h
  | i + 1 => by
    have := rsh_rng h i
    show 0 ≤ rsh a i / 256 ∧ rsh a i / 256 < _
    omega
theorem rsh_8 {a : Int} (h : 0 ≤ a ∧ a < 18446744073709551616) : rsh a 8 = 0 := by
  show a / 256 / 256 / 256 / 256 / 256 / 256 / 256 / 256 = 0
  omega
/-- n characters: their codes, and nothing above -/
def pcK (a : Int) (n : Nat) : Prop := 1 ≤ n ∧ n ≤ 8 ∧ (∀ j : Nat, j < n → 33 ≤ rsh a j % 256 ∧ rsh a j % 256 ≤ 126) ∧ rsh a n = 0
theorem pcK_u {a : Int} {n m : Nat} (h : pcK a n) (h' : pcK a m) : n = m := by
  rcases Nat.lt_trichotomy n m with q | q | q
  · have := h'.2.2.1 n q; have := h.2.2.2; omega
  · exact q
  · have := h.2.2.1 m q; have := h'.2.2.2; omega
noncomputable def pcN (a : Int) : Int := @dite Int (∃ n, pcK a n) (Classical.propDecidable _) (fun h => ((Classical.choose h : Nat) : Int)) (fun _ => 0)
theorem pcN_yes {a : Int} {n : Nat} (h : pcK a n) : pcN a = (n : Int) := by
  have hx : ∃ n, pcK a n := ⟨n, h⟩
  have e : pcN a = ((Classical.choose hx : Nat) : Int) := dif_pos hx
  rw [e, pcK_u (Classical.choose_spec hx) h]
theorem pcN_no {a : Int} (h : ∀ n, ¬ pcK a n) : pcN a = 0 := dif_neg (fun ⟨n, hn⟩ => h n hn)
def putP (P : Int → Int) (ln a n : Int) : Int → Int := fun j => if ln ≤ j ∧ j < ln + n then rsh a (n - 1 - (j - ln)).toNat % 256 else P j
theorem pc_bad {a : Int} {n : Nat} (h1 : ∀ j : Nat, j < n → 33 ≤ rsh a j % 256 ∧ rsh a j % 256 ≤ 126) (hx : ¬ (33 ≤ rsh a n % 256 ∧ rsh a n % 256 ≤ 126)) (h : ¬ rsh a n = 0 ∨ n = 0) : pcN a = 0 := by
  refine pcN_no (fun m hm => ?_)
  rcases Nat.lt_trichotomy n m with z | z | z
  · exact hx (hm.2.2.1 n z)
  · subst z
    rcases h with h | h
    · exact h hm.2.2.2
    · have := hm.1; omega
  · have h2 := h1 m z
    have h3 := hm.2.2.2
    omega
theorem putP_of {P pd : Int → Int} {ln a : Int} {n : Nat} (h1 : ∀ j : Int, ln - 1 < j → j < ln + (n : Int) → pd j = rsh a (n - 1 - (j - ln)).toNat % 256) (h2 : ∀ j : Int, (j ≤ ln - 1 ∨ ln + (n : Int) ≤ j) → pd j = P j) : pd = putP P ln a (n : Int) := by
  funext j
  unfold putP
  by_cases hj : ln ≤ j ∧ j < ln + (n : Int)
  · rw [if_pos hj]; exact h1 j (by omega) hj.2
  · rw [if_neg hj]; exact h2 j (by omega)
