/-! longs as images of Int, without a sign -/
def iL (z : Int) : Int64 := Int64.ofInt z
theorem iL_bv (z : Int) : (iL z).toBitVec = BitVec.ofInt 64 z := rfl
theorem iL_nat {z : Int} (h : 0 ≤ z) : iL z = Int64.ofNat z.toNat := by
  apply Int64.toBitVec_inj.mp
  rw [iL_bv]
  show BitVec.ofInt 64 z = BitVec.ofNat 64 z.toNat
  obtain ⟨n, rfl⟩ : ∃ n : Nat, z = (n : Int) := ⟨z.toNat, by omega⟩
  rw [BitVec.ofInt_natCast]
  rfl
theorem iL_toNat {z : Int} (h : 0 ≤ z ∧ z < 18446744073709551616) : (iL z).toBitVec.toNat = z.toNat := by
  rw [iL_nat h.1]
  show (BitVec.ofNat 64 z.toNat).toNat = z.toNat
  rw [BitVec.toNat_ofNat]
  exact Nat.mod_eq_of_lt (by omega)
def zsg (a : Int) : Int := if a = 0 then 0 else if a < 9223372036854775808 then 1 else -1
theorem iL_toInt {z : Int} (h : 0 ≤ z ∧ z < 18446744073709551616) : (iL z).toInt = if z < 9223372036854775808 then z else z - 18446744073709551616 := by
  show (iL z).toBitVec.toInt = _
  rw [BitVec.toInt_eq_toNat_cond, iL_toNat h]
  split <;> split <;> omega
theorem lg_z {a : Int} (h : 0 ≤ a ∧ a < 18446744073709551616) : lg_cmp (iL a) (iL 0) = iI (zsg a) := by
  have h1 := iL_toInt h
  have h0 : (iL 0).toInt = 0 := by decide
  unfold lg_cmp zsg
  by_cases e : a = 0
  · subst e; decide
  · have hne : ¬ iL a = iL 0 := fun z => by
      have := congrArg Int64.toInt z
      rw [h1, h0] at this
      split at this <;> omega
    by_cases hl : a < 9223372036854775808
    · rw [if_neg e, if_pos hl]
      have hlt : ¬ iL a < iL 0 := fun z => by rw [Int64.lt_iff_toInt_lt, h1, h0, if_pos hl] at z; omega
      have hgt : iL 0 < iL a := by rw [Int64.lt_iff_toInt_lt, h1, h0, if_pos hl]; omega
      first
        | (rw [if_neg hlt, if_neg hne]; rfl)
        | (rw [if_neg hlt, if_pos hgt]; rfl)
        | (rw [if_pos hgt]; rfl)
        | (rw [if_neg hne, if_neg hlt]; rfl)
        | (simp [hlt, hne, hgt]; rfl)
    · rw [if_neg e, if_neg hl]
      have hlt : iL a < iL 0 := by rw [Int64.lt_iff_toInt_lt, h1, h0, if_neg hl]; omega
      have hgt : ¬ iL 0 < iL a := fun z => by rw [Int64.lt_iff_toInt_lt, h1, h0, if_neg hl] at z; omega
      first
        | (rw [if_pos hlt]; rfl)
        | (rw [if_neg hgt, if_pos hlt]; rfl)
        | (rw [if_neg hgt, if_neg hne]; rfl)
        | (simp [hlt, hne, hgt]; rfl)
section ZL
variable {X : zX} {Z : zZ} {R : Room} {cc : ByteArray} {own : String} {nL : Nat} {k n : Nat} {ws : va_W} {pc : Nat} {lv : List (Nat × Value)} {st : List Value}
theorem z_ldc2 (ok : zOK X Z R cc own nL) {idx : Nat} {v : Int64} (hw : Cond.constantLong own idx v ∈ wsL_law) (d : decode cc pc = .ok (.ldc2_w idx, 3)) (h : zV X k n ws (pc + 3) lv (.long v :: st)) : zV X k n ws pc lv st := by
  obtain ⟨p, l, e0, R, s, m, args, below, meth, c, Q, Z, A, H0⟩ := X
  obtain ⟨rfl, rfl, hx, hb, hml, ho, hts, hK, hA⟩ := ok
  intro H locs ls hP hD hS hl
  exact lv_ldc2 hx hb ho (hts _ hw) d (h H locs ls hP hD hS hl)
theorem z_lcmp0 (ok : zOK X Z R cc own nL) {a : Int} (d : decode cc pc = .ok (.lcmp, 1)) (ha : 0 ≤ a ∧ a < 18446744073709551616) (h : zV X k n ws (pc + 1) lv (.int (iI (zsg a)) :: st)) : zV X k n ws pc lv (.long (iL 0) :: .long (iL a) :: st) := by
  obtain ⟨p, l, e0, R, s, m, args, below, meth, c, Q, Z, A, H0⟩ := X
  obtain ⟨rfl, rfl, hx, hb, hml, ho, hts, hK, hA⟩ := ok
  intro H locs ls hP hD hS hl
  exact W.lcmp hx hb d (by rw [lg_z ha]; exact h H locs ls hP hD hS hl)
end ZL
