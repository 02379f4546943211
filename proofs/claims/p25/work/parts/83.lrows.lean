/-! rows of the law -/
def xI (xs : Nat → Int32) (e : Int) : Int := (xs e.toNat).toInt
theorem xI_v (xs : Nat → Int32) (e : Int) : xs e.toNat = iI (xI xs e) := by
  unfold xI iI
  exact (Int32.ofInt_toInt _).symm
def zSC (X : zX) (b L : Nat) (xs : Nat → Int32) : Prop := match X with | (_, _, _, _, s, _, _, _, _, _, _, _, A, H0) => va_X b L xs s H0 ∧ b < H0.size ∧ ¬ A b ∧ L ≤ 2048
section ZL2
variable {X : zX} {Z : zZ} {R : Room} {cc : ByteArray} {own : String} {nL : Nat} {k n : Nat} {ws ws' : va_W} {pc : Nat} {lv : List (Nat × Value)} {st : List Value} {bs L : Nat} {xs : Nat → Int32}
theorem z_sld (ok : zOK X Z R cc own nL) (hsc : zSC X bs L xs) {e : Int} (d : decode cc pc = .ok (.iaload, 1)) (hi : 0 ≤ e ∧ e < (L : Int)) (h : zV X k n ws (pc + 1) lv (.int (iI (xI xs e)) :: st)) : zV X k n ws pc lv (.int (iI e) :: .ref bs :: st) := by
  obtain ⟨p, l, e', R, s, m, args, below, meth, c, Q, Z, A, H0⟩ := X
  obtain ⟨rfl, rfl, hx, hb, hml, ho, hts, hK, hA⟩ := ok
  obtain ⟨hX, hbl, hbA, hL⟩ := hsc
  intro H locs ls hP hD hS hlv
  refine va_sld hx hb hX hbl hbA hS (iI_in hi (by omega)) d ?_
  rw [iI_cl ⟨hi.1, by omega⟩, xI_v xs e]
  exact h H locs ls hP hD hS hlv
theorem z_slen (ok : zOK X Z R cc own nL) (hsc : zSC X bs L xs) (d : decode cc pc = .ok (.arraylength, 1)) (h : zV X k n ws (pc + 1) lv (.int (iI (L : Int)) :: st)) : zV X k n ws pc lv (.ref bs :: st) := by
  obtain ⟨p, l, e', R, s, m, args, below, meth, c, Q, Z, A, H0⟩ := X
  obtain ⟨rfl, rfl, hx, hb, hml, ho, hts, hK, hA⟩ := ok
  obtain ⟨hX, hbl, hbA, hL⟩ := hsc
  intro H locs ls hP hD hS hlv
  exact va_slen hx hb hX hbl hbA hS d (h H locs ls hP hD hS hlv)
end ZL2
