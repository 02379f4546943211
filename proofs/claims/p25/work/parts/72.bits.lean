/-! the bits of a long, counted -/
section ZQ
variable {X : zX} {Z : zZ} {R : Room} {cc : ByteArray} {own : String} {nL k n : Nat} {ws : va_W} {pc : Nat} {lv : List (Nat × Value)} {st : List Value}
theorem z_ladd (ok : zOK X Z R cc own nL) {x y v : Int64} (d : decode cc pc = .ok (.ladd, 1)) (hv : x + y = v) (h : zV X k n ws (pc + 1) lv (.long v :: st)) : zV X k n ws pc lv (.long y :: .long x :: st) := by
  obtain ⟨p, l, e', R, s, m, args, below, meth, c, Q, Z, A, H0⟩ := X
  obtain ⟨rfl, rfl, hx, hb, hml, ho, hts, hK, hA⟩ := ok
  intro H locs ls hP hD hS hl
  subst hv
  exact lv_ladd hx hb d (h H locs ls hP hD hS hl)
theorem z_lsubt (ok : zOK X Z R cc own nL) {x y v : Int64} (d : decode cc pc = .ok (.lsub, 1)) (hv : x - y = v) (h : zV X k n ws (pc + 1) lv (.long v :: st)) : zV X k n ws pc lv (.long y :: .long x :: st) := by
  obtain ⟨p, l, e', R, s, m, args, below, meth, c, Q, Z, A, H0⟩ := X
  obtain ⟨rfl, rfl, hx, hb, hml, ho, hts, hK, hA⟩ := ok
  intro H locs ls hP hD hS hl
  subst hv
  exact lv_lsub hx hb d (h H locs ls hP hD hS hl)
theorem z_iand (ok : zOK X Z R cc own nL) {x y v : Int32} (d : decode cc pc = .ok (.iand, 1)) (hv : x &&& y = v) (h : zV X k n ws (pc + 1) lv (.int v :: st)) : zV X k n ws pc lv (.int y :: .int x :: st) := by
  obtain ⟨p, l, e', R, s, m, args, below, meth, c, Q, Z, A, H0⟩ := X
  obtain ⟨rfl, rfl, hx, hb, hml, ho, hts, hK, hA⟩ := ok
  intro H locs ls hP hD hS hl
  subst hv
  exact lv_iand hx hb d (h H locs ls hP hD hS hl)
theorem z_l2ig (ok : zOK X Z R cc own nL) {x : Int64} {v : Int32} (d : decode cc pc = .ok (.l2i, 1)) (hv : x.toInt32 = v) (h : zV X k n ws (pc + 1) lv (.int v :: st)) : zV X k n ws pc lv (.long x :: st) := by
  obtain ⟨p, l, e', R, s, m, args, below, meth, c, Q, Z, A, H0⟩ := X
  obtain ⟨rfl, rfl, hx, hb, hml, ho, hts, hK, hA⟩ := ok
  intro H locs ls hP hD hS hl
  exact lv_l2i hx hb d hv (h H locs ls hP hD hS hl)
end ZQ
theorem iI_bv (a : Int) : (iI a).toBitVec = BitVec.ofInt 32 a := rfl
theorem iand_iI {a : Int} {w : Nat} (hw : w < 31) : iI a &&& iI ((2 ^ w - 1 : Nat) : Int) = iI (a % ((2 ^ w : Nat) : Int)) := by
  have hp : 0 < 2 ^ w := Nat.pow_pos (by decide)
  have hlt : 2 ^ w < 2 ^ 31 := Nat.pow_lt_pow_right (by decide) hw
  apply Int32.toBitVec_inj.mp
  rw [Int32.toBitVec_and, iI_bv, iI_bv, iI_bv]
  apply BitVec.eq_of_toNat_eq
  rw [BitVec.toNat_and, BitVec.toNat_ofInt, BitVec.toNat_ofInt, BitVec.toNat_ofInt]
  have e1 : (((2 ^ w - 1 : Nat) : Int) % ((2 ^ 32 : Nat) : Int)).toNat = 2 ^ w - 1 := by omega
  rw [e1, Nat.and_two_pow_sub_one_eq_mod]
  have hdvd : ((2 ^ w : Nat) : Int) ∣ ((2 ^ 32 : Nat) : Int) := Int.natCast_dvd_natCast.mpr (Nat.pow_dvd_pow 2 (by omega))
  have e2 : (a % ((2 ^ 32 : Nat) : Int)) % ((2 ^ w : Nat) : Int) = a % ((2 ^ w : Nat) : Int) := Int.emod_emod_of_dvd a hdvd
  have h0 : 0 ≤ a % ((2 ^ 32 : Nat) : Int) := Int.emod_nonneg a (by decide)
  have h3 : 0 ≤ a % ((2 ^ w : Nat) : Int) := Int.emod_nonneg a (by omega)
  have h4 : a % ((2 ^ w : Nat) : Int) < ((2 ^ w : Nat) : Int) := Int.emod_lt_of_pos a (by omega)
  have e3 : (a % ((2 ^ w : Nat) : Int)) % ((2 ^ 32 : Nat) : Int) = a % ((2 ^ w : Nat) : Int) := Int.emod_eq_of_lt h3 (by omega)
  rw [e3]
  apply Int.ofNat.inj
  show (((a % ((2 ^ 32 : Nat) : Int)).toNat % 2 ^ w : Nat) : Int) = ((a % ((2 ^ w : Nat) : Int)).toNat : Int)
  rw [Int.natCast_emod, Int.toNat_of_nonneg h0, Int.toNat_of_nonneg h3]
  exact e2
theorem and_cat {x y P Q : Nat} (hx : x < 256) (hy : y < 256) : (x + 256 * P) &&& (y + 256 * Q) = (x &&& y) + 256 * (P &&& Q) := by
  have h1 : ((x + 256 * P) &&& (y + 256 * Q)) % 2 ^ 8 = ((x + 256 * P) % 2 ^ 8) &&& ((y + 256 * Q) % 2 ^ 8) := Nat.and_mod_two_pow
  have h2 : ((x + 256 * P) &&& (y + 256 * Q)) / 2 ^ 8 = ((x + 256 * P) / 2 ^ 8) &&& ((y + 256 * Q) / 2 ^ 8) := Nat.and_div_two_pow
  rw [show (x + 256 * P) % 2 ^ 8 = x by omega, show (y + 256 * Q) % 2 ^ 8 = y by omega] at h1
  rw [show (x + 256 * P) / 2 ^ 8 = P by omega, show (y + 256 * Q) / 2 ^ 8 = Q by omega] at h2
  omega
theorem sh1_f : ∀ t : Fin 256, t.val &&& 85 = (t.val % 128) &&& 85 := by decide +kernel
theorem sh1 {a V M : Nat} (ha : a < 256) : ((a + 256 * V) / 2) &&& (85 + 256 * M) = ((a / 2) &&& 85) + 256 * ((V / 2) &&& M) := by
  have e : (a + 256 * V) / 2 = (a / 2 + 128 * (V % 2)) + 256 * (V / 2) := by omega
  rw [e, and_cat (by omega) (by decide)]
  have h := sh1_f ⟨a / 2 + 128 * (V % 2), by omega⟩
  have h : (a / 2 + 128 * (V % 2)) &&& 85 = ((a / 2 + 128 * (V % 2)) % 128) &&& 85 := h
  rw [h, show (a / 2 + 128 * (V % 2)) % 128 = a / 2 by omega]
theorem sh2_f : ∀ t : Fin 256, t.val &&& 51 = (t.val % 64) &&& 51 := by decide +kernel
theorem sh2 {a V M : Nat} (ha : a < 256) : ((a + 256 * V) / 4) &&& (51 + 256 * M) = ((a / 4) &&& 51) + 256 * ((V / 4) &&& M) := by
  have e : (a + 256 * V) / 4 = (a / 4 + 64 * (V % 4)) + 256 * (V / 4) := by omega
  rw [e, and_cat (by omega) (by decide)]
  have h := sh2_f ⟨a / 4 + 64 * (V % 4), by omega⟩
  have h : (a / 4 + 64 * (V % 4)) &&& 51 = ((a / 4 + 64 * (V % 4)) % 64) &&& 51 := h
  rw [h, show (a / 4 + 64 * (V % 4)) % 64 = a / 4 by omega]
theorem sh0_f : ∀ t : Fin 256, t.val &&& 51 = (t.val % 256) &&& 51 := by decide +kernel
theorem sh0 {a V M : Nat} (ha : a < 256) : ((a + 256 * V) / 1) &&& (51 + 256 * M) = ((a / 1) &&& 51) + 256 * ((V / 1) &&& M) := by
  have e : (a + 256 * V) / 1 = (a / 1 + 256 * (V % 1)) + 256 * (V / 1) := by omega
  rw [e, and_cat (by omega) (by decide)]
  have h := sh0_f ⟨a / 1 + 256 * (V % 1), by omega⟩
  have h : (a / 1 + 256 * (V % 1)) &&& 51 = ((a / 1 + 256 * (V % 1)) % 256) &&& 51 := h
  rw [h, show (a / 1 + 256 * (V % 1)) % 256 = a / 1 by omega]
theorem shz_f : ∀ t : Fin 256, t.val &&& 15 = (t.val % 256) &&& 15 := by decide +kernel
theorem shz {a V M : Nat} (ha : a < 256) : ((a + 256 * V) / 1) &&& (15 + 256 * M) = ((a / 1) &&& 15) + 256 * ((V / 1) &&& M) := by
  have e : (a + 256 * V) / 1 = (a / 1 + 256 * (V % 1)) + 256 * (V / 1) := by omega
  rw [e, and_cat (by omega) (by decide)]
  have h := shz_f ⟨a / 1 + 256 * (V % 1), by omega⟩
  have h : (a / 1 + 256 * (V % 1)) &&& 15 = ((a / 1 + 256 * (V % 1)) % 256) &&& 15 := h
  rw [h, show (a / 1 + 256 * (V % 1)) % 256 = a / 1 by omega]
def p8a (a : Nat) : Nat := a - ((a / 2) &&& 85)
def p8b (a : Nat) : Nat := ((p8a a / 1) &&& 51) + ((p8a a / 4) &&& 51)
def p8c (a : Nat) : Nat := ((p8b a + p8b a / 16) / 1) &&& 15
theorem p8_f : ∀ t : Fin 256, ((t.val / 2) &&& 85) ≤ t.val ∧ p8a t.val < 256 ∧ p8b t.val < 256 ∧ p8b t.val % 16 ≤ 4 ∧ p8b t.val / 16 ≤ 4 ∧ p8c t.val = t.val % 2 + t.val / 2 % 2 + t.val / 4 % 2 + t.val / 8 % 2 + t.val / 16 % 2 + t.val / 32 % 2 + t.val / 64 % 2 + t.val / 128 % 2 := by decide +kernel
theorem p8 {a : Nat} (h : a < 256) : ((a / 2) &&& 85) ≤ a ∧ p8a a < 256 ∧ p8b a < 256 ∧ p8b a % 16 ≤ 4 ∧ p8b a / 16 ≤ 4 ∧ p8c a = a % 2 + a / 2 % 2 + a / 4 % 2 + a / 8 % 2 + a / 16 % 2 + a / 32 % 2 + a / 64 % 2 + a / 128 % 2 := p8_f ⟨a, h⟩
