/-! the pad of the class: one order read -/
def sdC (c : Int) : Int := if c = 101 then 0 else if c = 119 then 1 else if c = 110 then 2 else if c = 115 then 3 else -1
def rdY (P : Int → Int) (ln pl od : Int) (k1 f1 s1 : Int → Int) (r pl' od' : Int) (k2 f2 s2 : Int → Int) : Prop := ordOK P ln pl ∧ r = 1 ∧ pl' = ordE P ln pl ∧ od' = od + 1 ∧ k2 = zu k1 od (sgn P ln pl) ∧ f2 = zu f1 od (numV P ln (pl + 1)) ∧ ∃ x : Int, s2 = zu s1 od x ∧ (sgn P ln pl ≠ 116 → x = ordS P ln pl)
def rdN (P : Int → Int) (ln pl od : Int) (k1 f1 s1 : Int → Int) (r pl' od' : Int) (k2 f2 s2 : Int → Int) : Prop := ¬ ordOK P ln pl ∧ r = 0 ∧ pl' = ordE P ln pl ∧ od' = od ∧ k2 = k1 ∧ f2 = f1 ∧ s2 = s1
def rdO (P : Int → Int) (ln pl od : Int) (k1 f1 s1 : Int → Int) (r pl' od' : Int) (k2 f2 s2 : Int → Int) : Prop := rdY P ln pl od k1 f1 s1 r pl' od' k2 f2 s2 ∨ rdN P ln pl od k1 f1 s1 r pl' od' k2 f2 s2
section RD
variable {P : Int → Int} {ln pl od : Int} {k1 f1 s1 : Int → Int}
theorem rdO_n0 (h : ¬ sgn P ln pl = 115 ∧ ¬ sgn P ln pl = 98 ∧ ¬ sgn P ln pl = 109 ∧ ¬ sgn P ln pl = 116) : rdN P ln pl od k1 f1 s1 0 pl od k1 f1 s1 := by
  have hk : ¬ knd P ln pl := by unfold knd; omega
  refine ⟨fun z => hk z.1, rfl, ?_, rfl, rfl, rfl, rfl⟩
  unfold ordE
  exact (zif_f hk).symm
theorem rdO_n1 {p' : Int} (hk : knd P ln pl) (hn : numV P ln (pl + 1) < 0) (hp : p' = numP P ln (pl + 1)) : rdN P ln pl od k1 f1 s1 0 p' od k1 f1 s1 := by
  refine ⟨fun z => by have := z.2.1; omega, rfl, ?_, rfl, rfl, rfl, rfl⟩
  unfold ordE
  rw [zif_t hk, if_pos hn, hp]
  unfold numV at hn
  unfold numP
  split
  · rename_i h
    rw [if_pos h] at hn
    split at hn <;> omega
  · rfl
theorem rdO_ns {p' : Int} (hk : sgn P ln pl = 115) (hn : 0 ≤ numV P ln (pl + 1)) (hg : sgn P ln (numP P ln (pl + 1)) = 62) (h2 : numV P ln (numP P ln (pl + 1) + 1) < 0) (hp : p' = numP P ln (numP P ln (pl + 1) + 1)) : rdN P ln pl od k1 f1 s1 0 p' od k1 f1 s1 := by
  refine ⟨fun z => by have := (z.2.2.1 hk).2; omega, rfl, ?_, rfl, rfl, rfl, rfl⟩
  unfold ordE
  rw [zif_t (show knd P ln pl from Or.inl hk), if_neg (by omega), if_neg (by omega), if_pos hk, if_pos hg, hp]
theorem rdO_ng {p' : Int} (hk : sgn P ln pl = 115) (hn : 0 ≤ numV P ln (pl + 1)) (hg : ¬ sgn P ln (numP P ln (pl + 1)) = 62) (hp : p' = numP P ln (pl + 1)) : rdN P ln pl od k1 f1 s1 0 p' od k1 f1 s1 := by
  refine ⟨fun z => hg (z.2.2.1 hk).1, rfl, ?_, rfl, rfl, rfl, rfl⟩
  unfold ordE
  rw [zif_t (show knd P ln pl from Or.inl hk), if_neg (by omega), if_neg (by omega), if_pos hk, if_neg hg, hp]
theorem rdO_nd {p' : Int} (hk : knd P ln pl) (h5 : ¬ sgn P ln pl = 115) (h6 : ¬ sgn P ln pl = 116) (hn : 0 ≤ numV P ln (pl + 1)) (hs : sdV P ln (numP P ln (pl + 1)) < 0) (hp : p' = (if sdV P ln (numP P ln (pl + 1)) < 0 then numP P ln (pl + 1) else numP P ln (pl + 1) + 1)) : rdN P ln pl od k1 f1 s1 0 p' od k1 f1 s1 := by
  refine ⟨fun z => by have := z.2.2.2 (by unfold knd at hk; omega); omega, rfl, ?_, rfl, rfl, rfl, rfl⟩
  rw [if_pos hs] at hp
  unfold ordE
  rw [zif_t hk, if_neg (by omega), if_neg h6, if_neg h5, if_pos hs, hp]
theorem rdO_yt {v p' x : Int} (hk : sgn P ln pl = 116) (hv : v = numV P ln (pl + 1)) (hn : 0 ≤ numV P ln (pl + 1)) (hp : p' = numP P ln (pl + 1)) : rdY P ln pl od k1 f1 s1 1 p' (od + 1) (zu k1 od (sgn P ln pl)) (zu f1 od v) (zu s1 od x) := by
  subst hv
  refine ⟨⟨Or.inr (Or.inr (Or.inr hk)), hn, fun z => by omega, fun z => by omega⟩, rfl, ?_, rfl, rfl, rfl, x, rfl, fun z => absurd hk z⟩
  unfold ordE
  rw [zif_t (show knd P ln pl from Or.inr (Or.inr (Or.inr hk))), if_neg (by omega), if_pos hk, hp]
theorem rdO_ys {v p' x : Int} (hk : sgn P ln pl = 115) (hv : v = numV P ln (pl + 1)) (hn : 0 ≤ numV P ln (pl + 1)) (hg : sgn P ln (numP P ln (pl + 1)) = 62) (hx : x = numV P ln (numP P ln (pl + 1) + 1)) (h2 : 0 ≤ numV P ln (numP P ln (pl + 1) + 1)) (hp : p' = numP P ln (numP P ln (pl + 1) + 1)) : rdY P ln pl od k1 f1 s1 1 p' (od + 1) (zu k1 od (sgn P ln pl)) (zu f1 od v) (zu s1 od x) := by
  subst hv
  refine ⟨⟨Or.inl hk, hn, fun _ => ⟨hg, h2⟩, fun z => by omega⟩, rfl, ?_, rfl, rfl, rfl, x, rfl, fun _ => by unfold ordS; rw [if_pos hk]; exact hx⟩
  unfold ordE
  rw [zif_t (show knd P ln pl from Or.inl hk), if_neg (by omega), if_neg (by omega), if_pos hk, if_pos hg, hp]
theorem rdO_yd {v p' x : Int} (hk : knd P ln pl) (h5 : ¬ sgn P ln pl = 115) (h6 : ¬ sgn P ln pl = 116) (hv : v = numV P ln (pl + 1)) (hn : 0 ≤ numV P ln (pl + 1)) (hx : x = sdV P ln (numP P ln (pl + 1))) (hs : 0 ≤ sdV P ln (numP P ln (pl + 1))) (hp : p' = (if sdV P ln (numP P ln (pl + 1)) < 0 then numP P ln (pl + 1) else numP P ln (pl + 1) + 1)) : rdY P ln pl od k1 f1 s1 1 p' (od + 1) (zu k1 od (sgn P ln pl)) (zu f1 od v) (zu s1 od x) := by
  subst hv
  rw [if_neg (by omega)] at hp
  refine ⟨⟨hk, hn, fun z => absurd z h5, fun _ => hs⟩, rfl, ?_, rfl, rfl, rfl, x, rfl, fun _ => by unfold ordS; rw [if_neg h5]; exact hx⟩
  unfold ordE
  rw [zif_t hk, if_neg (by omega), if_neg h6, if_neg h5, if_neg (by omega), hp]
end RD
theorem z_i2c {X : zX} {Z : zZ} {R : Room} {cc : ByteArray} {own : String} {nL k n : Nat} {ws : va_W} {pc : Nat} {lv : List (Nat × Value)} {st : List Value} (ok : zOK X Z R cc own nL) {a : Int} (d : decode cc pc = .ok (.i2c, 1)) (ha : 0 ≤ a ∧ a < 65536) (h : zV X k n ws (pc + 1) lv (.int (iI a) :: st)) : zV X k n ws pc lv (.int (iI a) :: st) := by
  obtain ⟨p, l, e0, R, s, m, args, below, meth, c, Q, Z, A, H0⟩ := X
  obtain ⟨rfl, rfl, hx, hb, hml, ho, hts, hK, hA⟩ := ok
  intro H locs ls hP hD hS hl
  refine lv_i2c hx hb d ?_ (h H locs ls hP hD hS hl)
  rw [pk_char]
  rw [iI_nat ha.1]
  have e : (nI a.toNat).toBitVec.toNat = a.toNat := by
    rw [iI_nI]
    unfold iI
    show (BitVec.ofInt 32 ((a.toNat : Nat) : Int)).toNat = a.toNat
    rw [BitVec.ofInt_natCast, BitVec.toNat_ofNat]
    exact Nat.mod_eq_of_lt (by omega)
  rw [e, Nat.mod_eq_of_lt (by omega)]
theorem znarC {v : Int} (h : 0 ≤ v ∧ v < 65536) : vp_nar .char (iI v) = iI v := by
  unfold vp_nar
  rw [znC v h]
theorem iL_ushr {a : Int} (h : 0 ≤ a ∧ a < 18446744073709551616) {s : Int} {m : Nat} (hm : m < 8) (hs : s = 8 * (m : Int)) : ((iL a).toUInt64 >>> ((iI s).toInt64.toUInt64 &&& Int64.toUInt64 63)).toInt64 = iL (rsh a m) := by
  have hr : ∀ i : Nat, rsh a i = ((a.toNat / 256 ^ i : Nat) : Int) := by
    intro i
    induction i with
    | zero => show a = ((a.toNat / 1 : Nat) : Int); rw [Nat.div_one]; omega
    | succ i ih =>
      show rsh a i / 256 = _
      rw [ih, Nat.pow_succ, ← Nat.div_div_eq_div_mul]
      omega
  apply Int64.toBitVec_inj.mp
  apply BitVec.eq_of_toNat_eq
  have hrr := rsh_rng h m
  rw [hs, sh_amt (by omega), iL_toNat hrr]
  show ((iL a).toUInt64 >>> UInt64.ofNat (8 * (m : Int)).toNat).toNat = _
  rw [UInt64.toNat_shiftRight]
  show (iL a).toBitVec.toNat >>> ((UInt64.ofNat (8 * (m : Int)).toNat).toNat % 64) = _
  have e8 : (8 * (m : Int)).toNat = 8 * m := by omega
  have e9 : (UInt64.ofNat (8 * m)).toNat % 64 = 8 * m := by
    rw [UInt64.toNat_ofNat', Nat.mod_eq_of_lt (a := 8 * m) (by omega), Nat.mod_eq_of_lt (by omega)]
  rw [e8, e9, iL_toNat h, Nat.shiftRight_eq_div_pow, hr m, Nat.pow_mul]
  have e256 : (2 : Nat) ^ 8 = 256 := rfl
  rw [e256]
  rfl
theorem rdO_end {P : Int → Int} {ln pl i n : Int} {k : Nat} (hf : flt P ln 100 0 0 = flt P ln (k + 1) pl n) (h : ¬ ordOK P ln pl) (he : i = ordE P ln pl) : i = (flt P ln 100 0 0).1 := by
  rw [hf, flt_e h]; exact he
theorem ords_up {P : Int → Int} {ln x : Int} {k : Nat} {k1 f1 s1 : Int → Int} (h : ordsOK P ln (k : Int) k1 f1 s1) (ho : ordOK P ln (ost P ln k)) (hx : sgn P ln (ost P ln k) ≠ 116 → x = ordS P ln (ost P ln k)) : ordsOK P ln ((k + 1 : Nat) : Int) (zu k1 (k : Int) (sgn P ln (ost P ln k))) (zu f1 (k : Int) (numV P ln (ost P ln k + 1))) (zu s1 (k : Int) x) := by
  intro j h0 h1
  by_cases e : j = (k : Int)
  · subst e
    rw [zu_s, zu_s, zu_s, Int.toNat_natCast]
    exact ⟨rfl, rfl, hx, ho⟩
  · rw [zu_n e, zu_n e, zu_n e]
    exact h j h0 (by omega)
theorem pcN_z {a : Int} (h : rsh a 0 = 0) : pcN a = 0 := pcN_no (fun m hm => by
  have h1 := hm.2.2.1 0 (by have := hm.1; omega)
  rw [h] at h1
  exact absurd h1.1 (by decide))
theorem pcN_end {a x : Int} {n : Nat} (h0 : x = rsh a n) (h1 : ∀ j : Nat, j < n → 33 ≤ rsh a j % 256 ∧ rsh a j % 256 ≤ 126) (h2 : n ≤ 8) (hx : x = 0) : (n : Int) = pcN a := by
  by_cases hn : n = 0
  · subst hn
    exact (pcN_z (h0.symm.trans hx)).symm
  · exact (pcN_yes ⟨by omega, h2, h1, h0.symm.trans hx⟩).symm
