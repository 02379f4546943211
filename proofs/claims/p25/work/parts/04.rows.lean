/-! own rows over the kit: numbers as images of Int, a context X, worlds as lists of cells -/
def iI (z : Int) : Int32 := Int32.ofInt z
theorem iI_add (a b : Int) : iI a + iI b = iI (a + b) := by
  unfold iI; rw [Int32.ofInt_add]
theorem iI_sub (a b : Int) : iI a - iI b = iI (a - b) := by
  unfold iI; rw [Int32.ofInt_sub]
theorem iI_mul (a b : Int) : iI a * iI b = iI (a * b) := by
  unfold iI; rw [Int32.ofInt_mul]
theorem iI_toInt {z : Int} (h : -2147483648 ≤ z ∧ z < 2147483648) : (iI z).toInt = z := by
  unfold iI
  rw [Int32.toInt_ofInt]
  obtain ⟨h1, h2⟩ := h
  have e : ((2 : Nat) ^ 32 : Nat) = 4294967296 := rfl
  simp only [Int.bmod, Int32.size] at *
  omega
theorem iI_lt {a b : Int} (ha : -2147483648 ≤ a ∧ a < 2147483648) (hb : -2147483648 ≤ b ∧ b < 2147483648) : iI a < iI b ↔ a < b := by
  rw [Int32.lt_iff_toInt_lt, iI_toInt ha, iI_toInt hb]
theorem iI_le {a b : Int} (ha : -2147483648 ≤ a ∧ a < 2147483648) (hb : -2147483648 ≤ b ∧ b < 2147483648) : iI a ≤ iI b ↔ a ≤ b := by
  rw [Int32.le_iff_toInt_le, iI_toInt ha, iI_toInt hb]
theorem iI_eq {a b : Int} (ha : -2147483648 ≤ a ∧ a < 2147483648) (hb : -2147483648 ≤ b ∧ b < 2147483648) : iI a = iI b ↔ a = b := by
  rw [← Int32.toInt_inj, iI_toInt ha, iI_toInt hb]
theorem iI_nI (n : Nat) : nI n = iI (n : Int) := rfl
theorem iI_nat {z : Int} (h : 0 ≤ z) : iI z = nI z.toNat := by
  rw [iI_nI, Int.toNat_of_nonneg h]
theorem iI_cl {z : Int} (h : 0 ≤ z ∧ z < 2147483648) : (iI z).toNatClampNeg = z.toNat := by
  rw [iI_nat h.1]
  exact nI_clamp (by omega)
theorem iI_in {z : Int} {n : Nat} (h : 0 ≤ z ∧ z < (n : Int)) (hn : (n : Int) < 2147483648) : vp_in (iI z) n := by
  rw [iI_nat h.1]
  exact vp_in_nI (by omega) (by omega)
theorem iI_div {a b : Int} (ha : 0 ≤ a ∧ a < 2147483648) (hb : 0 < b ∧ b < 2147483648) : iI a / iI b = iI (a / b) := by
  rw [iI_nat ha.1, iI_nat (by omega : 0 ≤ b), pk_div (by omega) (by omega) (by omega), iI_nI]
  congr 1
  have h1 : ((a.toNat / b.toNat : Nat) : Int) = (a.toNat : Int) / (b.toNat : Int) := Int.natCast_ediv _ _
  rw [h1, Int.toNat_of_nonneg ha.1, Int.toNat_of_nonneg (by omega : 0 ≤ b)]
theorem iI_rem {a b : Int} (ha : 0 ≤ a ∧ a < 2147483648) (hb : 0 < b ∧ b < 2147483648) : iI a - iI a / iI b * iI b = iI (a % b) := by
  rw [iI_div ha hb, iI_mul, iI_sub, Int.emod_def, Int.mul_comm]
theorem iI_ne0 {b : Int} (hb : 0 < b ∧ b < 2147483648) : ¬ iI b = 0 := by
  intro h
  have h2 : iI b = iI 0 := h
  rw [iI_eq ⟨by omega, by omega⟩ ⟨by omega, by omega⟩] at h2
  omega
/-- a truth value as a number -/
noncomputable def zb (P : Prop) : Int := @ite Int P (Classical.propDecidable P) 1 0
theorem zb_t {P : Prop} (h : P) : zb P = 1 := if_pos h
theorem zb_f {P : Prop} (h : ¬ P) : zb P = 0 := if_neg h
theorem zb_01 (P : Prop) : zb P = 0 ∨ zb P = 1 := by
  by_cases h : P
  · exact Or.inr (zb_t h)
  · exact Or.inl (zb_f h)
theorem zb_rng (P : Prop) : 0 ≤ zb P ∧ zb P ≤ 1 := by
  rcases zb_01 P with h | h <;> rw [h] <;> decide
theorem zb_eq0 {P : Prop} : zb P = 0 ↔ ¬ P := by
  by_cases h : P
  · rw [zb_t h]; exact ⟨fun e => absurd e (by decide), fun e => absurd h e⟩
  · rw [zb_f h]; exact ⟨fun _ => h, fun _ => rfl⟩
theorem zb_eq1 {P : Prop} : zb P = 1 ↔ P := by
  by_cases h : P
  · rw [zb_t h]; exact ⟨fun _ => h, fun _ => rfl⟩
  · rw [zb_f h]; exact ⟨fun e => absurd e (by decide), fun e => absurd e h⟩
theorem zb_cong {P Q : Prop} (h : P ↔ Q) : zb P = zb Q := by rw [propext h]
/-- a row of numbers with one changed -/
def zu (f : Int → Int) (i v : Int) : Int → Int := fun j => if j = i then v else f j
theorem zu_s {f : Int → Int} {i v : Int} : zu f i v i = v := if_pos rfl
theorem zu_n {f : Int → Int} {i v j : Int} (h : j ≠ i) : zu f i v j = f j := if_neg h
theorem zu_upd {f : Int → Int} {i v : Int} (h : 0 ≤ i ∧ i < 2147483648) : upd (fun j : Nat => iI (f j)) (iI i).toNatClampNeg (iI v) = fun j : Nat => iI (zu f i v j) := by
  funext j
  rw [iI_cl h]
  unfold upd zu
  by_cases hj : j = i.toNat
  · rw [if_pos hj, if_pos (by omega)]
  · rw [if_neg hj, if_neg (by omega)]
abbrev zZ : Type := va_G × ClassId × ClassId × ClassId × ClassId
abbrev zT (Z : zZ) : List (ClassId × FieldType) := [(Z.2.1, .int), (Z.2.2.1, .boolean), (Z.2.2.2.1, .char), (Z.2.2.2.2, .object "MeshTurns$State")]
def zX : Type := Program × Launch × Env × Room × State × MethodId × Array Value × List Frame × Method × Code × (State → Prop) × zZ × (Nat → Prop) × Heap
def zV (X : zX) (k n : Nat) (ws : va_W) (pc : Nat) (lv : List (Nat × Value)) (st : List Value) : Prop :=
  match X with
  | (p, l, e, R, s, m, args, below, meth, c, Q, Z, A, H0) => ∀ (H : Heap) (locs : List Loc) (ls : Array Slot), va_P Z.1 vwCl ws H → va_D A ws → va_S A H0 H locs → lv_has ls c.maxLocals lv → W p l e R s m args below meth c H locs k n Q (F0 m pc ls st)
def zOK (X : zX) (Z : zZ) (R : Room) (cc : ByteArray) (own : String) (nL : Nat) : Prop :=
  match X with
  | (p, _, _, R', s, m, args, _, _, c, _, Z', A, H0) => R' = R ∧ Z' = Z ∧ p.tables.exec = Jvm.exec ∧ c.code = cc ∧ c.maxLocals = nL ∧ s.vm.findClass own = some m.cls ∧ (∀ w ∈ wsL_law, w.before args s = true) ∧ va_K Z.1 vwCl (zT Z) s ∧ (∀ q, H0.size ≤ q → A q)
theorem zlk {lv : List (Nat × Value)} {i : Nat} {v : Value} (h : lv.lookup i = some v) : (i, v) ∈ lv := by
  induction lv with
  | nil => cases h
  | cons q t ih =>
    obtain ⟨j, w⟩ := q
    rw [List.lookup_cons] at h
    split at h
    · rename_i e
      have e : i = j := by simpa using e
      cases h
      subst e
      exact List.mem_cons_self
    · exact List.mem_cons_of_mem _ (ih h)
theorem zlv {ls : Array Slot} {nL : Nat} {lv : List (Nat × Value)} {i : Nat} {v : Value} (h : lv_has ls nL lv) (hv : lv.lookup i = some v) : ls[i]? = some (.val v) := h.2.2 (i, v) (zlk hv)
section ZR
variable {X : zX} {Z : zZ} {R : Room} {cc : ByteArray} {own : String} {nL : Nat} {k n : Nat} {ws : va_W} {pc : Nat} {lv : List (Nat × Value)} {st : List Value}
theorem z_iconst (ok : zOK X Z R cc own nL) {z : Int} (d : decode cc pc = .ok (.iconst z, 1)) (h : zV X k n ws (pc + 1) lv (.int (iI z) :: st)) : zV X k n ws pc lv st := by
  obtain ⟨p, l, e0, R, s, m, args, below, meth, c, Q, Z, A, H0⟩ := X
  obtain ⟨rfl, rfl, hx, hb, hml, ho, hts, hK, hA⟩ := ok
  intro H locs ls hP hD hS hl
  exact lv_iconst hx hb d rfl (h H locs ls hP hD hS hl)
theorem z_bipush (ok : zOK X Z R cc own nL) {z : Int} (d : decode cc pc = .ok (.bipush z, 2)) (e : (Int8.ofInt z).toInt32 = iI z) (h : zV X k n ws (pc + 2) lv (.int (iI z) :: st)) : zV X k n ws pc lv st := by
  obtain ⟨p, l, e0, R, s, m, args, below, meth, c, Q, Z, A, H0⟩ := X
  obtain ⟨rfl, rfl, hx, hb, hml, ho, hts, hK, hA⟩ := ok
  intro H locs ls hP hD hS hl
  exact lv_bipush hx hb d e (h H locs ls hP hD hS hl)
theorem z_sipush (ok : zOK X Z R cc own nL) {z : Int} (d : decode cc pc = .ok (.sipush z, 3)) (e : (Int16.ofInt z).toInt32 = iI z) (h : zV X k n ws (pc + 3) lv (.int (iI z) :: st)) : zV X k n ws pc lv st := by
  obtain ⟨p, l, e0, R, s, m, args, below, meth, c, Q, Z, A, H0⟩ := X
  obtain ⟨rfl, rfl, hx, hb, hml, ho, hts, hK, hA⟩ := ok
  intro H locs ls hP hD hS hl
  exact lv_sipush hx hb d e (h H locs ls hP hD hS hl)
theorem z_lconst (ok : zOK X Z R cc own nL) {z : Fin 2} {v : Int64} (d : decode cc pc = .ok (.lconst z, 1)) (e : Int64.ofNat (z : Nat) = v) (h : zV X k n ws (pc + 1) lv (.long v :: st)) : zV X k n ws pc lv st := by
  obtain ⟨p, l, e0, R, s, m, args, below, meth, c, Q, Z, A, H0⟩ := X
  obtain ⟨rfl, rfl, hx, hb, hml, ho, hts, hK, hA⟩ := ok
  intro H locs ls hP hD hS hl
  exact lv_lconst hx hb d e (h H locs ls hP hD hS hl)
theorem z_iload_n (ok : zOK X Z R cc own nL) {i : Fin 4} {v : Int32} (d : decode cc pc = .ok (.iload_n i, 1)) (e : lv.lookup (i : Nat) = some (.int v)) (h : zV X k n ws (pc + 1) lv (.int v :: st)) : zV X k n ws pc lv st := by
  obtain ⟨p, l, e0, R, s, m, args, below, meth, c, Q, Z, A, H0⟩ := X
  obtain ⟨rfl, rfl, hx, hb, hml, ho, hts, hK, hA⟩ := ok
  intro H locs ls hP hD hS hl
  exact lv_iload_n hx hb d rfl (zlv hl e) (h H locs ls hP hD hS hl)
theorem z_iload (ok : zOK X Z R cc own nL) {i : Nat} {v : Int32} (d : decode cc pc = .ok (.iload i, 2)) (e : lv.lookup i = some (.int v)) (h : zV X k n ws (pc + 2) lv (.int v :: st)) : zV X k n ws pc lv st := by
  obtain ⟨p, l, e0, R, s, m, args, below, meth, c, Q, Z, A, H0⟩ := X
  obtain ⟨rfl, rfl, hx, hb, hml, ho, hts, hK, hA⟩ := ok
  intro H locs ls hP hD hS hl
  exact lv_iload hx hb d (zlv hl e) (h H locs ls hP hD hS hl)
theorem z_lload_n (ok : zOK X Z R cc own nL) {i : Fin 4} {v : Int64} (d : decode cc pc = .ok (.lload_n i, 1)) (e : lv.lookup (i : Nat) = some (.long v)) (h : zV X k n ws (pc + 1) lv (.long v :: st)) : zV X k n ws pc lv st := by
  obtain ⟨p, l, e0, R, s, m, args, below, meth, c, Q, Z, A, H0⟩ := X
  obtain ⟨rfl, rfl, hx, hb, hml, ho, hts, hK, hA⟩ := ok
  intro H locs ls hP hD hS hl
  exact lv_lload_n hx hb d rfl (zlv hl e) (h H locs ls hP hD hS hl)
theorem z_aload_n (ok : zOK X Z R cc own nL) {i : Fin 4} {v : Nat} (d : decode cc pc = .ok (.aload_n i, 1)) (e : lv.lookup (i : Nat) = some (.ref v)) (h : zV X k n ws (pc + 1) lv (.ref v :: st)) : zV X k n ws pc lv st := by
  obtain ⟨p, l, e0, R, s, m, args, below, meth, c, Q, Z, A, H0⟩ := X
  obtain ⟨rfl, rfl, hx, hb, hml, ho, hts, hK, hA⟩ := ok
  intro H locs ls hP hD hS hl
  exact lv_aload_n hx hb d rfl (zlv hl e) (h H locs ls hP hD hS hl)
theorem z_istore_n (ok : zOK X Z R cc own nL) {i : Fin 4} {v : Int32} {lv' : List (Nat × Value)} (d : decode cc pc = .ok (.istore_n i, 1)) (hn : (i : Nat) < nL) (e : ((i : Nat), Value.int v) :: lv.filter (fun q => !(q.1 == (i : Nat)) && !(q.1 + 1 == (i : Nat) && q.2.category == 2)) = lv') (h : zV X k n ws (pc + 1) lv' st) : zV X k n ws pc lv (.int v :: st) := by
  obtain ⟨p, l, e0, R, s, m, args, below, meth, c, Q, Z, A, H0⟩ := X
  obtain ⟨rfl, rfl, hx, hb, hml, ho, hts, hK, hA⟩ := ok
  intro H locs ls hP hD hS hl
  exact lv_istore_n hx hb d rfl hl (by rw [hml]; exact hn) e (fun ls' hl' => h H locs ls' hP hD hS hl')
theorem z_istore (ok : zOK X Z R cc own nL) {i : Nat} {v : Int32} {lv' : List (Nat × Value)} (d : decode cc pc = .ok (.istore i, 2)) (hn : i < nL) (e : (i, Value.int v) :: lv.filter (fun q => !(q.1 == i) && !(q.1 + 1 == i && q.2.category == 2)) = lv') (h : zV X k n ws (pc + 2) lv' st) : zV X k n ws pc lv (.int v :: st) := by
  obtain ⟨p, l, e0, R, s, m, args, below, meth, c, Q, Z, A, H0⟩ := X
  obtain ⟨rfl, rfl, hx, hb, hml, ho, hts, hK, hA⟩ := ok
  intro H locs ls hP hD hS hl
  exact lv_istore hx hb d hl (by rw [hml]; exact hn) e (fun ls' hl' => h H locs ls' hP hD hS hl')
theorem z_lstore_n (ok : zOK X Z R cc own nL) {i : Fin 4} {v : Int64} {lv' : List (Nat × Value)} (d : decode cc pc = .ok (.lstore_n i, 1)) (hn : (i : Nat) + 1 < nL) (e : ((i : Nat), Value.long v) :: lv.filter (fun q => !(q.1 == (i : Nat)) && (!(q.1 == (i : Nat) + 1) && !(q.1 + 1 == (i : Nat) && q.2.category == 2))) = lv') (h : zV X k n ws (pc + 1) lv' st) : zV X k n ws pc lv (.long v :: st) := by
  obtain ⟨p, l, e0, R, s, m, args, below, meth, c, Q, Z, A, H0⟩ := X
  obtain ⟨rfl, rfl, hx, hb, hml, ho, hts, hK, hA⟩ := ok
  intro H locs ls hP hD hS hl
  exact lv_lstore_n hx hb d rfl hl (by rw [hml]; exact hn) e (fun ls' hl' => h H locs ls' hP hD hS hl')
theorem z_astore_n (ok : zOK X Z R cc own nL) {i : Fin 4} {v : Nat} {lv' : List (Nat × Value)} (d : decode cc pc = .ok (.astore_n i, 1)) (hn : (i : Nat) < nL) (e : ((i : Nat), Value.ref v) :: lv.filter (fun q => !(q.1 == (i : Nat)) && !(q.1 + 1 == (i : Nat) && q.2.category == 2)) = lv') (h : zV X k n ws (pc + 1) lv' st) : zV X k n ws pc lv (.ref v :: st) := by
  obtain ⟨p, l, e0, R, s, m, args, below, meth, c, Q, Z, A, H0⟩ := X
  obtain ⟨rfl, rfl, hx, hb, hml, ho, hts, hK, hA⟩ := ok
  intro H locs ls hP hD hS hl
  exact lv_astore_n hx hb d rfl hl (by rw [hml]; exact hn) e (fun ls' hl' => h H locs ls' hP hD hS hl')
theorem z_iinc (ok : zOK X Z R cc own nL) {i : Nat} {z a : Int} {lv' : List (Nat × Value)} (d : decode cc pc = .ok (.iinc i z, 3)) (q : Nat) (hq : lv[q]? = some (i, .int (iI a))) (hn : i < nL) (e : (i, Value.int (iI (a + z))) :: lv.filter (fun q => !(q.1 == i) && !(q.1 + 1 == i && q.2.category == 2)) = lv') (h : zV X k n ws (pc + 3) lv' st) : zV X k n ws pc lv st := by
  obtain ⟨p, l, e0, R, s, m, args, below, meth, c, Q, Z, A, H0⟩ := X
  obtain ⟨rfl, rfl, hx, hb, hml, ho, hts, hK, hA⟩ := ok
  intro H locs ls hP hD hS hl
  exact lv_iinc hx hb d hl hq (iI_add a z) (by rw [hml]; exact hn) e (fun ls' hl' => h H locs ls' hP hD hS hl')
theorem z_lsub (ok : zOK X Z R cc own nL) {lv' : List (Nat × Value)} (ks : List Nat) (e : lv_pick lv ks = lv') (h : zV X k n ws pc lv' st) : zV X k n ws pc lv st := by
  obtain ⟨p, l, e0, R, s, m, args, below, meth, c, Q, Z, A, H0⟩ := X
  intro H locs ls hP hD hS hl
  exact h H locs ls hP hD hS (lv_sub hl ks e)
theorem z_iadd (ok : zOK X Z R cc own nL) {a b : Int} (d : decode cc pc = .ok (.iadd, 1)) (h : zV X k n ws (pc + 1) lv (.int (iI (a + b)) :: st)) : zV X k n ws pc lv (.int (iI b) :: .int (iI a) :: st) := by
  obtain ⟨p, l, e0, R, s, m, args, below, meth, c, Q, Z, A, H0⟩ := X
  obtain ⟨rfl, rfl, hx, hb, hml, ho, hts, hK, hA⟩ := ok
  intro H locs ls hP hD hS hl
  exact lv_iadd hx hb d (by rw [iI_add]; exact h H locs ls hP hD hS hl)
theorem z_isub (ok : zOK X Z R cc own nL) {a b : Int} (d : decode cc pc = .ok (.isub, 1)) (h : zV X k n ws (pc + 1) lv (.int (iI (a - b)) :: st)) : zV X k n ws pc lv (.int (iI b) :: .int (iI a) :: st) := by
  obtain ⟨p, l, e0, R, s, m, args, below, meth, c, Q, Z, A, H0⟩ := X
  obtain ⟨rfl, rfl, hx, hb, hml, ho, hts, hK, hA⟩ := ok
  intro H locs ls hP hD hS hl
  exact lv_isub hx hb d (by rw [iI_sub]; exact h H locs ls hP hD hS hl)
theorem z_imul (ok : zOK X Z R cc own nL) {a b : Int} (d : decode cc pc = .ok (.imul, 1)) (h : zV X k n ws (pc + 1) lv (.int (iI (a * b)) :: st)) : zV X k n ws pc lv (.int (iI b) :: .int (iI a) :: st) := by
  obtain ⟨p, l, e0, R, s, m, args, below, meth, c, Q, Z, A, H0⟩ := X
  obtain ⟨rfl, rfl, hx, hb, hml, ho, hts, hK, hA⟩ := ok
  intro H locs ls hP hD hS hl
  exact lv_imul hx hb d (by rw [iI_mul]; exact h H locs ls hP hD hS hl)
theorem z_idiv (ok : zOK X Z R cc own nL) {a b : Int} (d : decode cc pc = .ok (.idiv, 1)) (ha : 0 ≤ a ∧ a < 2147483648) (hb' : 0 < b ∧ b < 2147483648) (h : zV X k n ws (pc + 1) lv (.int (iI (a / b)) :: st)) : zV X k n ws pc lv (.int (iI b) :: .int (iI a) :: st) := by
  obtain ⟨p, l, e0, R, s, m, args, below, meth, c, Q, Z, A, H0⟩ := X
  obtain ⟨rfl, rfl, hx, hb, hml, ho, hts, hK, hA⟩ := ok
  intro H locs ls hP hD hS hl
  exact lv_idiv hx hb d (iI_ne0 hb') (by rw [iI_div ha hb']; exact h H locs ls hP hD hS hl)
theorem z_irem (ok : zOK X Z R cc own nL) {a b : Int} (d : decode cc pc = .ok (.irem, 1)) (ha : 0 ≤ a ∧ a < 2147483648) (hb' : 0 < b ∧ b < 2147483648) (h : zV X k n ws (pc + 1) lv (.int (iI (a % b)) :: st)) : zV X k n ws pc lv (.int (iI b) :: .int (iI a) :: st) := by
  obtain ⟨p, l, e0, R, s, m, args, below, meth, c, Q, Z, A, H0⟩ := X
  obtain ⟨rfl, rfl, hx, hb, hml, ho, hts, hK, hA⟩ := ok
  intro H locs ls hP hD hS hl
  exact lv_irem hx hb d (iI_ne0 hb') (by rw [iI_rem ha hb']; exact h H locs ls hP hD hS hl)
theorem z_dup (ok : zOK X Z R cc own nL) {v : Value} (d : decode cc pc = .ok (.dup, 1)) (hv : v.category = 1) (h : zV X k n ws (pc + 1) lv (v :: v :: st)) : zV X k n ws pc lv (v :: st) := by
  obtain ⟨p, l, e0, R, s, m, args, below, meth, c, Q, Z, A, H0⟩ := X
  obtain ⟨rfl, rfl, hx, hb, hml, ho, hts, hK, hA⟩ := ok
  intro H locs ls hP hD hS hl
  exact lv_dup hx hb d hv (h H locs ls hP hD hS hl)
theorem z_dup2 (ok : zOK X Z R cc own nL) {v w : Value} (d : decode cc pc = .ok (.dup2, 1)) (hv : v.category = 1) (hw : w.category = 1) (h : zV X k n ws (pc + 1) lv (v :: w :: v :: w :: st)) : zV X k n ws pc lv (v :: w :: st) := by
  obtain ⟨p, l, e0, R, s, m, args, below, meth, c, Q, Z, A, H0⟩ := X
  obtain ⟨rfl, rfl, hx, hb, hml, ho, hts, hK, hA⟩ := ok
  intro H locs ls hP hD hS hl
  exact lv_dup2_11 hx hb d hv hw (h H locs ls hP hD hS hl)
theorem z_goto (ok : zOK X Z R cc own nL) {off : Int} {tgt : Nat} (d : decode cc pc = .ok (.goto off, 3)) (ht : (pc : Int) + off = (tgt : Int)) (h : zV X k n ws tgt lv st) : zV X k n ws pc lv st := by
  obtain ⟨p, l, e0, R, s, m, args, below, meth, c, Q, Z, A, H0⟩ := X
  obtain ⟨rfl, rfl, hx, hb, hml, ho, hts, hK, hA⟩ := ok
  intro H locs ls hP hD hS hl
  exact lv_goto hx hb d ht (h H locs ls hP hD hS hl)
theorem z_icmp_eq (ok : zOK X Z R cc own nL) {a b off : Int} {tgt : Nat} (d : decode cc pc = .ok (.if_icmp .eq off, 3)) (ht : (pc : Int) + off = (tgt : Int)) (ha : -2147483648 ≤ a ∧ a < 2147483648) (hb : -2147483648 ≤ b ∧ b < 2147483648) (kt : a = b → zV X k n ws tgt lv st) (kf : ¬ a = b → zV X k n ws (pc + 3) lv st) : zV X k n ws pc lv (.int (iI b) :: .int (iI a) :: st) := by
  obtain ⟨p, l, e0, R, s, m, args, below, meth, c, Q, Z, A, H0⟩ := X
  obtain ⟨rfl, rfl, hx, hb', hml, ho, hts, hK, hA⟩ := ok
  intro H locs ls hP hD hS hl
  exact lv_icmp_eq hx hb' d ht (fun c => kt ((iI_eq ha hb).mp c) H locs ls hP hD hS hl) (fun c => kf (fun z => c ((iI_eq ha hb).mpr z)) H locs ls hP hD hS hl)
theorem z_if_eq (ok : zOK X Z R cc own nL) {a off : Int} {tgt : Nat} (d : decode cc pc = .ok (.ifCond .eq off, 3)) (ht : (pc : Int) + off = (tgt : Int)) (ha : -2147483648 ≤ a ∧ a < 2147483648) (kt : a = 0 → zV X k n ws tgt lv st) (kf : ¬ a = 0 → zV X k n ws (pc + 3) lv st) : zV X k n ws pc lv (.int (iI a) :: st) := by
  obtain ⟨p, l, e0, R, s, m, args, below, meth, c, Q, Z, A, H0⟩ := X
  obtain ⟨rfl, rfl, hx, hb', hml, ho, hts, hK, hA⟩ := ok
  intro H locs ls hP hD hS hl
  have hz : -2147483648 ≤ (0 : Int) ∧ (0 : Int) < 2147483648 := ⟨by decide, by decide⟩
  exact lv_if_eq hx hb' d ht (fun c => kt ((iI_eq ha hz).mp c) H locs ls hP hD hS hl) (fun c => kf (fun z => c ((iI_eq ha hz).mpr z)) H locs ls hP hD hS hl)
theorem z_icmp_ne (ok : zOK X Z R cc own nL) {a b off : Int} {tgt : Nat} (d : decode cc pc = .ok (.if_icmp .ne off, 3)) (ht : (pc : Int) + off = (tgt : Int)) (ha : -2147483648 ≤ a ∧ a < 2147483648) (hb : -2147483648 ≤ b ∧ b < 2147483648) (kt : ¬ a = b → zV X k n ws tgt lv st) (kf : a = b → zV X k n ws (pc + 3) lv st) : zV X k n ws pc lv (.int (iI b) :: .int (iI a) :: st) := by
  obtain ⟨p, l, e0, R, s, m, args, below, meth, c, Q, Z, A, H0⟩ := X
  obtain ⟨rfl, rfl, hx, hb', hml, ho, hts, hK, hA⟩ := ok
  intro H locs ls hP hD hS hl
  exact lv_icmp_ne hx hb' d ht (fun c => kt (fun z => c ((iI_eq ha hb).mpr z)) H locs ls hP hD hS hl) (fun c => kf ((iI_eq ha hb).mp c) H locs ls hP hD hS hl)
theorem z_if_ne (ok : zOK X Z R cc own nL) {a off : Int} {tgt : Nat} (d : decode cc pc = .ok (.ifCond .ne off, 3)) (ht : (pc : Int) + off = (tgt : Int)) (ha : -2147483648 ≤ a ∧ a < 2147483648) (kt : ¬ a = 0 → zV X k n ws tgt lv st) (kf : a = 0 → zV X k n ws (pc + 3) lv st) : zV X k n ws pc lv (.int (iI a) :: st) := by
  obtain ⟨p, l, e0, R, s, m, args, below, meth, c, Q, Z, A, H0⟩ := X
  obtain ⟨rfl, rfl, hx, hb', hml, ho, hts, hK, hA⟩ := ok
  intro H locs ls hP hD hS hl
  have hz : -2147483648 ≤ (0 : Int) ∧ (0 : Int) < 2147483648 := ⟨by decide, by decide⟩
  exact lv_if_ne hx hb' d ht (fun c => kt (fun z => c ((iI_eq ha hz).mpr z)) H locs ls hP hD hS hl) (fun c => kf ((iI_eq ha hz).mp c) H locs ls hP hD hS hl)
theorem z_icmp_lt (ok : zOK X Z R cc own nL) {a b off : Int} {tgt : Nat} (d : decode cc pc = .ok (.if_icmp .lt off, 3)) (ht : (pc : Int) + off = (tgt : Int)) (ha : -2147483648 ≤ a ∧ a < 2147483648) (hb : -2147483648 ≤ b ∧ b < 2147483648) (kt : a < b → zV X k n ws tgt lv st) (kf : b ≤ a → zV X k n ws (pc + 3) lv st) : zV X k n ws pc lv (.int (iI b) :: .int (iI a) :: st) := by
  obtain ⟨p, l, e0, R, s, m, args, below, meth, c, Q, Z, A, H0⟩ := X
  obtain ⟨rfl, rfl, hx, hb', hml, ho, hts, hK, hA⟩ := ok
  intro H locs ls hP hD hS hl
  exact lv_icmp_lt hx hb' d ht (fun c => kt ((iI_lt ha hb).mp c) H locs ls hP hD hS hl) (fun c => kf (Int.not_lt.mp (fun z => c ((iI_lt ha hb).mpr z))) H locs ls hP hD hS hl)
theorem z_if_lt (ok : zOK X Z R cc own nL) {a off : Int} {tgt : Nat} (d : decode cc pc = .ok (.ifCond .lt off, 3)) (ht : (pc : Int) + off = (tgt : Int)) (ha : -2147483648 ≤ a ∧ a < 2147483648) (kt : a < 0 → zV X k n ws tgt lv st) (kf : 0 ≤ a → zV X k n ws (pc + 3) lv st) : zV X k n ws pc lv (.int (iI a) :: st) := by
  obtain ⟨p, l, e0, R, s, m, args, below, meth, c, Q, Z, A, H0⟩ := X
  obtain ⟨rfl, rfl, hx, hb', hml, ho, hts, hK, hA⟩ := ok
  intro H locs ls hP hD hS hl
  have hz : -2147483648 ≤ (0 : Int) ∧ (0 : Int) < 2147483648 := ⟨by decide, by decide⟩
  exact lv_if_lt hx hb' d ht (fun c => kt ((iI_lt ha hz).mp c) H locs ls hP hD hS hl) (fun c => kf (Int.not_lt.mp (fun z => c ((iI_lt ha hz).mpr z))) H locs ls hP hD hS hl)
theorem z_icmp_ge (ok : zOK X Z R cc own nL) {a b off : Int} {tgt : Nat} (d : decode cc pc = .ok (.if_icmp .ge off, 3)) (ht : (pc : Int) + off = (tgt : Int)) (ha : -2147483648 ≤ a ∧ a < 2147483648) (hb : -2147483648 ≤ b ∧ b < 2147483648) (kt : b ≤ a → zV X k n ws tgt lv st) (kf : a < b → zV X k n ws (pc + 3) lv st) : zV X k n ws pc lv (.int (iI b) :: .int (iI a) :: st) := by
  obtain ⟨p, l, e0, R, s, m, args, below, meth, c, Q, Z, A, H0⟩ := X
  obtain ⟨rfl, rfl, hx, hb', hml, ho, hts, hK, hA⟩ := ok
  intro H locs ls hP hD hS hl
  exact lv_icmp_ge hx hb' d ht (fun c => kt ((iI_le hb ha).mp c) H locs ls hP hD hS hl) (fun c => kf (Int.not_le.mp (fun z => c ((iI_le hb ha).mpr z))) H locs ls hP hD hS hl)
theorem z_icmp_gt (ok : zOK X Z R cc own nL) {a b off : Int} {tgt : Nat} (d : decode cc pc = .ok (.if_icmp .gt off, 3)) (ht : (pc : Int) + off = (tgt : Int)) (ha : -2147483648 ≤ a ∧ a < 2147483648) (hb : -2147483648 ≤ b ∧ b < 2147483648) (kt : b < a → zV X k n ws tgt lv st) (kf : a ≤ b → zV X k n ws (pc + 3) lv st) : zV X k n ws pc lv (.int (iI b) :: .int (iI a) :: st) := by
  obtain ⟨p, l, e0, R, s, m, args, below, meth, c, Q, Z, A, H0⟩ := X
  obtain ⟨rfl, rfl, hx, hb', hml, ho, hts, hK, hA⟩ := ok
  intro H locs ls hP hD hS hl
  exact lv_icmp_gt hx hb' d ht (fun c => kt ((iI_lt hb ha).mp c) H locs ls hP hD hS hl) (fun c => kf (Int.not_lt.mp (fun z => c ((iI_lt hb ha).mpr z))) H locs ls hP hD hS hl)
theorem z_icmp_le (ok : zOK X Z R cc own nL) {a b off : Int} {tgt : Nat} (d : decode cc pc = .ok (.if_icmp .le off, 3)) (ht : (pc : Int) + off = (tgt : Int)) (ha : -2147483648 ≤ a ∧ a < 2147483648) (hb : -2147483648 ≤ b ∧ b < 2147483648) (kt : a ≤ b → zV X k n ws tgt lv st) (kf : b < a → zV X k n ws (pc + 3) lv st) : zV X k n ws pc lv (.int (iI b) :: .int (iI a) :: st) := by
  obtain ⟨p, l, e0, R, s, m, args, below, meth, c, Q, Z, A, H0⟩ := X
  obtain ⟨rfl, rfl, hx, hb', hml, ho, hts, hK, hA⟩ := ok
  intro H locs ls hP hD hS hl
  exact lv_icmp_le hx hb' d ht (fun c => kt ((iI_le ha hb).mp c) H locs ls hP hD hS hl) (fun c => kf (Int.not_le.mp (fun z => c ((iI_le ha hb).mpr z))) H locs ls hP hD hS hl)
theorem z_if_le (ok : zOK X Z R cc own nL) {a off : Int} {tgt : Nat} (d : decode cc pc = .ok (.ifCond .le off, 3)) (ht : (pc : Int) + off = (tgt : Int)) (ha : -2147483648 ≤ a ∧ a < 2147483648) (kt : a ≤ 0 → zV X k n ws tgt lv st) (kf : 0 < a → zV X k n ws (pc + 3) lv st) : zV X k n ws pc lv (.int (iI a) :: st) := by
  obtain ⟨p, l, e0, R, s, m, args, below, meth, c, Q, Z, A, H0⟩ := X
  obtain ⟨rfl, rfl, hx, hb', hml, ho, hts, hK, hA⟩ := ok
  intro H locs ls hP hD hS hl
  have hz : -2147483648 ≤ (0 : Int) ∧ (0 : Int) < 2147483648 := ⟨by decide, by decide⟩
  exact lv_if_le hx hb' d ht (fun c => kt ((iI_le ha hz).mp c) H locs ls hP hD hS hl) (fun c => kf (Int.not_le.mp (fun z => c ((iI_le ha hz).mpr z))) H locs ls hP hD hS hl)
theorem z_ifb_eq (ok : zOK X Z R cc own nL) {P : Prop} {off : Int} {tgt : Nat} (d : decode cc pc = .ok (.ifCond .eq off, 3)) (ht : (pc : Int) + off = (tgt : Int)) (kt : ¬ P → zV X k n ws tgt lv st) (kf : P → zV X k n ws (pc + 3) lv st) : zV X k n ws pc lv (.int (iI (zb P)) :: st) :=
  z_if_eq ok d ht (by have := zb_rng P; omega) (fun c => kt (zb_eq0.mp c)) (fun c => kf (Classical.byContradiction (fun z => c (zb_eq0.mpr z))))
theorem z_ifb_ne (ok : zOK X Z R cc own nL) {P : Prop} {off : Int} {tgt : Nat} (d : decode cc pc = .ok (.ifCond .ne off, 3)) (ht : (pc : Int) + off = (tgt : Int)) (kt : P → zV X k n ws tgt lv st) (kf : ¬ P → zV X k n ws (pc + 3) lv st) : zV X k n ws pc lv (.int (iI (zb P)) :: st) :=
  z_if_ne ok d ht (by have := zb_rng P; omega) (fun c => kt (Classical.byContradiction (fun z => c (zb_eq0.mpr z)))) (fun c => kf (zb_eq0.mp c))
end ZR
