/-! worlds in groups: calls beside a frame, copies of rows, rows of references, bits of longs -/
def zf (L : List va_W) : va_W := L.flatten
theorem zf_app (a b : List va_W) : zf (a ++ b) = zf a ++ zf b := List.flatten_append
def zix (ix : List Nat) (L : List va_W) : List va_W := ix.map (fun i => L.getD i [])
theorem zix_perm {ix : List Nat} {L : List va_W} (h : ix.isPerm (List.range L.length) = true) : L.Perm (zix ix L) := by
  have h1 := (List.isPerm_iff.mp h).map (fun i => L.getD i [])
  have h2 : (List.range L.length).map (fun i => L.getD i []) = L := by
    apply List.ext_getElem
    · simp
    · intro i h1 h2
      simp [List.getD, h2]
  rw [h2] at h1
  exact h1.symm
theorem zf_perm {L L' : List va_W} (h : L.Perm L') : (zf L).Perm (zf L') := List.Perm.flatten h
theorem zf_cut {ix : List Nat} {L Lc Lr : List va_W} (h : ix.isPerm (List.range L.length) = true) (hL : zix ix L = Lc ++ Lr) : (zf L).Perm (zf Lc ++ zf Lr) := by
  rw [← zf_app, ← hL]
  exact zf_perm (zix_perm h)
theorem zf_back {inv : List Nat} {Lc Lr : List va_W} (h : inv.isPerm (List.range (Lc ++ Lr).length) = true) : (zf Lc ++ zf Lr).Perm (zf (zix inv (Lc ++ Lr))) := by
  rw [← zf_app]
  exact zf_perm (zix_perm h)
section ZF
variable {X : zX} {Z : zZ} {R : Room} {cc : ByteArray} {own : String} {nL : Nat} {k n : Nat} {ws ws' : va_W} {L Lc Lr : List va_W} {pc : Nat} {lv : List (Nat × Value)} {st : List Value}
theorem z_callVif (ok : zOK X Z R cc own nL) {T : Type} {y : MethodName} {C : String} {bytes : ByteArray} {maxL np idx b q0 ci : Nat} {ret : Option FieldType} {rm : Room} {As rest fs : List Value} {Lc' : T → List va_W} {post : Int → T → Prop} {q : vw_C} (ct : ∀ l, zI l y (Cond.code y bytes maxL ret :: wsL_law) rm Z (.ref b :: As) (zf Lc) (fun u => zf (Lc' u)) post) (hm : zMT y C bytes maxL ret np) (hv : zMV y C) (hlk : Cond.methodLink own idx y ∈ wsL_law) (d : decode cc pc = .ok (.invokevirtual idx, 3)) (hR : rm.frames + 1 ≤ R.frames ∧ 8 + (maxL + 11) + rm.locals ≤ R.locals) (hc : k + rm.cells ≤ R.cells ∧ n + rm.slots ≤ R.slots) (hn : As.length = np) (hst : st = As.reverse ++ .ref b :: rest) (hW : (rest.map fun v => v.category).sum ≤ 8) (he : (zf Lc)[q0]? = some (b, .inr (ci, fs))) (hcl : vwCl[ci]? = some q) (hq : q.1 = C) (ix inv : List Nat) (hix : ix.isPerm (List.range L.length) = true) (hL : zix ix L = Lc ++ Lr) (hin : ∀ u, inv.isPerm (List.range (Lc' u ++ Lr).length) = true) (h : ∀ (ρ : Int) (u : T), post ρ u → zV X (k + rm.cells) (n + rm.slots) (zf (zix inv (Lc' u ++ Lr))) (pc + 3) lv (.int (iI ρ) :: rest)) : zV X k n (zf L) pc lv st :=
  z_callVi (wr := zf Lr) ok ct hm hv hlk d hR hc hn hst hW he hcl hq (zf_cut hix hL) (fun ρ u hp => z_perm (zf_back (hin u)) (h ρ u hp))
theorem z_callVvf (ok : zOK X Z R cc own nL) {T : Type} {y : MethodName} {C : String} {bytes : ByteArray} {maxL np idx b q0 ci : Nat} {ret : Option FieldType} {rm : Room} {As rest fs : List Value} {Lc' : T → List va_W} {post : T → Prop} {q : vw_C} (ct : ∀ l, zN l y (Cond.code y bytes maxL ret :: wsL_law) rm Z (.ref b :: As) (zf Lc) (fun u => zf (Lc' u)) post) (hm : zMT y C bytes maxL ret np) (hv : zMV y C) (hlk : Cond.methodLink own idx y ∈ wsL_law) (d : decode cc pc = .ok (.invokevirtual idx, 3)) (hR : rm.frames + 1 ≤ R.frames ∧ 8 + (maxL + 11) + rm.locals ≤ R.locals) (hc : k + rm.cells ≤ R.cells ∧ n + rm.slots ≤ R.slots) (hn : As.length = np) (hst : st = As.reverse ++ .ref b :: rest) (hW : (rest.map fun v => v.category).sum ≤ 8) (he : (zf Lc)[q0]? = some (b, .inr (ci, fs))) (hcl : vwCl[ci]? = some q) (hq : q.1 = C) (ix inv : List Nat) (hix : ix.isPerm (List.range L.length) = true) (hL : zix ix L = Lc ++ Lr) (hin : ∀ u, inv.isPerm (List.range (Lc' u ++ Lr).length) = true) (h : ∀ (u : T), post u → zV X (k + rm.cells) (n + rm.slots) (zf (zix inv (Lc' u ++ Lr))) (pc + 3) lv rest) : zV X k n (zf L) pc lv st :=
  z_callVv (wr := zf Lr) ok ct hm hv hlk d hR hc hn hst hW he hcl hq (zf_cut hix hL) (fun u hp => z_perm (zf_back (hin u)) (h u hp))
theorem z_callSvf (ok : zOK X Z R cc own nL) {T : Type} {y : MethodName} {C : String} {bytes : ByteArray} {maxL np idx : Nat} {ret : Option FieldType} {rm : Room} {As rest : List Value} {Lc' : T → List va_W} {post : T → Prop} (ct : ∀ l, zN l y (Cond.code y bytes maxL ret :: wsL_law) rm Z As (zf Lc) (fun u => zf (Lc' u)) post) (hm : zMT y C bytes maxL ret np) (hv : Cond.static y ∈ wsL_law) (hlk : Cond.methodLink own idx y ∈ wsL_law) (d : decode cc pc = .ok (.invokestatic idx, 3)) (hR : rm.frames + 1 ≤ R.frames ∧ 8 + (maxL + 11) + rm.locals ≤ R.locals) (hc : k + rm.cells ≤ R.cells ∧ n + rm.slots ≤ R.slots) (hn : As.length = np) (hst : st = As.reverse ++ rest) (hW : (rest.map fun v => v.category).sum ≤ 8) (ix inv : List Nat) (hix : ix.isPerm (List.range L.length) = true) (hL : zix ix L = Lc ++ Lr) (hin : ∀ u, inv.isPerm (List.range (Lc' u ++ Lr).length) = true) (h : ∀ (u : T), post u → zV X (k + rm.cells) (n + rm.slots) (zf (zix inv (Lc' u ++ Lr))) (pc + 3) lv rest) : zV X k n (zf L) pc lv st :=
  z_callSv (wr := zf Lr) ok ct hm hv hlk d hR hc hn hst hW (zf_cut hix hL) (fun u hp => z_perm (zf_back (hin u)) (h u hp))
theorem z_ifnull (ok : zOK X Z R cc own nL) {b : Nat} {off : Int} (d : decode cc pc = .ok (.ifnull off, 3)) (h : zV X k n ws (pc + 3) lv st) : zV X k n ws pc lv (.ref b :: st) := by
  obtain ⟨p, l, e', R, s, m, args, below, meth, c, Q, Z, A, H0⟩ := X
  obtain ⟨rfl, rfl, hx, hb, hml, ho, hts, hK, hA⟩ := ok
  intro H locs ls hP hD hS hl
  exact lv_ifnull hx hb d (h H locs ls hP hD hS hl)
theorem z_ifnonnull (ok : zOK X Z R cc own nL) {b : Nat} {off : Int} {tgt : Nat} (d : decode cc pc = .ok (.ifnonnull off, 3)) (ht : (pc : Int) + off = (tgt : Int)) (h : zV X k n ws tgt lv st) : zV X k n ws pc lv (.ref b :: st) := by
  obtain ⟨p, l, e', R, s, m, args, below, meth, c, Q, Z, A, H0⟩ := X
  obtain ⟨rfl, rfl, hx, hb, hml, ho, hts, hK, hA⟩ := ok
  intro H locs ls hP hD hS hl
  exact lv_ifnonnull hx hb d ht (h H locs ls hP hD hS hl)
theorem z_copyA (ok : zOK X Z R cc own nL) (q0 q1 : Nat) {a0 a1 N idx : Nat} {f g : Int → Int} {nn : Int} (h0 : ws[q0]? = some (a0, .inl (Z.2.1, N, .inl (fun j : Nat => iI (f j))))) (h1 : ws[q1]? = some (a1, .inl (Z.2.1, N, .inl (fun j : Nat => iI (g j))))) (hnn : nn = (N : Int)) (hN : N < 2147483648) (hlk : Cond.methodLink own idx arraycopyName ∈ wsL_law) (d : decode cc pc = .ok (.invokestatic idx, 3)) (hf : 1 ≤ R.frames) (hlo : (st.map fun v => v.category).sum + (nativeFrameWords "java/lang/System" "arraycopy" 5 + 11) ≤ R.locals) (hw : ws.set q1 (a1, .inl (Z.2.1, N, .inl (fun j : Nat => iI (f j)))) = ws') (h : zV X k n ws' (pc + 3) lv st) : zV X k n ws pc lv (.int (iI nn) :: .int (iI 0) :: .ref a1 :: .int (iI 0) :: .ref a0 :: st) := by
  obtain ⟨p, l, e', R, s, m, args, below, meth, c, Q, Z, A, H0⟩ := X
  obtain ⟨rfl, rfl, hx, hbb, hml, ho, hts, hK, hA⟩ := ok
  intro H locs ls hP hD hS hl
  subst hnn
  have e0 : (iI 0).toNatClampNeg = 0 := by decide
  have eN : (iI (N : Int)).toNatClampNeg = N := by rw [iI_cl ⟨by omega, by omega⟩]; omega
  have z0 : ¬ iI 0 < 0 := by decide
  have zN : ¬ iI (N : Int) < 0 := by
    intro z
    have z2 : iI (N : Int) < iI 0 := z
    rw [iI_lt ⟨by omega, by omega⟩ ⟨by decide, by decide⟩] at z2
    omega
  refine va_copyi hx hbb hl.1.symm ho (hts _ hlk) (hts _ qv_arraycopyName) (hts _ qt_arraycopyName) (hts _ qn_java_lang_System) hK hP hD hS q0 q1 0 0 (ty := .int) h0 h1 rfl rfl rfl z0 z0 zN (by rw [e0, eN]; omega) (by rw [e0, eN]; omega) (fun i _ => rfl) hf hlo d (fun H1 locs1 hP hD hS => ?_)
  rw [e0, eN] at hP hD
  subst hw
  have ee := zP_ext (q0 := q1) (b := a1) (n := N) (cA := Z.2.1) (f := va_cpy (fun j : Nat => iI (f j)) (fun j : Nat => iI (g j)) 0 0 N) (g := fun j : Nat => iI (f j)) (ws := ws.set q1 (a1, .inl (Z.2.1, N, .inl (va_cpy (fun j : Nat => iI (f j)) (fun j : Nat => iI (g j)) 0 0 N)))) (H := H1) (Z := Z.1) (by rw [List.getElem?_set_self (List.getElem?_eq_some_iff.mp h1).1]) (fun j hj => by unfold va_cpy; rw [if_pos (by omega)]; congr 1; simp) hP
  rw [List.set_set] at ee
  have dd : va_D A (ws.set q1 (a1, .inl (Z.2.1, N, .inl (fun j : Nat => iI (f j))))) := by
    have d1 := va_D.set (e := .inl (Z.2.1, N, .inl (fun j : Nat => iI (f j)))) hD (p := q1) (by rw [List.getElem?_set_self (List.getElem?_eq_some_iff.mp h1).1])
    rw [List.set_set] at d1
    exact d1
  exact h H1 locs1 ls ee dd hS hl
theorem z_aald (ok : zOK X Z R cc own nL) (q0 : Nat) {b N v : Nat} {as : List Nat} {e : Int} (he : ws[q0]? = some (b, .inl (Z.2.2.2.2, N, .inr (.inr (.inr (.inr (fun i : Nat => as[i]?))))))) (d : decode cc pc = .ok (.aaload, 1)) (hi : 0 ≤ e ∧ e < (N : Int)) (hN : N < 2147483648) (hv : as[e.toNat]? = some v) (h : zV X k n ws (pc + 1) lv (.ref v :: st)) : zV X k n ws pc lv (.int (iI e) :: .ref b :: st) := by
  obtain ⟨p, l, e', R, s, m, args, below, meth, c, Q, Z, A, H0⟩ := X
  obtain ⟨rfl, rfl, hx, hb, hml, ho, hts, hK, hA⟩ := ok
  intro H locs ls hP hD hS hl
  refine va_aldq hx hb hK hP q0 3 he rfl (iI_in hi (by omega)) d ?_
  rw [iI_cl ⟨hi.1, by omega⟩, hv]
  exact h H locs ls hP hD hS hl
theorem z_aast (ok : zOK X Z R cc own nL) (q0 qk ci : Nat) {b N v : Nat} {r : vw_C} {vs : List Value} {as as' : List Nat} {e : Int} (he : ws[q0]? = some (b, .inl (Z.2.2.2.2, N, .inr (.inr (.inr (.inr (fun i : Nat => as[i]?))))))) (hr : r.1 = "MeshTurns$State") (hk : ws[qk]? = some (v, .inr (ci, vs))) (hc : vwCl[ci]? = some r) (d : decode cc pc = .ok (.aastore, 1)) (hi : 0 ≤ e ∧ e < (N : Int)) (hN : N < 2147483648) (hlen : as.length = N) (has : as.set e.toNat v = as') (hw : ws.set q0 (b, .inl (Z.2.2.2.2, N, .inr (.inr (.inr (.inr (fun i : Nat => as'[i]?)))))) = ws') (h : zV X k n ws' (pc + 1) lv st) : zV X k n ws pc lv (.ref v :: .int (iI e) :: .ref b :: st) := by
  obtain ⟨p, l, e', R, s, m, args, below, meth, c, Q, Z, A, H0⟩ := X
  obtain ⟨rfl, rfl, hx, hb, hml, ho, hts, hK, hA⟩ := ok
  intro H locs ls hP hD hS hl
  refine va_astq hx hb hK hP hD hS q0 3 qk ci he (by show some (_, _) = some (_, _); rw [hr]) hk hc (iI_in hi (by omega)) d (fun H1 locs1 hP hD hS => ?_)
  have ee : va_up (fun i : Nat => as[i]?) (iI e).toNatClampNeg (some v) = fun i : Nat => as'[i]? := by
    rw [iI_cl ⟨hi.1, by omega⟩]
    funext j
    subst has
    unfold va_up
    by_cases hj : j = e.toNat
    · subst hj
      rw [if_pos rfl, List.getElem?_set_self (by omega)]
    · rw [if_neg hj, List.getElem?_set_ne (fun z => hj z.symm)]
  rw [ee] at hP hD
  subst hw
  exact h H1 locs1 ls hP hD hS hl
theorem z_lushr (ok : zOK X Z R cc own nL) {x v : Int64} {y : Int} (d : decode cc pc = .ok (.lushr, 1)) (hv : (x.toUInt64 >>> ((iI y).toInt64.toUInt64 &&& Int64.toUInt64 63)).toInt64 = v) (h : zV X k n ws (pc + 1) lv (.long v :: st)) : zV X k n ws pc lv (.int (iI y) :: .long x :: st) := by
  obtain ⟨p, l, e', R, s, m, args, below, meth, c, Q, Z, A, H0⟩ := X
  obtain ⟨rfl, rfl, hx, hb, hml, ho, hts, hK, hA⟩ := ok
  intro H locs ls hP hD hS hl
  exact lv_lushr hx hb d hv (h H locs ls hP hD hS hl)
theorem z_lshl (ok : zOK X Z R cc own nL) {x v : Int64} {y : Int} (d : decode cc pc = .ok (.lshl, 1)) (hv : x <<< ((iI y).toInt64 &&& 63) = v) (h : zV X k n ws (pc + 1) lv (.long v :: st)) : zV X k n ws pc lv (.int (iI y) :: .long x :: st) := by
  obtain ⟨p, l, e', R, s, m, args, below, meth, c, Q, Z, A, H0⟩ := X
  obtain ⟨rfl, rfl, hx, hb, hml, ho, hts, hK, hA⟩ := ok
  intro H locs ls hP hD hS hl
  exact lv_lshl hx hb d hv (h H locs ls hP hD hS hl)
theorem z_land (ok : zOK X Z R cc own nL) {x y v : Int64} (d : decode cc pc = .ok (.land, 1)) (hv : x &&& y = v) (h : zV X k n ws (pc + 1) lv (.long v :: st)) : zV X k n ws pc lv (.long y :: .long x :: st) := by
  obtain ⟨p, l, e', R, s, m, args, below, meth, c, Q, Z, A, H0⟩ := X
  obtain ⟨rfl, rfl, hx, hb, hml, ho, hts, hK, hA⟩ := ok
  intro H locs ls hP hD hS hl
  subst hv
  exact lv_land hx hb d (h H locs ls hP hD hS hl)
theorem z_lor (ok : zOK X Z R cc own nL) {x y v : Int64} (d : decode cc pc = .ok (.lor, 1)) (hv : x ||| y = v) (h : zV X k n ws (pc + 1) lv (.long v :: st)) : zV X k n ws pc lv (.long y :: .long x :: st) := by
  obtain ⟨p, l, e', R, s, m, args, below, meth, c, Q, Z, A, H0⟩ := X
  obtain ⟨rfl, rfl, hx, hb, hml, ho, hts, hK, hA⟩ := ok
  intro H locs ls hP hD hS hl
  subst hv
  exact lv_lor hx hb d (h H locs ls hP hD hS hl)
theorem z_lxor (ok : zOK X Z R cc own nL) {x y v : Int64} (d : decode cc pc = .ok (.lxor, 1)) (hv : x ^^^ y = v) (h : zV X k n ws (pc + 1) lv (.long v :: st)) : zV X k n ws pc lv (.long y :: .long x :: st) := by
  obtain ⟨p, l, e', R, s, m, args, below, meth, c, Q, Z, A, H0⟩ := X
  obtain ⟨rfl, rfl, hx, hb, hml, ho, hts, hK, hA⟩ := ok
  intro H locs ls hP hD hS hl
  subst hv
  exact lv_lxor hx hb d (h H locs ls hP hD hS hl)
end ZF
/-- the broken links as bits -/
def bB (N : Int → Int) : Nat → BitVec 64
  | 0 => 0#64
  | k + 1 => bB N k ||| (if N (10 + (k : Int)) = 1 then BitVec.twoPow 64 k else 0#64)
def bkL (N : Int → Int) : Int64 := Int64.ofBitVec (bB N 50)
theorem bB_get {N : Int → Int} : ∀ (n i : Nat), n ≤ 64 → (bB N n).getLsbD i = (decide (i < n) && decide (N (10 + (i : Int)) = 1))
  | 0, i, _ => by unfold bB; simp
  | n + 1, i, h => by
    unfold bB
    rw [BitVec.getLsbD_or, bB_get n i (by omega)]
    by_cases e : N (10 + (n : Int)) = 1
    · rw [if_pos e, BitVec.getLsbD_twoPow]
      by_cases hi : n = i
      · subst hi; simp [e]; omega
      · have : decide (i < n) = decide (i < n + 1) := by congr 1; apply propext; omega
        rw [this]; simp [hi]
    · rw [if_neg e]
      by_cases hi : n = i
      · subst hi; simp [e]
      · have : decide (i < n) = decide (i < n + 1) := by congr 1; apply propext; omega
        rw [this]; simp
theorem sh_amt {j : Int} (h : 0 ≤ j ∧ j < 64) : ((iI j).toInt64.toUInt64 &&& Int64.toUInt64 63) = UInt64.ofNat j.toNat := by
  have key : ∀ q : Fin 64, ((iI (q.val : Int)).toInt64.toUInt64 &&& Int64.toUInt64 63) = UInt64.ofNat q.val := by decide +kernel
  have := key ⟨j.toNat, by omega⟩
  simp only at this
  rw [Int.toNat_of_nonneg h.1] at this
  exact this
theorem sh_one {j : Int} (h : 0 ≤ j ∧ j < 64) : iL 1 <<< ((iI j).toInt64 &&& 63) = Int64.ofBitVec (BitVec.twoPow 64 j.toNat) := by
  have key : ∀ q : Fin 64, iL 1 <<< ((iI (q.val : Int)).toInt64 &&& 63) = Int64.ofBitVec (BitVec.twoPow 64 q.val) := by decide +kernel
  have := key ⟨j.toNat, by omega⟩
  simp only at this
  rw [Int.toNat_of_nonneg h.1] at this
  exact this
theorem bk_bit {N : Int → Int} {j : Int} (h : 0 ≤ j ∧ j < 50) : ((bkL N).toUInt64 >>> ((iI j).toInt64.toUInt64 &&& Int64.toUInt64 63)).toInt64 &&& iL 1 = iL (if N (10 + j) = 1 then 1 else 0) := by
  rw [sh_amt (by omega)]
  apply Int64.toBitVec_inj.mp
  rw [Int64.toBitVec_and]
  have e : (((bkL N).toUInt64 >>> UInt64.ofNat j.toNat).toInt64).toBitVec = bB N 50 >>> j.toNat := by
    show ((bkL N).toUInt64 >>> UInt64.ofNat j.toNat).toBitVec = _
    rw [UInt64.toBitVec_shiftRight]
    show bB N 50 >>> (((UInt64.ofNat j.toNat).toBitVec % 64)) = _
    apply BitVec.eq_of_toNat_eq
    rw [BitVec.ushiftRight_eq', BitVec.toNat_ushiftRight, BitVec.toNat_ushiftRight]
    congr 1
    show (BitVec.ofNat 64 j.toNat % 64#64).toNat = j.toNat
    rw [BitVec.toNat_umod, BitVec.toNat_ofNat, BitVec.toNat_ofNat, show 64 % 2 ^ 64 = 64 from rfl, show (2:Nat) ^ 64 = 18446744073709551616 from rfl]
    omega
  rw [e]
  apply BitVec.eq_of_getLsbD_eq
  intro i hi
  have e1 : (iL 1).toBitVec = 1#64 := by decide
  have e0 : (iL 0).toBitVec = 0#64 := by decide
  rw [BitVec.getLsbD_and, BitVec.getLsbD_ushiftRight, bB_get 50 _ (by omega), e1, BitVec.getLsbD_one]
  by_cases hN : N (10 + j) = 1
  · rw [if_pos hN, e1, BitVec.getLsbD_one]
    by_cases hi0 : i = 0
    · subst hi0
      have : ((j.toNat + 0 : Nat) : Int) = j := by omega
      rw [this]
      simp [hN]; omega
    · simp [hi0]
  · rw [if_neg hN, e0]
    by_cases hi0 : i = 0
    · subst hi0
      have : ((j.toNat + 0 : Nat) : Int) = j := by omega
      rw [this]
      simp [hN]
    · simp [hi0]
theorem bk_set {N : Int → Int} {j : Int} (h : 0 ≤ j ∧ j < 50) : bkL N ||| Int64.ofBitVec (BitVec.twoPow 64 j.toNat) = bkL (zu N (10 + j) 1) := by
  apply Int64.toBitVec_inj.mp
  rw [Int64.toBitVec_or]
  show bB N 50 ||| BitVec.twoPow 64 j.toNat = bB _ 50
  apply BitVec.eq_of_getLsbD_eq
  intro i hi
  rw [BitVec.getLsbD_or, bB_get 50 _ (by omega), bB_get 50 _ (by omega), BitVec.getLsbD_twoPow]
  by_cases e : j.toNat = i
  · subst e
    have : ((j.toNat : Nat) : Int) = j := by omega
    rw [this, zu_s]
    have hl : j.toNat < 50 := by omega
    simp [hl, hi]
  · rw [zu_n (by omega)]
    simp [e]
theorem bk_clr {N : Int → Int} {j : Int} (h : 0 ≤ j ∧ j < 50) : bkL N &&& (Int64.ofBitVec (BitVec.twoPow 64 j.toNat) ^^^ iL (-1)) = bkL (zu N (10 + j) 0) := by
  apply Int64.toBitVec_inj.mp
  rw [Int64.toBitVec_and, Int64.toBitVec_xor]
  show bB N 50 &&& (BitVec.twoPow 64 j.toNat ^^^ (iL (-1)).toBitVec) = bB _ 50
  have e1 : (iL (-1)).toBitVec = BitVec.allOnes 64 := by decide
  apply BitVec.eq_of_getLsbD_eq
  intro i hi
  rw [BitVec.getLsbD_and, BitVec.getLsbD_xor, bB_get 50 _ (by omega), bB_get 50 _ (by omega), BitVec.getLsbD_twoPow, e1, BitVec.getLsbD_allOnes]
  by_cases e : j.toNat = i
  · subst e
    have : ((j.toNat : Nat) : Int) = j := by omega
    rw [this, zu_s]
    simp [hi]
  · rw [zu_n (by omega)]
    simp [e, hi]
theorem bk_cong {N M : Int → Int} (h : ∀ k : Int, 10 ≤ k → k < 60 → N k = M k) : bkL N = bkL M := by
  have key : ∀ n : Nat, n ≤ 50 → bB N n = bB M n := by
    intro n
    induction n with
    | zero => intro _; rfl
    | succ n ih =>
      intro hn
      unfold bB
      rw [ih (by omega), h (10 + (n : Int)) (by omega) (by omega)]
  unfold bkL
  rw [key 50 (by omega)]
theorem bk_zero {N : Int → Int} (h : ∀ k : Int, 10 ≤ k → k < 60 → N k = 0) : bkL N = iL 0 := by
  have key : ∀ n : Nat, n ≤ 50 → bB N n = 0#64 := by
    intro n
    induction n with
    | zero => intro _; rfl
    | succ n ih =>
      intro hn
      unfold bB
      rw [ih (by omega), h (10 + (n : Int)) (by omega) (by omega), if_neg (by decide)]
      rfl
  unfold bkL
  rw [key 50 (by omega)]
  decide
