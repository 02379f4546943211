/-! further rows for instructions -/
section QZ_z_aload
variable {X : zX} {Z : zZ} {R : Room} {cc : ByteArray} {own : String} {nL : Nat} {k n : Nat} {ws : va_W} {pc : Nat} {lv : List (Nat × Value)} {st : List Value}
theorem z_aload (ok : zOK X Z R cc own nL) {i : Nat} {v : Nat} (d : decode cc pc = .ok (.aload i, 2)) (e : lv.lookup i = some (.ref v)) (h : zV X k n ws (pc + 2) lv (.ref v :: st)) : zV X k n ws pc lv st := by
  obtain ⟨p, l, e0, R, s, m, args, below, meth, c, Q, Z, A, H0⟩ := X
  obtain ⟨rfl, rfl, hx, hb, hml, ho, hts, hK, hA⟩ := ok
  intro H locs ls hP hD hS hl
  exact lv_aload hx hb d (zlv hl e) (h H locs ls hP hD hS hl)
end QZ_z_aload
section QZ_z_ineg
variable {X : zX} {Z : zZ} {R : Room} {cc : ByteArray} {own : String} {nL : Nat} {k n : Nat} {ws : va_W} {pc : Nat} {lv : List (Nat × Value)} {st : List Value}
theorem z_ineg (ok : zOK X Z R cc own nL) {a : Int} (d : decode cc pc = .ok (.ineg, 1)) (h : zV X k n ws (pc + 1) lv (.int (iI (-a)) :: st)) : zV X k n ws pc lv (.int (iI a) :: st) := by
  obtain ⟨p, l, e0, R, s, m, args, below, meth, c, Q, Z, A, H0⟩ := X
  obtain ⟨rfl, rfl, hx, hb, hml, ho, hts, hK, hA⟩ := ok
  intro H locs ls hP hD hS hl
  exact lv_ineg hx hb d (by rw [iI_neg]; exact h H locs ls hP hD hS hl)
end QZ_z_ineg
section QZ_z_pop
variable {X : zX} {Z : zZ} {R : Room} {cc : ByteArray} {own : String} {nL : Nat} {k n : Nat} {ws : va_W} {pc : Nat} {lv : List (Nat × Value)} {st : List Value}
theorem z_pop (ok : zOK X Z R cc own nL) {v : Value} (d : decode cc pc = .ok (.pop, 1)) (hv : v.category = 1) (h : zV X k n ws (pc + 1) lv st) : zV X k n ws pc lv (v :: st) := by
  obtain ⟨p, l, e0, R, s, m, args, below, meth, c, Q, Z, A, H0⟩ := X
  obtain ⟨rfl, rfl, hx, hb, hml, ho, hts, hK, hA⟩ := ok
  intro H locs ls hP hD hS hl
  exact lv_pop hx hb d hv (h H locs ls hP hD hS hl)
end QZ_z_pop
section QZ_z_if_ge
variable {X : zX} {Z : zZ} {R : Room} {cc : ByteArray} {own : String} {nL : Nat} {k n : Nat} {ws : va_W} {pc : Nat} {lv : List (Nat × Value)} {st : List Value}
theorem z_if_ge (ok : zOK X Z R cc own nL) {a off : Int} {tgt : Nat} (d : decode cc pc = .ok (.ifCond .ge off, 3)) (ht : (pc : Int) + off = (tgt : Int)) (ha : -2147483648 ≤ a ∧ a < 2147483648) (kt : 0 ≤ a → zV X k n ws tgt lv st) (kf : a < 0 → zV X k n ws (pc + 3) lv st) : zV X k n ws pc lv (.int (iI a) :: st) := by
  obtain ⟨p, l, e0, R, s, m, args, below, meth, c, Q, Z, A, H0⟩ := X
  obtain ⟨rfl, rfl, hx, hb', hml, ho, hts, hK, hA⟩ := ok
  intro H locs ls hP hD hS hl
  have hz : -2147483648 ≤ (0 : Int) ∧ (0 : Int) < 2147483648 := ⟨by decide, by decide⟩
  exact lv_if_ge hx hb' d ht (fun c => kt ((iI_le hz ha).mp c) H locs ls hP hD hS hl) (fun c => kf (Int.not_le.mp (fun z => c ((iI_le hz ha).mpr z))) H locs ls hP hD hS hl)
end QZ_z_if_ge
section QZ_z_if_gt
variable {X : zX} {Z : zZ} {R : Room} {cc : ByteArray} {own : String} {nL : Nat} {k n : Nat} {ws : va_W} {pc : Nat} {lv : List (Nat × Value)} {st : List Value}
theorem z_if_gt (ok : zOK X Z R cc own nL) {a off : Int} {tgt : Nat} (d : decode cc pc = .ok (.ifCond .gt off, 3)) (ht : (pc : Int) + off = (tgt : Int)) (ha : -2147483648 ≤ a ∧ a < 2147483648) (kt : 0 < a → zV X k n ws tgt lv st) (kf : a ≤ 0 → zV X k n ws (pc + 3) lv st) : zV X k n ws pc lv (.int (iI a) :: st) := by
  obtain ⟨p, l, e0, R, s, m, args, below, meth, c, Q, Z, A, H0⟩ := X
  obtain ⟨rfl, rfl, hx, hb', hml, ho, hts, hK, hA⟩ := ok
  intro H locs ls hP hD hS hl
  have hz : -2147483648 ≤ (0 : Int) ∧ (0 : Int) < 2147483648 := ⟨by decide, by decide⟩
  exact lv_if_gt hx hb' d ht (fun c => kt ((iI_lt hz ha).mp c) H locs ls hP hD hS hl) (fun c => kf (Int.not_lt.mp (fun z => c ((iI_lt hz ha).mpr z))) H locs ls hP hD hS hl)
end QZ_z_if_gt
section QZ_z_st
variable {X : zX} {Z : zZ} {R : Room} {cc : ByteArray} {own : String} {nL : Nat} {k n : Nat} {ws ws' : va_W} {pc : Nat} {lv : List (Nat × Value)} {st : List Value}
theorem z_st {st' : List Value} (e : st = st') (h : zV X k n ws pc lv st') : zV X k n ws pc lv st := e ▸ h
end QZ_z_st
section QZ_z_callKI
variable {X : zX} {Z : zZ} {R : Room} {cc : ByteArray} {own : String} {nL : Nat} {k n : Nat} {ws ws' : va_W} {pc : Nat} {lv : List (Nat × Value)} {st : List Value} {bs L : Nat} {xs : Nat → Int32}
theorem z_callKI (ok : zOK X Z R cc own nL) (hnx : zNX X) {T : Type} {y : MethodName} {C : String} {bytes : ByteArray} {maxL idx b : Nat} {rm : Room} {rest : List Value} {wc wr : va_W} {w' : T → va_W} {post : T → Prop} (ct : ∀ l, zK l y (Cond.code y bytes maxL none :: wsL_law) rm Z [.ref b] wc w' post) (hm : zMT y C bytes maxL none 0) (hyi : y.name = "<init>") (hv : Cond.instanceMethod y ∈ wsL_law) (hlk : Cond.methodLink own idx y ∈ wsL_law) (d : decode cc pc = .ok (.invokespecial idx, 3)) (hR : rm.frames + 1 ≤ R.frames ∧ 8 + (maxL + 11) + rm.locals ≤ R.locals) (hc : k + rm.cells ≤ R.cells ∧ n + rm.slots ≤ R.slots) (hW : (rest.map fun v => v.category).sum ≤ 8) (hp : ws.Perm (wc ++ wr)) (h : ∀ (u : T), post u → zV X (k + rm.cells) (n + rm.slots) (w' u ++ wr) (pc + 3) lv rest) : zV X k n ws pc lv (.ref b :: rest) := by
  obtain ⟨p, l, e', R, s, m, args, below, meth, c, Q, Z, A, H0⟩ := X
  obtain ⟨rfl, rfl, hx, hb, hml, ho, hts, hK, hA⟩ := ok
  intro H locs ls hP hD hS hlv
  have hP := zP_perm hp hP
  have hD := zD_perm hp hD
  have hF := zfree hD hS hA
  refine va_callv (va_runI (As := []) (rest := rest) (n := 0) ⟨hx, hb, hml, ho, hts⟩ (ct l H.size) ⟨zcallB hts hm hlk hR, hyi, hts _ hv⟩ ⟨zblindK, zbeforeK hnx hK hP hD⟩ rfl rfl (by show ls.size = nL; rw [hlv.1, hml]) rfl (lv_room hW) d hc) hS (fun q _ h => hF q h) hF ?_
  intro u t H1 locs1 ht hvm hpost ⟨hP1, hK1, hD1⟩ hz hk hS1
  rw [ht] at hP1
  obtain ⟨hP2, hD2⟩ := zjoin hP hD hk hF hP1 hD1
  exact h u hpost H1 locs1 ls hP2 hD2 hS1 hlv
end QZ_z_callKI
section QZ_z_widen
variable {X : zX} {Z : zZ} {R : Room} {cc : ByteArray} {own : String} {nL : Nat} {k n : Nat} {ws ws' : va_W} {pc : Nat} {lv : List (Nat × Value)} {st : List Value} {bs L : Nat} {xs : Nat → Int32}
theorem z_widen (ok : zOK X Z R cc own nL) {k' n' : Nat} (hk : k ≤ k') (hn : n ≤ n') (h : zV X k' n' ws pc lv st) : zV X k n ws pc lv st := by
  obtain ⟨p, l, e', R, s, m, args, below, meth, c, Q, Z, A, H0⟩ := X
  intro H locs ls hP hD hS hl
  exact W.widen hk hn (h H locs ls hP hD hS hl)
end QZ_z_widen
