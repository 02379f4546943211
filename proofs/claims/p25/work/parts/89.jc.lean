/-! contracts beside the script; rows for shifts, xor, a constant of the pool -/
def zPreJ (Z : zZ) (av : List Value) (ws : va_W) (sz bs L : Nat) (xs : Nat → Int32) : Array Value → State → Prop := va_Pc av (fun U => U.heap.size = sz ∧ va_P Z.1 vwCl ws U.heap ∧ va_K Z.1 vwCl (zT Z) U ∧ va_D (fun _ => True) ws ∧ zNW U ∧ va_X bs L xs U U.heap ∧ bs < sz ∧ ¬ va_A ws sz bs ∧ L ≤ 2048)
def zJ {T : Type} (l : Launch) (y : MethodName) (wy : List Cond) (rm : Room) (Z : zZ) (bs L : Nat) (xs : Nat → Int32) (av : List Value) (ws : va_W) (w' : T → va_W) (post : Int → T → Prop) : Prop :=
  ∀ sz : Nat, Met l y wy rm (zPreJ Z av ws sz bs L xs) (va_Qi (fun (r : Int32) (u : T) => ∃ ρ : Int, r = iI ρ ∧ post ρ u) (zB Z ws sz w') (va_A ws sz)) rm.cells rm.slots (va_A ws sz)
theorem zblindJ {Z : zZ} {av : List Value} {ws : va_W} {sz bs L : Nat} {xs : Nat → Int32} : FrameBlind (zPreJ Z av ws sz bs L xs) := by
  intro a U g mk h
  obtain ⟨h0, h1, h2, h3, h4, h5, h6, h7⟩ := h
  exact ⟨h0, h1, h2, va_K.moved (u := U) (U := U.calling g mk a) (Vm.Alike.refl U.vm) h3, h4, h5.same rfl, va_X.moved (u := U) (U := U.calling g mk a) (Vm.Alike.refl U.vm) h6, h7⟩
theorem zbeforeJ {Z : zZ} {A : Nat → Prop} {av : List Value} {wc wr : va_W} {s : State} {H : Heap} {bs L : Nat} {xs : Nat → Int32} (hn : zNW s) (hX : va_X bs L xs s H) (hb : bs < H.size) (hA : ¬ va_A wc H.size bs) (hL : L ≤ 2048) (hK : va_K Z.1 vwCl (zT Z) s) (hP : va_P Z.1 vwCl (wc ++ wr) H) (hD : va_D A (wc ++ wr)) : ∀ U : State, U.heap = H → s.WarmedH U.vm → zPreJ Z av wc H.size bs L xs av.toArray U :=
  fun U hU hW => ⟨rfl, by rw [hU], by rw [hU]; exact zPsub hP, va_K.moved hW.alike hK, zDsub hD, hn.warm hW, by rw [hU]; exact va_X.moved hW.alike hX, hb, hA, hL⟩
section ZJ
variable {X : zX} {Z : zZ} {R : Room} {cc : ByteArray} {own : String} {nL : Nat} {k n : Nat} {ws ws' : va_W} {pc : Nat} {lv : List (Nat × Value)} {st : List Value} {bs L : Nat} {xs : Nat → Int32}
theorem z_callSj (ok : zOK X Z R cc own nL) (hnx : zNX X) (hsc : zSC X bs L xs) {T : Type} {y : MethodName} {C : String} {bytes : ByteArray} {maxL np idx : Nat} {ret : Option FieldType} {rm : Room} {As rest : List Value} {wc wr : va_W} {w' : T → va_W} {post : Int → T → Prop} (ct : ∀ l, zJ l y (Cond.code y bytes maxL ret :: wsL_law) rm Z bs L xs As wc w' post) (hm : zMT y C bytes maxL ret np) (hv : Cond.static y ∈ wsL_law) (hlk : Cond.methodLink own idx y ∈ wsL_law) (d : decode cc pc = .ok (.invokestatic idx, 3)) (hR : rm.frames + 1 ≤ R.frames ∧ 8 + (maxL + 11) + rm.locals ≤ R.locals) (hc : k + rm.cells ≤ R.cells ∧ n + rm.slots ≤ R.slots) (hn : As.length = np) (hst : st = As.reverse ++ rest) (hW : (rest.map fun v => v.category).sum ≤ 8) (hp : ws.Perm (wc ++ wr)) (h : ∀ (ρ : Int) (u : T), post ρ u → zV X (k + rm.cells) (n + rm.slots) (w' u ++ wr) (pc + 3) lv (.int (iI ρ) :: rest)) : zV X k n ws pc lv st := by
  obtain ⟨p, l, e', R, s, m, args, below, meth, c, Q, Z, A, H0⟩ := X
  obtain ⟨rfl, rfl, hx, hb, hml, ho, hts, hK, hA⟩ := ok
  obtain ⟨hX, hbl, hbA, hL⟩ := hsc
  intro H locs ls hP hD hS hlv
  have hP := zP_perm hp hP
  have hD := zD_perm hp hD
  have hF := zfree hD hS hA
  have hX1 := hX.kept (H1 := H) (hS.2.1 bs hbl hbA)
  subst hst
  refine va_calli (va_runS (As := As) (rest := rest) (n := np) ⟨hx, hb, hml, ho, hts⟩ (ct l H.size) ⟨zcallB hts hm hlk hR, hts _ hv⟩ ⟨zblindJ, zbeforeJ hnx hX1 (Nat.lt_of_lt_of_le hbl hS.1) (fun q => hbA (hF _ q)) hL hK hP hD⟩ rfl hn (by show ls.size = nL; rw [hlv.1, hml]) rfl (lv_room hW) d hc) hS (fun q _ h => hF q h) hF ?_
  intro r u t H1 locs1 ht hvm ⟨ρ, hr, hpost⟩ ⟨hP1, hK1, hD1⟩ hz hk hS1
  subst hr
  rw [ht] at hP1
  obtain ⟨hP2, hD2⟩ := zjoin hP hD hk hF hP1 hD1
  exact h ρ u hpost H1 locs1 ls hP2 hD2 hS1 hlv
theorem z_ishr (ok : zOK X Z R cc own nL) {x y : Int32} (d : decode cc pc = .ok (.ishr, 1)) (h : zV X k n ws (pc + 1) lv (.int (iI (x >>> (y &&& 31)).toInt) :: st)) : zV X k n ws pc lv (.int y :: .int x :: st) := by
  obtain ⟨p, l, e', R, s, m, args, below, meth, c, Q, Z, A, H0⟩ := X
  obtain ⟨rfl, rfl, hx, hb, hml, ho, hts, hK, hA⟩ := ok
  intro H locs ls hP hD hS hl
  rw [iI_self] at h
  exact lv_ishr hx hb d (h H locs ls hP hD hS hl)
theorem z_ixor (ok : zOK X Z R cc own nL) {x y v : Int32} (d : decode cc pc = .ok (.ixor, 1)) (hv : x ^^^ y = v) (h : zV X k n ws (pc + 1) lv (.int v :: st)) : zV X k n ws pc lv (.int y :: .int x :: st) := by
  obtain ⟨p, l, e', R, s, m, args, below, meth, c, Q, Z, A, H0⟩ := X
  obtain ⟨rfl, rfl, hx, hb, hml, ho, hts, hK, hA⟩ := ok
  intro H locs ls hP hD hS hl
  subst hv
  exact lv_ixor hx hb d (h H locs ls hP hD hS hl)
theorem z_ldc (ok : zOK X Z R cc own nL) {idx : Nat} {z : Int} {v : Int32} (hlk : Cond.constant own idx v ∈ wsL_law) (hv : v = iI z) (d : decode cc pc = .ok (.ldc idx, 2)) (h : zV X k n ws (pc + 2) lv (.int (iI z) :: st)) : zV X k n ws pc lv st := by
  obtain ⟨p, l, e', R, s, m, args, below, meth, c, Q, Z, A, H0⟩ := X
  obtain ⟨rfl, rfl, hx, hb, hml, ho, hts, hK, hA⟩ := ok
  intro H locs ls hP hD hS hl
  subst hv
  exact lv_ldc hx hb ho (hts _ hlk) d (h H locs ls hP hD hS hl)
end ZJ
theorem zJ_of {T : Type} {l : Launch} {y : MethodName} {C : String} {bytes : ByteArray} {maxL : Nat} {ty : FieldType} {rm : Room} {Z : zZ} {bs L : Nat} {xs : Nat → Int32} {av : List Value} {ws : va_W} {w' : T → va_W} {post : Int → T → Prop} (hy : plainName y.cls = true) (hC : y.cls = C) (hav : (lg_sl av).length ≤ maxL) (nar : Int → Prop) (hnar : ∀ ρ, nar ρ → narrow ty (.int (iI ρ)) = .int (iI ρ))
    (body : ∀ X : zX, zOK X Z rm bytes C maxL → zNX X → zSC X bs L xs → (∀ (ρ : Int) (u : T) (pc : Nat) (lv : List (Nat × Value)) (k n : Nat), decode bytes pc = .ok (.ireturn, 1) → nar ρ → post ρ u → k ≤ rm.cells → n ≤ rm.slots → zV X k n (w' u) pc lv [.int (iI ρ)]) → zV X 0 0 ws 0 (lv_args 0 av) []) : zJ l y (Cond.code y bytes maxL (some ty) :: wsL_law) rm Z bs L xs av ws w' post := by
  intro sz
  refine Met.ofW (cc := bytes) (maxL := maxL) (ret := some ty) hy rfl ?_
  intro p e s m args below meth c s₁ B hml hv
  obtain ⟨rfl, hsz, hP, hK, hD0, hnw, hX, hbs, hbA, hLL⟩ := hv
  have hx := B.exec
  have hb := B.bytes
  have hr := B.returns
  have hts := atoms_spec (ws := Cond.code y bytes maxL (some ty) :: wsL_law) B.pre
  have hown : s.vm.findClass C = some m.cls := hC ▸ findClass_of_methodNamed B.named
  have hlocks := B.notSynchronized
  subst hsz
  have hD := hD0.self (sz := s.heap.size)
  have hl := lv_entry av (n := maxL) hav
  rw [lg_entry_eq]
  refine body (p, l, e, (headSpec (Cond.code y bytes maxL (some ty) :: wsL_law) rm).room, s, m, av.toArray, below, meth, c, MQ below (va_Qi (fun (r : Int32) (u : T) => ∃ ρ : Int, r = iI ρ ∧ post ρ u) (zB Z ws s.heap.size w') (va_A ws s.heap.size)) av.toArray s rm.cells rm.slots (va_A ws s.heap.size), Z, va_A ws s.heap.size, s.heap) ⟨rfl, rfl, hx, hb, hml, hown, fun w h => hts w (List.mem_cons_of_mem _ h), hK, fun q h => Or.inr h⟩ hnw ⟨hX, hbs, hbA, hLL⟩ ?_ s.heap [] _ hP hD va_S.rf (by rw [hml]; exact hl)
  intro ρ u pc lv k n hd hn hp hk hns H locs ls hP hD hS hl
  refine W.widen hk hns ?_
  exact W.zret hx hb hr (hnar ρ hn) (fun t ht hW => ⟨⟨iI ρ, u, rfl, ⟨ρ, rfl, hp⟩, by rw [ht]; exact hP, va_K.moved hW.alike hK, hD⟩, hS.F ht⟩) hS.2.2 hd
