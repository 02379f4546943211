/-! calls of methods over the same world, or over none; numbers of Math; the reference's world -/
theorem znI : ∀ ρ : Int, True → narrow .int (.int (iI ρ)) = .int (iI ρ) := fun _ _ => rfl
theorem znZ : ∀ ρ : Int, (ρ = 0 ∨ ρ = 1) → narrow .boolean (.int (iI ρ)) = .int (iI ρ) := by
  intro ρ h
  rcases h with rfl | rfl <;> decide
theorem zfZ : ∀ ρ : Int, (ρ = 0 ∨ ρ = 1) → fits .boolean (.int (iI ρ)) = true := by
  intro ρ h
  rcases h with rfl | rfl <;> decide
theorem znC : ∀ ρ : Int, (0 ≤ ρ ∧ ρ < 65536) → narrow .char (.int (iI ρ)) = .int (iI ρ) := by
  intro ρ h
  rw [iI_nat h.1]
  exact (pk_charN (by omega)).1
def zabs (a : Int) : Int := max a (-a)
section ZC
variable {X : zX} {Z : zZ} {R : Room} {cc : ByteArray} {own : String} {nL : Nat} {k n : Nat} {ws ws' : va_W} {pc : Nat} {lv : List (Nat × Value)} {st : List Value}
theorem z_callVi0 (ok : zOK X Z R cc own nL) {T : Type} {y : MethodName} {C : String} {bytes : ByteArray} {maxL np idx b q0 ci : Nat} {ret : Option FieldType} {rm : Room} {As rest fs : List Value} {w' : T → va_W} {post : Int → T → Prop} {q : vw_C} (ct : ∀ l, zI l y (Cond.code y bytes maxL ret :: wsL_law) rm Z (.ref b :: As) ws w' post) (hm : zMT y C bytes maxL ret np) (hv : zMV y C) (hlk : Cond.methodLink own idx y ∈ wsL_law) (d : decode cc pc = .ok (.invokevirtual idx, 3)) (hR : rm.frames + 1 ≤ R.frames ∧ 8 + (maxL + 11) + rm.locals ≤ R.locals) (hc : k + rm.cells ≤ R.cells ∧ n + rm.slots ≤ R.slots) (hn : As.length = np) (hst : st = As.reverse ++ .ref b :: rest) (hW : (rest.map fun v => v.category).sum ≤ 8) (he : ws[q0]? = some (b, .inr (ci, fs))) (hcl : vwCl[ci]? = some q) (hq : q.1 = C) (h : ∀ (ρ : Int) (u : T), post ρ u → zV X (k + rm.cells) (n + rm.slots) (w' u) (pc + 3) lv (.int (iI ρ) :: rest)) : zV X k n ws pc lv st :=
  z_callVi (wr := []) ok ct hm hv hlk d hR hc hn hst hW he hcl hq (by rw [List.append_nil]) (fun ρ u hp => by rw [List.append_nil]; exact h ρ u hp)
theorem z_callVv0 (ok : zOK X Z R cc own nL) {T : Type} {y : MethodName} {C : String} {bytes : ByteArray} {maxL np idx b q0 ci : Nat} {ret : Option FieldType} {rm : Room} {As rest fs : List Value} {w' : T → va_W} {post : T → Prop} {q : vw_C} (ct : ∀ l, zN l y (Cond.code y bytes maxL ret :: wsL_law) rm Z (.ref b :: As) ws w' post) (hm : zMT y C bytes maxL ret np) (hv : zMV y C) (hlk : Cond.methodLink own idx y ∈ wsL_law) (d : decode cc pc = .ok (.invokevirtual idx, 3)) (hR : rm.frames + 1 ≤ R.frames ∧ 8 + (maxL + 11) + rm.locals ≤ R.locals) (hc : k + rm.cells ≤ R.cells ∧ n + rm.slots ≤ R.slots) (hn : As.length = np) (hst : st = As.reverse ++ .ref b :: rest) (hW : (rest.map fun v => v.category).sum ≤ 8) (he : ws[q0]? = some (b, .inr (ci, fs))) (hcl : vwCl[ci]? = some q) (hq : q.1 = C) (h : ∀ (u : T), post u → zV X (k + rm.cells) (n + rm.slots) (w' u) (pc + 3) lv rest) : zV X k n ws pc lv st :=
  z_callVv (wr := []) ok ct hm hv hlk d hR hc hn hst hW he hcl hq (by rw [List.append_nil]) (fun u hp => by rw [List.append_nil]; exact h u hp)
theorem z_callSie (ok : zOK X Z R cc own nL) {T : Type} {y : MethodName} {C : String} {bytes : ByteArray} {maxL np idx : Nat} {ret : Option FieldType} {rm : Room} {As rest : List Value} {post : Int → T → Prop} (ct : ∀ l, zI l y (Cond.code y bytes maxL ret :: wsL_law) rm Z As [] (fun _ : T => []) post) (hm : zMT y C bytes maxL ret np) (hv : Cond.static y ∈ wsL_law) (hlk : Cond.methodLink own idx y ∈ wsL_law) (d : decode cc pc = .ok (.invokestatic idx, 3)) (hR : rm.frames + 1 ≤ R.frames ∧ 8 + (maxL + 11) + rm.locals ≤ R.locals) (hc : k + rm.cells ≤ R.cells ∧ n + rm.slots ≤ R.slots) (hn : As.length = np) (hst : st = As.reverse ++ rest) (hW : (rest.map fun v => v.category).sum ≤ 8) (h : ∀ (ρ : Int) (u : T), post ρ u → zV X (k + rm.cells) (n + rm.slots) ws (pc + 3) lv (.int (iI ρ) :: rest)) : zV X k n ws pc lv st :=
  z_callSi (wc := []) (wr := ws) ok ct hm hv hlk d hR hc hn hst hW (List.Perm.refl _) (fun ρ u hp => h ρ u hp)
theorem z_mmin (ok : zOK X Z R cc own nL) {idx : Nat} {a b : Int} (hlk : Cond.methodLink own idx Lib.Math.min.name ∈ wsL_law) (hs : Cond.static Lib.Math.min.name ∈ wsL_law) (hi : Cond.initialized "java/lang/Math" ∈ wsL_law) (hco : Cond.code Lib.Math.min.name Lib.Math.min.code 2 (some .int) ∈ wsL_law) (d : decode cc pc = .ok (.invokestatic idx, 3)) (hf : 1 ≤ R.frames ∧ k ≤ R.cells ∧ n ≤ R.slots) (hlo : (st.map fun v => v.category).sum + 13 ≤ R.locals) (ha : -2147483648 ≤ a ∧ a < 2147483648) (hb : -2147483648 ≤ b ∧ b < 2147483648) (h : zV X k n ws (pc + 3) lv (.int (iI (min a b)) :: st)) : zV X k n ws pc lv (.int (iI b) :: .int (iI a) :: st) := by
  obtain ⟨p, l, e', R, s, m, args, below, meth, c, Q, Z, A, H0⟩ := X
  obtain ⟨rfl, rfl, hx, hbb, hml, ho, hts, hK, hA⟩ := ok
  intro H locs ls hP hD hS hl
  refine va_mmin hx hbb hl.1.symm ho (hts _ hlk) (hts _ hs) (hts _ hi) (hts _ hco) hf.1 hlo hf.2.1 hf.2.2 d ?_
  have e : (if iI b < iI a then iI b else iI a) = iI (min a b) := by
    by_cases hlt : b < a
    · rw [if_pos ((iI_lt hb ha).mpr hlt)]; congr 1; omega
    · rw [if_neg (fun z => hlt ((iI_lt hb ha).mp z))]; congr 1; omega
  rw [e]
  exact h H locs ls hP hD hS hl
theorem z_mmax (ok : zOK X Z R cc own nL) {idx : Nat} {a b : Int} (hlk : Cond.methodLink own idx Lib.Math.max.name ∈ wsL_law) (hs : Cond.static Lib.Math.max.name ∈ wsL_law) (hi : Cond.initialized "java/lang/Math" ∈ wsL_law) (hco : Cond.code Lib.Math.max.name Lib.Math.max.code 2 (some .int) ∈ wsL_law) (d : decode cc pc = .ok (.invokestatic idx, 3)) (hf : 1 ≤ R.frames ∧ k ≤ R.cells ∧ n ≤ R.slots) (hlo : (st.map fun v => v.category).sum + 13 ≤ R.locals) (ha : -2147483648 ≤ a ∧ a < 2147483648) (hb : -2147483648 ≤ b ∧ b < 2147483648) (h : zV X k n ws (pc + 3) lv (.int (iI (max a b)) :: st)) : zV X k n ws pc lv (.int (iI b) :: .int (iI a) :: st) := by
  obtain ⟨p, l, e', R, s, m, args, below, meth, c, Q, Z, A, H0⟩ := X
  obtain ⟨rfl, rfl, hx, hbb, hml, ho, hts, hK, hA⟩ := ok
  intro H locs ls hP hD hS hl
  refine va_mmax hx hbb hl.1.symm ho (hts _ hlk) (hts _ hs) (hts _ hi) (hts _ hco) hf.1 hlo hf.2.1 hf.2.2 d ?_
  have e : (if iI a < iI b then iI b else iI a) = iI (max a b) := by
    by_cases hlt : a < b
    · rw [if_pos ((iI_lt ha hb).mpr hlt)]; congr 1; omega
    · rw [if_neg (fun z => hlt ((iI_lt ha hb).mp z))]; congr 1; omega
  rw [e]
  exact h H locs ls hP hD hS hl
theorem z_mabs (ok : zOK X Z R cc own nL) {idx : Nat} {a : Int} (hlk : Cond.methodLink own idx Lib.Math.abs.name ∈ wsL_law) (hs : Cond.static Lib.Math.abs.name ∈ wsL_law) (hi : Cond.initialized "java/lang/Math" ∈ wsL_law) (hco : Cond.code Lib.Math.abs.name Lib.Math.abs.code 1 (some .int) ∈ wsL_law) (d : decode cc pc = .ok (.invokestatic idx, 3)) (hf : 1 ≤ R.frames ∧ k ≤ R.cells ∧ n ≤ R.slots) (hlo : (st.map fun v => v.category).sum + 13 ≤ R.locals) (ha : -2147483648 ≤ a ∧ a < 2147483648) (h : zV X k n ws (pc + 3) lv (.int (iI (zabs a)) :: st)) : zV X k n ws pc lv (.int (iI a) :: st) := by
  obtain ⟨p, l, e', R, s, m, args, below, meth, c, Q, Z, A, H0⟩ := X
  obtain ⟨rfl, rfl, hx, hbb, hml, ho, hts, hK, hA⟩ := ok
  intro H locs ls hP hD hS hl
  refine va_mabs hx hbb hl.1.symm ho (hts _ hlk) (hts _ hs) (hts _ hi) (hts _ hco) hf.1 hlo hf.2.1 hf.2.2 d ?_
  have e : (if 0 ≤ iI a then iI a else 0 - iI a) = iI (zabs a) := by
    have hz : (0 : Int32) = iI 0 := rfl
    rw [hz]
    unfold zabs
    by_cases hlt : 0 ≤ a
    · rw [if_pos ((iI_le ⟨by decide, by decide⟩ ha).mpr hlt)]; congr 1; omega
    · rw [if_neg (fun z => hlt ((iI_le ⟨by decide, by decide⟩ ha).mp z)), iI_sub]; congr 1; omega
  rw [e]
  exact h H locs ls hP hD hS hl
theorem z_alen (ok : zOK X Z R cc own nL) (q0 : Nat) {b N : Nat} {v : Int} {f : Nat → Int32} (he : ws[q0]? = some (b, .inl (Z.2.1, N, .inl f))) (hv : (N : Int) = v) (d : decode cc pc = .ok (.arraylength, 1)) (h : zV X k n ws (pc + 1) lv (.int (iI v) :: st)) : zV X k n ws pc lv (.ref b :: st) := by
  obtain ⟨p, l, e', R, s, m, args, below, meth, c, Q, Z, A, H0⟩ := X
  obtain ⟨rfl, rfl, hx, hbb, hml, ho, hts, hK, hA⟩ := ok
  intro H locs ls hP hD hS hl
  subst hv
  exact va_alen hx hbb hK hP q0 0 he (ty := .int) rfl rfl d (h H locs ls hP hD hS hl)
end ZC
/-- the reference's world: the object, its arrays -/
def mW (Z : zZ) (q : Nat → Nat) (now kept hist : Int → Int) (und : Int) (sav isv pad : Int → Int) (sg it : Int) (far many laid sides stuck ord : Int → Int) (rd pl wr : Int) : va_W :=
  [(q 0, .inr (7, [.ref (q 1), .ref (q 2), .ref (q 3), .int (iI und), .ref (q 4), .ref (q 5), .ref (q 6), .int (iI sg), .int (iI it), .ref (q 7), .ref (q 8), .ref (q 9), .ref (q 10), .ref (q 11), .ref (q 12), .int (iI rd), .int (iI pl), .int (iI wr)])),
   (q 1, .inl (Z.2.1, 560, .inl (fun j : Nat => iI (now j)))),
   (q 2, .inl (Z.2.1, 560, .inl (fun j : Nat => iI (kept j)))),
   (q 3, .inl (Z.2.1, 3360, .inl (fun j : Nat => iI (hist j)))),
   (q 4, .inl (Z.2.1, 1120, .inl (fun j : Nat => iI (sav j)))),
   (q 5, .inl (Z.2.2.1, 2, .inl (fun j : Nat => iI (isv j)))),
   (q 6, .inl (Z.2.1, 80, .inl (fun j : Nat => iI (pad j)))),
   (q 7, .inl (Z.2.1, 6250, .inl (fun j : Nat => iI (far j)))),
   (q 8, .inl (Z.2.1, 6250, .inl (fun j : Nat => iI (many j)))),
   (q 9, .inl (Z.2.2.1, 25, .inl (fun j : Nat => iI (laid j)))),
   (q 10, .inl (Z.2.1, 4, .inl (fun j : Nat => iI (sides j)))),
   (q 11, .inl (Z.2.2.1, 40, .inl (fun j : Nat => iI (stuck j)))),
   (q 12, .inl (Z.2.1, 240, .inl (fun j : Nat => iI (ord j))))]
theorem zm_X6_learnRoutes : zMT yX6_learnRoutes RX6 cX6_learnRoutes 1 none 0 := ⟨qc_X6_learnRoutes, qn_RX6, rfl, by decide +kernel, by decide +kernel, by decide +kernel⟩
theorem zv_X6_learnRoutes : zMV yX6_learnRoutes RX6 := ⟨qi_X6_learnRoutes, qs_X6_learnRoutes⟩
theorem zm_X4_learn : zMT yX4_learn RX4 cX4_learn 8 none 2 := ⟨qc_X4_learn, qn_RX4, rfl, by decide +kernel, by decide +kernel, by decide +kernel⟩
theorem zv_X4_learn : zMV yX4_learn RX4 := ⟨qi_X4_learn, qs_X4_learn⟩
theorem zm_X0_boxes : zMT yX0_boxes RX0 cX0_boxes 1 (some .int) 0 := ⟨qc_X0_boxes, qn_RX0, rfl, by decide +kernel, by decide +kernel, by decide +kernel⟩
theorem zv_X0_boxes : zMV yX0_boxes RX0 := ⟨qi_X0_boxes, qs_X0_boxes⟩
theorem zm_X0_linkAt : zMT yX0_linkAt RX0 cX0_linkAt 4 (some .int) 2 := ⟨qc_X0_linkAt, qn_RX0, rfl, by decide +kernel, by decide +kernel, by decide +kernel⟩
theorem zv_X0_linkAt : zMV yX0_linkAt RX0 := ⟨qi_X0_linkAt, qs_X0_linkAt⟩
theorem zm_X0_beside : zMT yX0_beside RX0 cX0_beside 5 (some .int) 2 := ⟨qc_X0_beside, qn_RX0, rfl, by decide +kernel, by decide +kernel, by decide +kernel⟩
theorem zv_X0_beside : zMV yX0_beside RX0 := ⟨qi_X0_beside, qs_X0_beside⟩
theorem zm_X0_isWhole : zMT yX0_isWhole RX0 cX0_isWhole 2 (some .boolean) 1 := ⟨qc_X0_isWhole, qn_RX0, rfl, by decide +kernel, by decide +kernel, by decide +kernel⟩
theorem zv_X0_isWhole : zMV yX0_isWhole RX0 := ⟨qi_X0_isWhole, qs_X0_isWhole⟩
theorem zm_X4_search : zMT yX4_search RX4 cX4_search 3 none 1 := ⟨qc_X4_search, qn_RX4, rfl, by decide +kernel, by decide +kernel, by decide +kernel⟩
theorem zv_X4_search : zMV yX4_search RX4 := ⟨qi_X4_search, qs_X4_search⟩
theorem zm_X4_spot : zMT yX4_spot RX4 cX4_spot 2 (some .int) 2 := ⟨qc_X4_spot, qn_RX4, rfl, by decide +kernel, by decide +kernel, by decide +kernel⟩
theorem zm_X4_reach : zMT yX4_reach RX4 cX4_reach 6 none 4 := ⟨qc_X4_reach, qn_RX4, rfl, by decide +kernel, by decide +kernel, by decide +kernel⟩
theorem zv_X4_reach : zMV yX4_reach RX4 := ⟨qi_X4_reach, qs_X4_reach⟩
theorem zm_X4_stepBack : zMT yX4_stepBack RX4 cX4_stepBack 9 none 3 := ⟨qc_X4_stepBack, qn_RX4, rfl, by decide +kernel, by decide +kernel, by decide +kernel⟩
theorem zv_X4_stepBack : zMV yX4_stepBack RX4 := ⟨qi_X4_stepBack, qs_X4_stepBack⟩
theorem zm_X4_boxBehind : zMT yX4_boxBehind RX4 cX4_boxBehind 4 (some .int) 2 := ⟨qc_X4_boxBehind, qn_RX4, rfl, by decide +kernel, by decide +kernel, by decide +kernel⟩
theorem zv_X4_boxBehind : zMV yX4_boxBehind RX4 := ⟨qi_X4_boxBehind, qs_X4_boxBehind⟩
theorem zm_X4_mayMove : zMT yX4_mayMove RX4 cX4_mayMove 3 (some .boolean) 2 := ⟨qc_X4_mayMove, qn_RX4, rfl, by decide +kernel, by decide +kernel, by decide +kernel⟩
theorem zv_X4_mayMove : zMV yX4_mayMove RX4 := ⟨qi_X4_mayMove, qs_X4_mayMove⟩
theorem zm_X4_opposite : zMT yX4_opposite RX4 cX4_opposite 1 (some .int) 1 := ⟨qc_X4_opposite, qn_RX4, rfl, by decide +kernel, by decide +kernel, by decide +kernel⟩
theorem zm_X6_set : zMT yX6_set RX6 cX6_set 4 (some .int) 2 := ⟨qc_X6_set, qn_RX6, rfl, by decide +kernel, by decide +kernel, by decide +kernel⟩
theorem zv_X6_set : zMV yX6_set RX6 := ⟨qi_X6_set, qs_X6_set⟩
theorem zm_X6_leastOfSetting : zMT yX6_leastOfSetting RX6 cX6_leastOfSetting 1 (some .int) 1 := ⟨qc_X6_leastOfSetting, qn_RX6, rfl, by decide +kernel, by decide +kernel, by decide +kernel⟩
theorem zm_X6_mostOfSetting : zMT yX6_mostOfSetting RX6 cX6_mostOfSetting 1 (some .int) 1 := ⟨qc_X6_mostOfSetting, qn_RX6, rfl, by decide +kernel, by decide +kernel, by decide +kernel⟩
theorem zm_X6_recordState : zMT yX6_recordState RX6 cX6_recordState 1 none 0 := ⟨qc_X6_recordState, qn_RX6, rfl, by decide +kernel, by decide +kernel, by decide +kernel⟩
theorem zv_X6_recordState : zMV yX6_recordState RX6 := ⟨qi_X6_recordState, qs_X6_recordState⟩
theorem zm_X6_dropOldestState : zMT yX6_dropOldestState RX6 cX6_dropOldestState 3 none 0 := ⟨qc_X6_dropOldestState, qn_RX6, rfl, by decide +kernel, by decide +kernel, by decide +kernel⟩
theorem zv_X6_dropOldestState : zMV yX6_dropOldestState RX6 := ⟨qi_X6_dropOldestState, qs_X6_dropOldestState⟩
theorem zm_X5_copyState : zMT yX5_copyState RX5 cX5_copyState 2 none 2 := ⟨qc_X5_copyState, qn_RX5, rfl, by decide +kernel, by decide +kernel, by decide +kernel⟩
theorem zm_X0_copyGrid : zMT yX0_copyGrid RX0 cX0_copyGrid 2 none 1 := ⟨qc_X0_copyGrid, qn_RX0, rfl, by decide +kernel, by decide +kernel, by decide +kernel⟩
theorem zv_X0_copyGrid : zMV yX0_copyGrid RX0 := ⟨qi_X0_copyGrid, qs_X0_copyGrid⟩
theorem zm_X2_copyPackets : zMT yX2_copyPackets RX2 cX2_copyPackets 2 none 1 := ⟨qc_X2_copyPackets, qn_RX2, rfl, by decide +kernel, by decide +kernel, by decide +kernel⟩
theorem zv_X2_copyPackets : zMV yX2_copyPackets RX2 := ⟨qi_X2_copyPackets, qs_X2_copyPackets⟩
theorem zm_X7_set : zMT yX7_set RX7 cX7_set 6 (some .int) 2 := ⟨qc_X7_set, qn_RX7, rfl, by decide +kernel, by decide +kernel, by decide +kernel⟩
theorem zv_X7_set : zMV yX7_set RX7 := ⟨qi_X7_set, qs_X7_set⟩
theorem zm_X7_in : zMT yX7_in RX7 cX7_in 3 (some .boolean) 3 := ⟨qc_X7_in, qn_RX7, rfl, by decide +kernel, by decide +kernel, by decide +kernel⟩
theorem zm_X7_record : zMT yX7_record RX7 cX7_record 2 none 0 := ⟨qc_X7_record, qn_RX7, rfl, by decide +kernel, by decide +kernel, by decide +kernel⟩
theorem zv_X7_record : zMV yX7_record RX7 := ⟨qi_X7_record, qs_X7_record⟩
theorem zm_X7_forget : zMT yX7_forget RX7 cX7_forget 2 none 0 := ⟨qc_X7_forget, qn_RX7, rfl, by decide +kernel, by decide +kernel, by decide +kernel⟩
theorem zv_X7_forget : zMV yX7_forget RX7 := ⟨qi_X7_forget, qs_X7_forget⟩
theorem zm_X6_mesh : zMT yX6_mesh RX6 cX6_mesh 3 (some .int) 2 := ⟨qc_X6_mesh, qn_RX6, rfl, by decide +kernel, by decide +kernel, by decide +kernel⟩
theorem zv_X6_mesh : zMV yX6_mesh RX6 := ⟨qi_X6_mesh, qs_X6_mesh⟩
theorem zm_X6_isLine : zMT yX6_isLine RX6 cX6_isLine 1 (some .boolean) 1 := ⟨qc_X6_isLine, qn_RX6, rfl, by decide +kernel, by decide +kernel, by decide +kernel⟩
theorem zm_X0_layOut : zMT yX0_layOut RX0 cX0_layOut 3 none 2 := ⟨qc_X0_layOut, qn_RX0, rfl, by decide +kernel, by decide +kernel, by decide +kernel⟩
theorem zv_X0_layOut : zMV yX0_layOut RX0 := ⟨qi_X0_layOut, qs_X0_layOut⟩
theorem zm_X7_mesh : zMT yX7_mesh RX7 cX7_mesh 4 (some .int) 2 := ⟨qc_X7_mesh, qn_RX7, rfl, by decide +kernel, by decide +kernel, by decide +kernel⟩
theorem zv_X7_mesh : zMV yX7_mesh RX7 := ⟨qi_X7_mesh, qs_X7_mesh⟩
theorem zm_X7_boxes : zMT yX7_boxes RX7 cX7_boxes 1 (some .int) 0 := ⟨qc_X7_boxes, qn_RX7, rfl, by decide +kernel, by decide +kernel, by decide +kernel⟩
theorem zv_X7_boxes : zMV yX7_boxes RX7 := ⟨qi_X7_boxes, qs_X7_boxes⟩
theorem zm_X6_link : zMT yX6_link RX6 cX6_link 5 (some .int) 3 := ⟨qc_X6_link, qn_RX6, rfl, by decide +kernel, by decide +kernel, by decide +kernel⟩
theorem zv_X6_link : zMV yX6_link RX6 := ⟨qi_X6_link, qs_X6_link⟩
theorem zm_X6_linkError : zMT yX6_linkError RX6 cX6_linkError 4 (some .int) 3 := ⟨qc_X6_linkError, qn_RX6, rfl, by decide +kernel, by decide +kernel, by decide +kernel⟩
theorem zv_X6_linkError : zMV yX6_linkError RX6 := ⟨qi_X6_linkError, qs_X6_linkError⟩
theorem zm_X0_has : zMT yX0_has RX0 cX0_has 2 (some .boolean) 1 := ⟨qc_X0_has, qn_RX0, rfl, by decide +kernel, by decide +kernel, by decide +kernel⟩
theorem zv_X0_has : zMV yX0_has RX0 := ⟨qi_X0_has, qs_X0_has⟩
theorem zm_X6_isSide : zMT yX6_isSide RX6 cX6_isSide 1 (some .boolean) 1 := ⟨qc_X6_isSide, qn_RX6, rfl, by decide +kernel, by decide +kernel, by decide +kernel⟩
theorem zm_X6_changeLink : zMT yX6_changeLink RX6 cX6_changeLink 6 (some .int) 3 := ⟨qc_X6_changeLink, qn_RX6, rfl, by decide +kernel, by decide +kernel, by decide +kernel⟩
theorem zv_X6_changeLink : zMV yX6_changeLink RX6 := ⟨qi_X6_changeLink, qs_X6_changeLink⟩
theorem zm_X0_makeWhole : zMT yX0_makeWhole RX0 cX0_makeWhole 5 none 2 := ⟨qc_X0_makeWhole, qn_RX0, rfl, by decide +kernel, by decide +kernel, by decide +kernel⟩
theorem zv_X0_makeWhole : zMV yX0_makeWhole RX0 := ⟨qi_X0_makeWhole, qs_X0_makeWhole⟩
theorem zm_X7_link : zMT yX7_link RX7 cX7_link 6 (some .int) 3 := ⟨qc_X7_link, qn_RX7, rfl, by decide +kernel, by decide +kernel, by decide +kernel⟩
theorem zv_X7_link : zMV yX7_link RX7 := ⟨qi_X7_link, qs_X7_link⟩
theorem zm_X7_isBox : zMT yX7_isBox RX7 cX7_isBox 2 (some .boolean) 1 := ⟨qc_X7_isBox, qn_RX7, rfl, by decide +kernel, by decide +kernel, by decide +kernel⟩
theorem zv_X7_isBox : zMV yX7_isBox RX7 := ⟨qi_X7_isBox, qs_X7_isBox⟩
theorem zm_X7_beside : zMT yX7_beside RX7 cX7_beside 6 (some .int) 2 := ⟨qc_X7_beside, qn_RX7, rfl, by decide +kernel, by decide +kernel, by decide +kernel⟩
theorem zv_X7_beside : zMV yX7_beside RX7 := ⟨qi_X7_beside, qs_X7_beside⟩
theorem zm_X7_linkOf : zMT yX7_linkOf RX7 cX7_linkOf 4 (some .int) 2 := ⟨qc_X7_linkOf, qn_RX7, rfl, by decide +kernel, by decide +kernel, by decide +kernel⟩
theorem zv_X7_linkOf : zMV yX7_linkOf RX7 := ⟨qi_X7_linkOf, qs_X7_linkOf⟩
theorem zm_X6_send : zMT yX6_send RX6 cX6_send 4 (some .int) 2 := ⟨qc_X6_send, qn_RX6, rfl, by decide +kernel, by decide +kernel, by decide +kernel⟩
theorem zv_X6_send : zMV yX6_send RX6 := ⟨qi_X6_send, qs_X6_send⟩
theorem zm_X6_sendError : zMT yX6_sendError RX6 cX6_sendError 3 (some .int) 2 := ⟨qc_X6_sendError, qn_RX6, rfl, by decide +kernel, by decide +kernel, by decide +kernel⟩
theorem zv_X6_sendError : zMV yX6_sendError RX6 := ⟨qi_X6_sendError, qs_X6_sendError⟩
theorem zm_X5_wayLength : zMT yX5_wayLength RX5 cX5_wayLength 5 (some .int) 3 := ⟨qc_X5_wayLength, qn_RX5, rfl, by decide +kernel, by decide +kernel, by decide +kernel⟩
theorem zv_X5_wayLength : zMV yX5_wayLength RX5 := ⟨qi_X5_wayLength, qs_X5_wayLength⟩
theorem zm_X4_length : zMT yX4_length RX4 cX4_length 5 (some .int) 3 := ⟨qc_X4_length, qn_RX4, rfl, by decide +kernel, by decide +kernel, by decide +kernel⟩
theorem zv_X4_length : zMV yX4_length RX4 := ⟨qi_X4_length, qs_X4_length⟩
theorem zm_X0_distance : zMT yX0_distance RX0 cX0_distance 3 (some .int) 2 := ⟨qc_X0_distance, qn_RX0, rfl, by decide +kernel, by decide +kernel, by decide +kernel⟩
theorem zv_X0_distance : zMV yX0_distance RX0 := ⟨qi_X0_distance, qs_X0_distance⟩
theorem zm_X2_add : zMT yX2_add RX2 cX2_add 5 (some .int) 3 := ⟨qc_X2_add, qn_RX2, rfl, by decide +kernel, by decide +kernel, by decide +kernel⟩
theorem zv_X2_add : zMV yX2_add RX2 := ⟨qi_X2_add, qs_X2_add⟩
theorem zm_X7_send : zMT yX7_send RX7 cX7_send 5 (some .int) 2 := ⟨qc_X7_send, qn_RX7, rfl, by decide +kernel, by decide +kernel, by decide +kernel⟩
theorem zv_X7_send : zMV yX7_send RX7 := ⟨qi_X7_send, qs_X7_send⟩
theorem zm_X7_farOf : zMT yX7_farOf RX7 cX7_farOf 3 (some .int) 2 := ⟨qc_X7_farOf, qn_RX7, rfl, by decide +kernel, by decide +kernel, by decide +kernel⟩
theorem zv_X7_farOf : zMV yX7_farOf RX7 := ⟨qi_X7_farOf, qs_X7_farOf⟩
theorem zm_X7_layFar : zMT yX7_layFar RX7 cX7_layFar 10 none 1 := ⟨qc_X7_layFar, qn_RX7, rfl, by decide +kernel, by decide +kernel, by decide +kernel⟩
theorem zv_X7_layFar : zMV yX7_layFar RX7 := ⟨qi_X7_layFar, qs_X7_layFar⟩
theorem zm_X7_moved : zMT yX7_moved RX7 cX7_moved 9 (some .int) 3 := ⟨qc_X7_moved, qn_RX7, rfl, by decide +kernel, by decide +kernel, by decide +kernel⟩
theorem zv_X7_moved : zMV yX7_moved RX7 := ⟨qi_X7_moved, qs_X7_moved⟩
theorem zm_X7_isWhole : zMT yX7_isWhole RX7 cX7_isWhole 3 (some .boolean) 2 := ⟨qc_X7_isWhole, qn_RX7, rfl, by decide +kernel, by decide +kernel, by decide +kernel⟩
theorem zv_X7_isWhole : zMV yX7_isWhole RX7 := ⟨qi_X7_isWhole, qs_X7_isWhole⟩
theorem zm_X7_isDetour : zMT yX7_isDetour RX7 cX7_isDetour 4 (some .boolean) 3 := ⟨qc_X7_isDetour, qn_RX7, rfl, by decide +kernel, by decide +kernel, by decide +kernel⟩
theorem zv_X7_isDetour : zMV yX7_isDetour RX7 := ⟨qi_X7_isDetour, qs_X7_isDetour⟩
theorem zm_X7_apart : zMT yX7_apart RX7 cX7_apart 5 (some .int) 2 := ⟨qc_X7_apart, qn_RX7, rfl, by decide +kernel, by decide +kernel, by decide +kernel⟩
theorem zv_X7_apart : zMV yX7_apart RX7 := ⟨qi_X7_apart, qs_X7_apart⟩
theorem zm_X7_book : zMT yX7_book RX7 cX7_book 4 none 3 := ⟨qc_X7_book, qn_RX7, rfl, by decide +kernel, by decide +kernel, by decide +kernel⟩
theorem zv_X7_book : zMV yX7_book RX7 := ⟨qi_X7_book, qs_X7_book⟩
theorem zm_X6_ticks : zMT yX6_ticks RX6 cX6_ticks 2 (some .int) 1 := ⟨qc_X6_ticks, qn_RX6, rfl, by decide +kernel, by decide +kernel, by decide +kernel⟩
theorem zv_X6_ticks : zMV yX6_ticks RX6 := ⟨qi_X6_ticks, qs_X6_ticks⟩
theorem zm_X6_isTicks : zMT yX6_isTicks RX6 cX6_isTicks 1 (some .boolean) 1 := ⟨qc_X6_isTicks, qn_RX6, rfl, by decide +kernel, by decide +kernel, by decide +kernel⟩
theorem zm_X5_passTicks : zMT yX5_passTicks RX5 cX5_passTicks 7 none 2 := ⟨qc_X5_passTicks, qn_RX5, rfl, by decide +kernel, by decide +kernel, by decide +kernel⟩
theorem zv_X5_passTicks : zMV yX5_passTicks RX5 := ⟨qi_X5_passTicks, qs_X5_passTicks⟩
theorem zm_X5_comesInside : zMT yX5_comesInside RX5 cX5_comesInside 3 (some .boolean) 1 := ⟨qc_X5_comesInside, qn_RX5, rfl, by decide +kernel, by decide +kernel, by decide +kernel⟩
theorem zv_X5_comesInside : zMV yX5_comesInside RX5 := ⟨qi_X5_comesInside, qs_X5_comesInside⟩
theorem zm_X5_hasRoom : zMT yX5_hasRoom RX5 cX5_hasRoom 2 (some .boolean) 1 := ⟨qc_X5_hasRoom, qn_RX5, rfl, by decide +kernel, by decide +kernel, by decide +kernel⟩
theorem zv_X5_hasRoom : zMV yX5_hasRoom RX5 := ⟨qi_X5_hasRoom, qs_X5_hasRoom⟩
theorem zm_X5_movesOn : zMT yX5_movesOn RX5 cX5_movesOn 7 (some .boolean) 2 := ⟨qc_X5_movesOn, qn_RX5, rfl, by decide +kernel, by decide +kernel, by decide +kernel⟩
theorem zv_X5_movesOn : zMV yX5_movesOn RX5 := ⟨qi_X5_movesOn, qs_X5_movesOn⟩
theorem zm_X5_firstSide : zMT yX5_firstSide RX5 cX5_firstSide 9 (some .int) 3 := ⟨qc_X5_firstSide, qn_RX5, rfl, by decide +kernel, by decide +kernel, by decide +kernel⟩
theorem zv_X5_firstSide : zMV yX5_firstSide RX5 := ⟨qi_X5_firstSide, qs_X5_firstSide⟩
theorem zm_X5_mostMoves : zMT yX5_mostMoves RX5 cX5_mostMoves 3 (some .int) 1 := ⟨qc_X5_mostMoves, qn_RX5, rfl, by decide +kernel, by decide +kernel, by decide +kernel⟩
theorem zv_X5_mostMoves : zMV yX5_mostMoves RX5 := ⟨qi_X5_mostMoves, qs_X5_mostMoves⟩
theorem zm_X4_lengthAfter : zMT yX4_lengthAfter RX4 cX4_lengthAfter 6 (some .int) 4 := ⟨qc_X4_lengthAfter, qn_RX4, rfl, by decide +kernel, by decide +kernel, by decide +kernel⟩
theorem zv_X4_lengthAfter : zMV yX4_lengthAfter RX4 := ⟨qi_X4_lengthAfter, qs_X4_lengthAfter⟩
theorem zm_X5_letsIn : zMT yX5_letsIn RX5 cX5_letsIn 3 (some .boolean) 2 := ⟨qc_X5_letsIn, qn_RX5, rfl, by decide +kernel, by decide +kernel, by decide +kernel⟩
theorem zv_X5_letsIn : zMV yX5_letsIn RX5 := ⟨qi_X5_letsIn, qs_X5_letsIn⟩
theorem zm_X2_noteMove : zMT yX2_noteMove RX2 cX2_noteMove 5 none 4 := ⟨qc_X2_noteMove, qn_RX2, rfl, by decide +kernel, by decide +kernel, by decide +kernel⟩
theorem zv_X2_noteMove : zMV yX2_noteMove RX2 := ⟨qi_X2_noteMove, qs_X2_noteMove⟩
theorem zm_X7_ticks : zMT yX7_ticks RX7 cX7_ticks 3 (some .int) 1 := ⟨qc_X7_ticks, qn_RX7, rfl, by decide +kernel, by decide +kernel, by decide +kernel⟩
theorem zv_X7_ticks : zMV yX7_ticks RX7 := ⟨qi_X7_ticks, qs_X7_ticks⟩
theorem zm_X7_pass : zMT yX7_pass RX7 cX7_pass 3 none 0 := ⟨qc_X7_pass, qn_RX7, rfl, by decide +kernel, by decide +kernel, by decide +kernel⟩
theorem zv_X7_pass : zMV yX7_pass RX7 := ⟨qi_X7_pass, qs_X7_pass⟩
theorem zm_X7_of : zMT yX7_of RX7 cX7_of 3 (some .int) 2 := ⟨qc_X7_of, qn_RX7, rfl, by decide +kernel, by decide +kernel, by decide +kernel⟩
theorem zv_X7_of : zMV yX7_of RX7 := ⟨qi_X7_of, qs_X7_of⟩
theorem zm_X7_hasRoom : zMT yX7_hasRoom RX7 cX7_hasRoom 2 (some .boolean) 1 := ⟨qc_X7_hasRoom, qn_RX7, rfl, by decide +kernel, by decide +kernel, by decide +kernel⟩
theorem zv_X7_hasRoom : zMV yX7_hasRoom RX7 := ⟨qi_X7_hasRoom, qs_X7_hasRoom⟩
theorem zm_X7_insideOf : zMT yX7_insideOf RX7 cX7_insideOf 4 (some .int) 1 := ⟨qc_X7_insideOf, qn_RX7, rfl, by decide +kernel, by decide +kernel, by decide +kernel⟩
theorem zv_X7_insideOf : zMV yX7_insideOf RX7 := ⟨qi_X7_insideOf, qs_X7_insideOf⟩
theorem zm_X7_goesTo : zMT yX7_goesTo RX7 cX7_goesTo 5 (some .int) 1 := ⟨qc_X7_goesTo, qn_RX7, rfl, by decide +kernel, by decide +kernel, by decide +kernel⟩
theorem zv_X7_goesTo : zMV yX7_goesTo RX7 := ⟨qi_X7_goesTo, qs_X7_goesTo⟩
theorem zm_X7_laySides : zMT yX7_laySides RX7 cX7_laySides 8 (some .int) 1 := ⟨qc_X7_laySides, qn_RX7, rfl, by decide +kernel, by decide +kernel, by decide +kernel⟩
theorem zv_X7_laySides : zMV yX7_laySides RX7 := ⟨qi_X7_laySides, qs_X7_laySides⟩
theorem zm_X7_standing : zMT yX7_standing RX7 cX7_standing 2 (some .int) 1 := ⟨qc_X7_standing, qn_RX7, rfl, by decide +kernel, by decide +kernel, by decide +kernel⟩
theorem zv_X7_standing : zMV yX7_standing RX7 := ⟨qi_X7_standing, qs_X7_standing⟩
theorem zm_X7_move : zMT yX7_move RX7 cX7_move 6 none 2 := ⟨qc_X7_move, qn_RX7, rfl, by decide +kernel, by decide +kernel, by decide +kernel⟩
theorem zv_X7_move : zMV yX7_move RX7 := ⟨qi_X7_move, qs_X7_move⟩
theorem zm_X6_ofPacket : zMT yX6_ofPacket RX6 cX6_ofPacket 4 (some .int) 2 := ⟨qc_X6_ofPacket, qn_RX6, rfl, by decide +kernel, by decide +kernel, by decide +kernel⟩
theorem zv_X6_ofPacket : zMV yX6_ofPacket RX6 := ⟨qi_X6_ofPacket, qs_X6_ofPacket⟩
theorem zm_X2_has : zMT yX2_has RX2 cX2_has 2 (some .boolean) 1 := ⟨qc_X2_has, qn_RX2, rfl, by decide +kernel, by decide +kernel, by decide +kernel⟩
theorem zv_X2_has : zMV yX2_has RX2 := ⟨qi_X2_has, qs_X2_has⟩
theorem zm_X5_wayLengthOf : zMT yX5_wayLengthOf RX5 cX5_wayLengthOf 4 (some .int) 2 := ⟨qc_X5_wayLengthOf, qn_RX5, rfl, by decide +kernel, by decide +kernel, by decide +kernel⟩
theorem zv_X5_wayLengthOf : zMV yX5_wayLengthOf RX5 := ⟨qi_X5_wayLengthOf, qs_X5_wayLengthOf⟩
theorem zm_X1_holds : zMT yX1_holds RX1 cX1_holds 4 (some .boolean) 3 := ⟨qc_X1_holds, qn_RX1, rfl, by decide +kernel, by decide +kernel, by decide +kernel⟩
theorem zv_X1_holds : zMV yX1_holds RX1 := ⟨qi_X1_holds, qs_X1_holds⟩
theorem zm_X1_find : zMT yX1_find RX1 cX1_find 7 none 2 := ⟨qc_X1_find, qn_RX1, rfl, by decide +kernel, by decide +kernel, by decide +kernel⟩
theorem zv_X1_find : zMV yX1_find RX1 := ⟨qi_X1_find, qs_X1_find⟩
theorem zm_X1_canGoOn : zMT yX1_canGoOn RX1 cX1_canGoOn 6 (some .boolean) 3 := ⟨qc_X1_canGoOn, qn_RX1, rfl, by decide +kernel, by decide +kernel, by decide +kernel⟩
theorem zv_X1_canGoOn : zMV yX1_canGoOn RX1 := ⟨qi_X1_canGoOn, qs_X1_canGoOn⟩
theorem zm_X5_isPossible : zMT yX5_isPossible RX5 cX5_isPossible 4 (some .boolean) 3 := ⟨qc_X5_isPossible, qn_RX5, rfl, by decide +kernel, by decide +kernel, by decide +kernel⟩
theorem zv_X5_isPossible : zMV yX5_isPossible RX5 := ⟨qi_X5_isPossible, qs_X5_isPossible⟩
theorem zm_X1_hasFreePacket : zMT yX1_hasFreePacket RX1 cX1_hasFreePacket 4 (some .boolean) 2 := ⟨qc_X1_hasFreePacket, qn_RX1, rfl, by decide +kernel, by decide +kernel, by decide +kernel⟩
theorem zv_X1_hasFreePacket : zMV yX1_hasFreePacket RX1 := ⟨qi_X1_hasFreePacket, qs_X1_hasFreePacket⟩
theorem zm_X7_ofPacket : zMT yX7_ofPacket RX7 cX7_ofPacket 3 (some .int) 2 := ⟨qc_X7_ofPacket, qn_RX7, rfl, by decide +kernel, by decide +kernel, by decide +kernel⟩
theorem zv_X7_ofPacket : zMV yX7_ofPacket RX7 := ⟨qi_X7_ofPacket, qs_X7_ofPacket⟩
theorem zm_X7_isPacket : zMT yX7_isPacket RX7 cX7_isPacket 2 (some .boolean) 1 := ⟨qc_X7_isPacket, qn_RX7, rfl, by decide +kernel, by decide +kernel, by decide +kernel⟩
theorem zv_X7_isPacket : zMV yX7_isPacket RX7 := ⟨qi_X7_isPacket, qs_X7_isPacket⟩
theorem zm_X7_lengthOf : zMT yX7_lengthOf RX7 cX7_lengthOf 2 (some .int) 1 := ⟨qc_X7_lengthOf, qn_RX7, rfl, by decide +kernel, by decide +kernel, by decide +kernel⟩
theorem zv_X7_lengthOf : zMV yX7_lengthOf RX7 := ⟨qi_X7_lengthOf, qs_X7_lengthOf⟩
theorem zm_X7_layStuck : zMT yX7_layStuck RX7 cX7_layStuck 4 (some .int) 0 := ⟨qc_X7_layStuck, qn_RX7, rfl, by decide +kernel, by decide +kernel, by decide +kernel⟩
theorem zv_X7_layStuck : zMV yX7_layStuck RX7 := ⟨qi_X7_layStuck, qs_X7_layStuck⟩
theorem zm_X7_isFree : zMT yX7_isFree RX7 cX7_isFree 7 (some .boolean) 1 := ⟨qc_X7_isFree, qn_RX7, rfl, by decide +kernel, by decide +kernel, by decide +kernel⟩
theorem zv_X7_isFree : zMV yX7_isFree RX7 := ⟨qi_X7_isFree, qs_X7_isFree⟩
theorem zm_X6_ofBox : zMT yX6_ofBox RX6 cX6_ofBox 3 (some .int) 2 := ⟨qc_X6_ofBox, qn_RX6, rfl, by decide +kernel, by decide +kernel, by decide +kernel⟩
theorem zv_X6_ofBox : zMV yX6_ofBox RX6 := ⟨qi_X6_ofBox, qs_X6_ofBox⟩
theorem zm_X2_countAt : zMT yX2_countAt RX2 cX2_countAt 5 (some .int) 2 := ⟨qc_X2_countAt, qn_RX2, rfl, by decide +kernel, by decide +kernel, by decide +kernel⟩
theorem zv_X2_countAt : zMV yX2_countAt RX2 := ⟨qi_X2_countAt, qs_X2_countAt⟩
theorem zm_X6_linkState : zMT yX6_linkState RX6 cX6_linkState 4 (some .int) 2 := ⟨qc_X6_linkState, qn_RX6, rfl, by decide +kernel, by decide +kernel, by decide +kernel⟩
theorem zv_X6_linkState : zMV yX6_linkState RX6 := ⟨qi_X6_linkState, qs_X6_linkState⟩
theorem zm_X7_ofBox : zMT yX7_ofBox RX7 cX7_ofBox 3 (some .int) 2 := ⟨qc_X7_ofBox, qn_RX7, rfl, by decide +kernel, by decide +kernel, by decide +kernel⟩
theorem zv_X7_ofBox : zMV yX7_ofBox RX7 := ⟨qi_X7_ofBox, qs_X7_ofBox⟩
theorem zm_X7_packetsOf : zMT yX7_packetsOf RX7 cX7_packetsOf 5 (some .int) 2 := ⟨qc_X7_packetsOf, qn_RX7, rfl, by decide +kernel, by decide +kernel, by decide +kernel⟩
theorem zv_X7_packetsOf : zMV yX7_packetsOf RX7 := ⟨qi_X7_packetsOf, qs_X7_packetsOf⟩
theorem zm_X6_count : zMT yX6_count RX6 cX6_count 3 (some .int) 1 := ⟨qc_X6_count, qn_RX6, rfl, by decide +kernel, by decide +kernel, by decide +kernel⟩
theorem zv_X6_count : zMV yX6_count RX6 := ⟨qi_X6_count, qs_X6_count⟩
theorem zm_X2_countIn : zMT yX2_countIn RX2 cX2_countIn 4 (some .int) 1 := ⟨qc_X2_countIn, qn_RX2, rfl, by decide +kernel, by decide +kernel, by decide +kernel⟩
theorem zv_X2_countIn : zMV yX2_countIn RX2 := ⟨qi_X2_countIn, qs_X2_countIn⟩
theorem zm_X2_sum : zMT yX2_sum RX2 cX2_sum 4 (some .int) 1 := ⟨qc_X2_sum, qn_RX2, rfl, by decide +kernel, by decide +kernel, by decide +kernel⟩
theorem zv_X2_sum : zMV yX2_sum RX2 := ⟨qi_X2_sum, qs_X2_sum⟩
theorem zm_X1_size : zMT yX1_size RX1 cX1_size 5 (some .int) 2 := ⟨qc_X1_size, qn_RX1, rfl, by decide +kernel, by decide +kernel, by decide +kernel⟩
theorem zv_X1_size : zMV yX1_size RX1 := ⟨qi_X1_size, qs_X1_size⟩
theorem zm_X0_brokenLinks : zMT yX0_brokenLinks RX0 cX0_brokenLinks 1 (some .int) 0 := ⟨qc_X0_brokenLinks, qn_RX0, rfl, by decide +kernel, by decide +kernel, by decide +kernel⟩
theorem zv_X0_brokenLinks : zMV yX0_brokenLinks RX0 := ⟨qi_X0_brokenLinks, qs_X0_brokenLinks⟩
theorem zm_X7_count : zMT yX7_count RX7 cX7_count 2 (some .int) 1 := ⟨qc_X7_count, qn_RX7, rfl, by decide +kernel, by decide +kernel, by decide +kernel⟩
theorem zv_X7_count : zMV yX7_count RX7 := ⟨qi_X7_count, qs_X7_count⟩
theorem zm_X7_sum : zMT yX7_sum RX7 cX7_sum 4 (some .int) 1 := ⟨qc_X7_sum, qn_RX7, rfl, by decide +kernel, by decide +kernel, by decide +kernel⟩
theorem zv_X7_sum : zMV yX7_sum RX7 := ⟨qi_X7_sum, qs_X7_sum⟩
theorem zm_X7_broken : zMT yX7_broken RX7 cX7_broken 3 (some .int) 0 := ⟨qc_X7_broken, qn_RX7, rfl, by decide +kernel, by decide +kernel, by decide +kernel⟩
theorem zv_X7_broken : zMV yX7_broken RX7 := ⟨qi_X7_broken, qs_X7_broken⟩
theorem zm_X6_leastWay : zMT yX6_leastWay RX6 cX6_leastWay 3 (some .int) 2 := ⟨qc_X6_leastWay, qn_RX6, rfl, by decide +kernel, by decide +kernel, by decide +kernel⟩
theorem zv_X6_leastWay : zMV yX6_leastWay RX6 := ⟨qi_X6_leastWay, qs_X6_leastWay⟩
theorem zm_X7_leastWay : zMT yX7_leastWay RX7 cX7_leastWay 3 (some .int) 2 := ⟨qc_X7_leastWay, qn_RX7, rfl, by decide +kernel, by decide +kernel, by decide +kernel⟩
theorem zv_X7_leastWay : zMV yX7_leastWay RX7 := ⟨qi_X7_leastWay, qs_X7_leastWay⟩
theorem zm_X6_ways : zMT yX6_ways RX6 cX6_ways 3 (some .int) 2 := ⟨qc_X6_ways, qn_RX6, rfl, by decide +kernel, by decide +kernel, by decide +kernel⟩
theorem zv_X6_ways : zMV yX6_ways RX6 := ⟨qi_X6_ways, qs_X6_ways⟩
theorem zm_X4_shortestWays : zMT yX4_shortestWays RX4 cX4_shortestWays 3 (some .int) 2 := ⟨qc_X4_shortestWays, qn_RX4, rfl, by decide +kernel, by decide +kernel, by decide +kernel⟩
theorem zv_X4_shortestWays : zMV yX4_shortestWays RX4 := ⟨qi_X4_shortestWays, qs_X4_shortestWays⟩
theorem zm_X7_ways : zMT yX7_ways RX7 cX7_ways 3 (some .int) 2 := ⟨qc_X7_ways, qn_RX7, rfl, by decide +kernel, by decide +kernel, by decide +kernel⟩
theorem zv_X7_ways : zMV yX7_ways RX7 := ⟨qi_X7_ways, qs_X7_ways⟩
theorem zm_X6_pairs : zMT yX6_pairs RX6 cX6_pairs 1 (some .int) 0 := ⟨qc_X6_pairs, qn_RX6, rfl, by decide +kernel, by decide +kernel, by decide +kernel⟩
theorem zv_X6_pairs : zMV yX6_pairs RX6 := ⟨qi_X6_pairs, qs_X6_pairs⟩
theorem zm_X5_connectedPairs : zMT yX5_connectedPairs RX5 cX5_connectedPairs 6 (some .int) 1 := ⟨qc_X5_connectedPairs, qn_RX5, rfl, by decide +kernel, by decide +kernel, by decide +kernel⟩
theorem zv_X5_connectedPairs : zMV yX5_connectedPairs RX5 := ⟨qi_X5_connectedPairs, qs_X5_connectedPairs⟩
theorem zm_X7_pairs : zMT yX7_pairs RX7 cX7_pairs 1 (some .int) 0 := ⟨qc_X7_pairs, qn_RX7, rfl, by decide +kernel, by decide +kernel, by decide +kernel⟩
theorem zv_X7_pairs : zMV yX7_pairs RX7 := ⟨qi_X7_pairs, qs_X7_pairs⟩
theorem zm_X7_pairsNow : zMT yX7_pairsNow RX7 cX7_pairsNow 4 (some .int) 0 := ⟨qc_X7_pairsNow, qn_RX7, rfl, by decide +kernel, by decide +kernel, by decide +kernel⟩
theorem zv_X7_pairsNow : zMV yX7_pairsNow RX7 := ⟨qi_X7_pairsNow, qs_X7_pairsNow⟩
theorem zm_X6_worstLink : zMT yX6_worstLink RX6 cX6_worstLink 3 (some .int) 1 := ⟨qc_X6_worstLink, qn_RX6, rfl, by decide +kernel, by decide +kernel, by decide +kernel⟩
theorem zv_X6_worstLink : zMV yX6_worstLink RX6 := ⟨qi_X6_worstLink, qs_X6_worstLink⟩
theorem zm_X6_findWorstLink : zMT yX6_findWorstLink RX6 cX6_findWorstLink 5 (some .int) 0 := ⟨qc_X6_findWorstLink, qn_RX6, rfl, by decide +kernel, by decide +kernel, by decide +kernel⟩
theorem zv_X6_findWorstLink : zMV yX6_findWorstLink RX6 := ⟨qi_X6_findWorstLink, qs_X6_findWorstLink⟩
theorem zm_X0_isLink : zMT yX0_isLink RX0 cX0_isLink 2 (some .boolean) 1 := ⟨qc_X0_isLink, qn_RX0, rfl, by decide +kernel, by decide +kernel, by decide +kernel⟩
theorem zv_X0_isLink : zMV yX0_isLink RX0 := ⟨qi_X0_isLink, qs_X0_isLink⟩
theorem zm_X0_boxOfLink : zMT yX0_boxOfLink RX0 cX0_boxOfLink 1 (some .int) 1 := ⟨qc_X0_boxOfLink, qn_RX0, rfl, by decide +kernel, by decide +kernel, by decide +kernel⟩
theorem zm_X0_sideOfLink : zMT yX0_sideOfLink RX0 cX0_sideOfLink 1 (some .int) 1 := ⟨qc_X0_sideOfLink, qn_RX0, rfl, by decide +kernel, by decide +kernel, by decide +kernel⟩
theorem zm_X6_pairsWithout : zMT yX6_pairsWithout RX6 cX6_pairsWithout 2 (some .int) 1 := ⟨qc_X6_pairsWithout, qn_RX6, rfl, by decide +kernel, by decide +kernel, by decide +kernel⟩
theorem zv_X6_pairsWithout : zMV yX6_pairsWithout RX6 := ⟨qi_X6_pairsWithout, qs_X6_pairsWithout⟩
theorem zm_X7_worstLink : zMT yX7_worstLink RX7 cX7_worstLink 7 (some .int) 1 := ⟨qc_X7_worstLink, qn_RX7, rfl, by decide +kernel, by decide +kernel, by decide +kernel⟩
theorem zv_X7_worstLink : zMV yX7_worstLink RX7 := ⟨qi_X7_worstLink, qs_X7_worstLink⟩
theorem zm_X6_busiest : zMT yX6_busiest RX6 cX6_busiest 4 (some .int) 1 := ⟨qc_X6_busiest, qn_RX6, rfl, by decide +kernel, by decide +kernel, by decide +kernel⟩
theorem zv_X6_busiest : zMV yX6_busiest RX6 := ⟨qi_X6_busiest, qs_X6_busiest⟩
theorem zm_X7_busiest : zMT yX7_busiest RX7 cX7_busiest 4 (some .int) 1 := ⟨qc_X7_busiest, qn_RX7, rfl, by decide +kernel, by decide +kernel, by decide +kernel⟩
theorem zv_X7_busiest : zMV yX7_busiest RX7 := ⟨qi_X7_busiest, qs_X7_busiest⟩
theorem zm_X6_arrivesIn : zMT yX6_arrivesIn RX6 cX6_arrivesIn 3 (some .int) 1 := ⟨qc_X6_arrivesIn, qn_RX6, rfl, by decide +kernel, by decide +kernel, by decide +kernel⟩
theorem zv_X6_arrivesIn : zMV yX6_arrivesIn RX6 := ⟨qi_X6_arrivesIn, qs_X6_arrivesIn⟩
theorem zm_X7_arrivesIn : zMT yX7_arrivesIn RX7 cX7_arrivesIn 4 (some .int) 1 := ⟨qc_X7_arrivesIn, qn_RX7, rfl, by decide +kernel, by decide +kernel, by decide +kernel⟩
theorem zv_X7_arrivesIn : zMV yX7_arrivesIn RX7 := ⟨qi_X7_arrivesIn, qs_X7_arrivesIn⟩
theorem zm_X7_keep : zMT yX7_keep RX7 cX7_keep 2 none 0 := ⟨qc_X7_keep, qn_RX7, rfl, by decide +kernel, by decide +kernel, by decide +kernel⟩
theorem zv_X7_keep : zMV yX7_keep RX7 := ⟨qi_X7_keep, qs_X7_keep⟩
theorem zm_X7_comeBack : zMT yX7_comeBack RX7 cX7_comeBack 2 none 0 := ⟨qc_X7_comeBack, qn_RX7, rfl, by decide +kernel, by decide +kernel, by decide +kernel⟩
theorem zv_X7_comeBack : zMV yX7_comeBack RX7 := ⟨qi_X7_comeBack, qs_X7_comeBack⟩
theorem zm_X6_arrivedBy : zMT yX6_arrivedBy RX6 cX6_arrivedBy 2 (some .int) 1 := ⟨qc_X6_arrivedBy, qn_RX6, rfl, by decide +kernel, by decide +kernel, by decide +kernel⟩
theorem zv_X6_arrivedBy : zMV yX6_arrivedBy RX6 := ⟨qi_X6_arrivedBy, qs_X6_arrivedBy⟩
theorem zm_X7_arrivedBy : zMT yX7_arrivedBy RX7 cX7_arrivedBy 3 (some .int) 1 := ⟨qc_X7_arrivedBy, qn_RX7, rfl, by decide +kernel, by decide +kernel, by decide +kernel⟩
theorem zv_X7_arrivedBy : zMV yX7_arrivedBy RX7 := ⟨qi_X7_arrivedBy, qs_X7_arrivedBy⟩
theorem zm_X6_put : zMT yX6_put RX6 cX6_put 4 (some .int) 1 := ⟨qc_X6_put, qn_RX6, rfl, by decide +kernel, by decide +kernel, by decide +kernel⟩
theorem zv_X6_put : zMV yX6_put RX6 := ⟨qi_X6_put, qs_X6_put⟩
theorem zm_X3_countCharacters : zMT yX3_countCharacters RX3 cX3_countCharacters 7 (some .int) 1 := ⟨qc_X3_countCharacters, qn_RX3, rfl, by decide +kernel, by decide +kernel, by decide +kernel⟩
theorem zm_X3_fits : zMT yX3_fits RX3 cX3_fits 2 (some .boolean) 1 := ⟨qc_X3_fits, qn_RX3, rfl, by decide +kernel, by decide +kernel, by decide +kernel⟩
theorem zv_X3_fits : zMV yX3_fits RX3 := ⟨qi_X3_fits, qs_X3_fits⟩
theorem zm_X3_append : zMT yX3_append RX3 cX3_append 6 none 2 := ⟨qc_X3_append, qn_RX3, rfl, by decide +kernel, by decide +kernel, by decide +kernel⟩
theorem zv_X3_append : zMV yX3_append RX3 := ⟨qi_X3_append, qs_X3_append⟩
theorem zm_X7_put : zMT yX7_put RX7 cX7_put 7 (some .int) 1 := ⟨qc_X7_put, qn_RX7, rfl, by decide +kernel, by decide +kernel, by decide +kernel⟩
theorem zv_X7_put : zMV yX7_put RX7 := ⟨qi_X7_put, qs_X7_put⟩
theorem zm_X6_wipe : zMT yX6_wipe RX6 cX6_wipe 2 (some .int) 0 := ⟨qc_X6_wipe, qn_RX6, rfl, by decide +kernel, by decide +kernel, by decide +kernel⟩
theorem zv_X6_wipe : zMV yX6_wipe RX6 := ⟨qi_X6_wipe, qs_X6_wipe⟩
theorem zm_X7_wipe : zMT yX7_wipe RX7 cX7_wipe 2 (some .int) 0 := ⟨qc_X7_wipe, qn_RX7, rfl, by decide +kernel, by decide +kernel, by decide +kernel⟩
theorem zv_X7_wipe : zMV yX7_wipe RX7 := ⟨qi_X7_wipe, qs_X7_wipe⟩
theorem zm_X6_fault : zMT yX6_fault RX6 cX6_fault 1 (some .int) 0 := ⟨qc_X6_fault, qn_RX6, rfl, by decide +kernel, by decide +kernel, by decide +kernel⟩
theorem zv_X6_fault : zMV yX6_fault RX6 := ⟨qi_X6_fault, qs_X6_fault⟩
theorem zm_X3_readOrders : zMT yX3_readOrders RX3 cX3_readOrders 2 (some .int) 0 := ⟨qc_X3_readOrders, qn_RX3, rfl, by decide +kernel, by decide +kernel, by decide +kernel⟩
theorem zv_X3_readOrders : zMV yX3_readOrders RX3 := ⟨qi_X3_readOrders, qs_X3_readOrders⟩
theorem zm_X3_readOrder : zMT yX3_readOrder RX3 cX3_readOrder 4 (some .boolean) 0 := ⟨qc_X3_readOrder, qn_RX3, rfl, by decide +kernel, by decide +kernel, by decide +kernel⟩
theorem zv_X3_readOrder : zMV yX3_readOrder RX3 := ⟨qi_X3_readOrder, qs_X3_readOrder⟩
theorem zm_X3_signHere : zMT yX3_signHere RX3 cX3_signHere 1 (some .char) 0 := ⟨qc_X3_signHere, qn_RX3, rfl, by decide +kernel, by decide +kernel, by decide +kernel⟩
theorem zv_X3_signHere : zMV yX3_signHere RX3 := ⟨qi_X3_signHere, qs_X3_signHere⟩
theorem zm_X3_readNumber : zMT yX3_readNumber RX3 cX3_readNumber 3 (some .int) 0 := ⟨qc_X3_readNumber, qn_RX3, rfl, by decide +kernel, by decide +kernel, by decide +kernel⟩
theorem zv_X3_readNumber : zMV yX3_readNumber RX3 := ⟨qi_X3_readNumber, qs_X3_readNumber⟩
theorem zm_X3_readDigit : zMT yX3_readDigit RX3 cX3_readDigit 2 (some .int) 0 := ⟨qc_X3_readDigit, qn_RX3, rfl, by decide +kernel, by decide +kernel, by decide +kernel⟩
theorem zv_X3_readDigit : zMV yX3_readDigit RX3 := ⟨qi_X3_readDigit, qs_X3_readDigit⟩
theorem zm_X3_readSign : zMT yX3_readSign RX3 cX3_readSign 2 (some .boolean) 1 := ⟨qc_X3_readSign, qn_RX3, rfl, by decide +kernel, by decide +kernel, by decide +kernel⟩
theorem zv_X3_readSign : zMV yX3_readSign RX3 := ⟨qi_X3_readSign, qs_X3_readSign⟩
theorem zm_X3_readSide : zMT yX3_readSide RX3 cX3_readSide 3 (some .int) 0 := ⟨qc_X3_readSide, qn_RX3, rfl, by decide +kernel, by decide +kernel, by decide +kernel⟩
theorem zv_X3_readSide : zMV yX3_readSide RX3 := ⟨qi_X3_readSide, qs_X3_readSide⟩
theorem zm_X3_sideOfSign : zMT yX3_sideOfSign RX3 cX3_sideOfSign 1 (some .int) 1 := ⟨qc_X3_sideOfSign, qn_RX3, rfl, by decide +kernel, by decide +kernel, by decide +kernel⟩
theorem zm_X7_fault : zMT yX7_fault RX7 cX7_fault 1 (some .int) 0 := ⟨qc_X7_fault, qn_RX7, rfl, by decide +kernel, by decide +kernel, by decide +kernel⟩
theorem zv_X7_fault : zMV yX7_fault RX7 := ⟨qi_X7_fault, qs_X7_fault⟩
theorem zm_X7_faultOf : zMT yX7_faultOf RX7 cX7_faultOf 1 (some .int) 0 := ⟨qc_X7_faultOf, qn_RX7, rfl, by decide +kernel, by decide +kernel, by decide +kernel⟩
theorem zv_X7_faultOf : zMV yX7_faultOf RX7 := ⟨qi_X7_faultOf, qs_X7_faultOf⟩
theorem zm_X7_readOne : zMT yX7_readOne RX7 cX7_readOne 3 none 0 := ⟨qc_X7_readOne, qn_RX7, rfl, by decide +kernel, by decide +kernel, by decide +kernel⟩
theorem zv_X7_readOne : zMV yX7_readOne RX7 := ⟨qi_X7_readOne, qs_X7_readOne⟩
theorem zm_X7_sign : zMT yX7_sign RX7 cX7_sign 1 (some .int) 0 := ⟨qc_X7_sign, qn_RX7, rfl, by decide +kernel, by decide +kernel, by decide +kernel⟩
theorem zv_X7_sign : zMV yX7_sign RX7 := ⟨qi_X7_sign, qs_X7_sign⟩
theorem zm_X7_number : zMT yX7_number RX7 cX7_number 2 (some .int) 0 := ⟨qc_X7_number, qn_RX7, rfl, by decide +kernel, by decide +kernel, by decide +kernel⟩
theorem zv_X7_number : zMV yX7_number RX7 := ⟨qi_X7_number, qs_X7_number⟩
theorem zm_X7_side : zMT yX7_side RX7 cX7_side 3 (some .int) 0 := ⟨qc_X7_side, qn_RX7, rfl, by decide +kernel, by decide +kernel, by decide +kernel⟩
theorem zv_X7_side : zMV yX7_side RX7 := ⟨qi_X7_side, qs_X7_side⟩
theorem zm_X6_carryOut : zMT yX6_carryOut RX6 cX6_carryOut 2 (some .int) 0 := ⟨qc_X6_carryOut, qn_RX6, rfl, by decide +kernel, by decide +kernel, by decide +kernel⟩
theorem zv_X6_carryOut : zMV yX6_carryOut RX6 := ⟨qi_X6_carryOut, qs_X6_carryOut⟩
theorem zm_X6_obey : zMT yX6_obey RX6 cX6_obey 4 (some .boolean) 1 := ⟨qc_X6_obey, qn_RX6, rfl, by decide +kernel, by decide +kernel, by decide +kernel⟩
theorem zv_X6_obey : zMV yX6_obey RX6 := ⟨qi_X6_obey, qs_X6_obey⟩
theorem zm_X7_carryOut : zMT yX7_carryOut RX7 cX7_carryOut 2 (some .int) 0 := ⟨qc_X7_carryOut, qn_RX7, rfl, by decide +kernel, by decide +kernel, by decide +kernel⟩
theorem zv_X7_carryOut : zMV yX7_carryOut RX7 := ⟨qi_X7_carryOut, qs_X7_carryOut⟩
theorem zm_X7_carry : zMT yX7_carry RX7 cX7_carry 4 (some .int) 1 := ⟨qc_X7_carry, qn_RX7, rfl, by decide +kernel, by decide +kernel, by decide +kernel⟩
theorem zv_X7_carry : zMV yX7_carry RX7 := ⟨qi_X7_carry, qs_X7_carry⟩
theorem zm_X6_undo : zMT yX6_undo RX6 cX6_undo 1 (some .int) 0 := ⟨qc_X6_undo, qn_RX6, rfl, by decide +kernel, by decide +kernel, by decide +kernel⟩
theorem zv_X6_undo : zMV yX6_undo RX6 := ⟨qi_X6_undo, qs_X6_undo⟩
theorem zm_X7_undo : zMT yX7_undo RX7 cX7_undo 2 (some .int) 0 := ⟨qc_X7_undo, qn_RX7, rfl, by decide +kernel, by decide +kernel, by decide +kernel⟩
theorem zv_X7_undo : zMV yX7_undo RX7 := ⟨qi_X7_undo, qs_X7_undo⟩
theorem zm_X6_save : zMT yX6_save RX6 cX6_save 2 (some .int) 1 := ⟨qc_X6_save, qn_RX6, rfl, by decide +kernel, by decide +kernel, by decide +kernel⟩
theorem zv_X6_save : zMV yX6_save RX6 := ⟨qi_X6_save, qs_X6_save⟩
theorem zm_X6_isSlot : zMT yX6_isSlot RX6 cX6_isSlot 1 (some .boolean) 1 := ⟨qc_X6_isSlot, qn_RX6, rfl, by decide +kernel, by decide +kernel, by decide +kernel⟩
theorem zm_X7_save : zMT yX7_save RX7 cX7_save 3 (some .int) 1 := ⟨qc_X7_save, qn_RX7, rfl, by decide +kernel, by decide +kernel, by decide +kernel⟩
theorem zv_X7_save : zMV yX7_save RX7 := ⟨qi_X7_save, qs_X7_save⟩
theorem zm_X6_restore : zMT yX6_restore RX6 cX6_restore 2 (some .int) 1 := ⟨qc_X6_restore, qn_RX6, rfl, by decide +kernel, by decide +kernel, by decide +kernel⟩
theorem zv_X6_restore : zMV yX6_restore RX6 := ⟨qi_X6_restore, qs_X6_restore⟩
theorem zm_X7_restore : zMT yX7_restore RX7 cX7_restore 3 (some .int) 1 := ⟨qc_X7_restore, qn_RX7, rfl, by decide +kernel, by decide +kernel, by decide +kernel⟩
theorem zv_X7_restore : zMV yX7_restore RX7 := ⟨qi_X7_restore, qs_X7_restore⟩
