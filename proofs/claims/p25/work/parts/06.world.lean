/-! calls of methods over the same world, or over none; numbers of Math; the reference's world -/
theorem znI : ∀ ρ : Int, True → narrow .int (.int (iI ρ)) = .int (iI ρ) := fun _ _ => rfl
theorem znZ : ∀ ρ : Int, (ρ = 0 ∨ ρ = 1) → narrow .boolean (.int (iI ρ)) = .int (iI ρ) := by
  intro ρ h
  rcases h with rfl | rfl <;> decide
theorem zfZ : ∀ ρ : Int, (ρ = 0 ∨ ρ = 1) → fits .boolean (.int (iI ρ)) = true := by
  intro ρ h
  rcases h with rfl | rfl <;> decide
def zabs (a : Int) : Int := max a (-a)
section ZC
variable {X : zX} {Z : zZ} {R : Room} {cc : ByteArray} {own : String} {nL : Nat} {k n : Nat} {ws ws' : va_W} {pc : Nat} {lv : List (Nat × Value)} {st : List Value}
theorem z_callVi0 (ok : zOK X Z R cc own nL) {T : Type} {y : MethodName} {C : String} {bytes : ByteArray} {maxL np idx b q0 ci : Nat} {ret : Option FieldType} {rm : Room} {As rest fs : List Value} {w' : T → va_W} {post : Int → T → Prop} {q : vw_C} (ct : ∀ l, zI l y (Cond.code y bytes maxL ret :: wsL_law) rm Z (.ref b :: As) ws w' post) (hm : zMT y C bytes maxL ret np) (hv : zMV y C) (hlk : Cond.methodLink own idx y ∈ wsL_law) (d : decode cc pc = .ok (.invokevirtual idx, 3)) (hR : rm.frames + 1 ≤ R.frames ∧ 8 + (maxL + 11) + rm.locals ≤ R.locals) (hc : k + rm.cells ≤ R.cells ∧ n + rm.slots ≤ R.slots) (hn : As.length = np) (hst : st = As.reverse ++ .ref b :: rest) (hW : (rest.map fun v => v.category).sum ≤ 8) (he : ws[q0]? = some (b, .inr (ci, fs))) (hcl : vwCl[ci]? = some q) (hq : q.1 = C) (h : ∀ (ρ : Int) (u : T), post ρ u → zV X (k + rm.cells) (n + rm.slots) (w' u) (pc + 3) lv (.int (iI ρ) :: rest)) : zV X k n ws pc lv st :=
  z_callVi (wr := []) ok ct hm hv hlk d hR hc hn hst hW he hcl hq (by rw [List.append_nil]) (fun ρ u hp => by rw [List.append_nil]; exact h ρ u hp)
theorem z_callVv0 (ok : zOK X Z R cc own nL) {T : Type} {y : MethodName} {C : String} {bytes : ByteArray} {maxL np idx b q0 ci : Nat} {ret : Option FieldType} {rm : Room} {As rest fs : List Value} {w' : T → va_W} {post : T → Prop} {q : vw_C} (ct : ∀ l, zN l y (Cond.code y bytes maxL ret :: wsL_law) rm Z (.ref b :: As) ws w' post) (hm : zMT y C bytes maxL ret np) (hv : zMV y C) (hlk : Cond.methodLink own idx y ∈ wsL_law) (d : decode cc pc = .ok (.invokevirtual idx, 3)) (hR : rm.frames + 1 ≤ R.frames ∧ 8 + (maxL + 11) + rm.locals ≤ R.locals) (hc : k + rm.cells ≤ R.cells ∧ n + rm.slots ≤ R.slots) (hn : As.length = np) (hst : st = As.reverse ++ .ref b :: rest) (hW : (rest.map fun v => v.category).sum ≤ 8) (he : ws[q0]? = some (b, .inr (ci, fs))) (hcl : vwCl[ci]? = some q) (hq : q.1 = C) (h : ∀ (u : T), post u → zV X (k + rm.cells) (n + rm.slots) (w' u) (pc + 3) lv rest) : zV X k n ws pc lv st :=
  z_callVv (wr := []) ok ct hm hv hlk d hR hc hn hst hW he hcl hq (by rw [List.append_nil]) (fun u hp => by rw [List.append_nil]; exact h u hp)
theorem z_callSie (ok : zOK X Z R cc own nL) {T : Type} {y : MethodName} {C : String} {bytes : ByteArray} {maxL np idx : Nat} {ret : Option FieldType} {rm : Room} {As rest : List Value} {post : Int → T → Prop} (ct : ∀ l, zI l y (Cond.code y bytes maxL ret :: wsL_law) rm Z As [] (fun _ : T => []) post) (hm : zMT y C bytes maxL ret np) (hv : Cond.static y ∈ wsL_law) (hlk : Cond.methodLink own idx y ∈ wsL_law) (d : decode cc pc = .ok (.invokestatic idx, 3)) (hR : rm.frames + 1 ≤ R.frames ∧ 8 + (maxL + 11) + rm.locals ≤ R.locals) (hc : k + rm.cells ≤ R.cells ∧ n + rm.slots ≤ R.slots) (hn : As.length = np) (hst : st = As.reverse ++ rest) (hW : (rest.map fun v => v.category).sum ≤ 8) (h : ∀ (ρ : Int) (u : T), post ρ u → zV X (k + rm.cells) (n + rm.slots) ws (pc + 3) lv (.int (iI ρ) :: rest)) : zV X k n ws pc lv st :=
  z_callSi (wc := []) (wr := ws) ok ct hm hv hlk d hR hc hn hst hW (List.Perm.refl _) (fun ρ u hp => h ρ u hp)
theorem z_mmin (ok : zOK X Z R cc own nL) {idx : Nat} {a b : Int} (hlk : Cond.methodLink own idx Lib.Math.min.name ∈ wsL_law) (hs : Cond.static Lib.Math.min.name ∈ wsL_law) (hi : Cond.initialized "java/lang/Math" ∈ wsL_law) (hco : Cond.code Lib.Math.min.name Lib.Math.min.code 2 (some .int) ∈ wsL_law) (d : decode cc pc = .ok (.invokestatic idx, 3)) (hf : 1 ≤ R.frames ∧ k ≤ R.cells ∧ n ≤ R.slots) (hlo : (st.map fun v => v.category).sum + 13 ≤ R.locals) (ha : -2147483648 ≤ a ∧ a < 2147483648) (hb : -2147483648 ≤ b ∧ b < 2147483648) (h : zV X k n ws (pc + 3) lv (.int (iI (min a b)) :: st)) : zV X k n ws pc lv (.int (iI b) :: .int (iI a) :: st) := by
  obtain ⟨p, l, e', R, s, m, args, below, meth, c, Q, Z, A, H0⟩ := X
  obtain ⟨rfl, rfl, hx, hbb, hml, ho, hts, hK, hA⟩ := ok
  intro H locs ls hP hD hS hl
  refine va_mmin hx hbb hl.1.symm ho (hts _ hlk) (hts _ hs) (hts _ hi) (hts _ hco) hf.1 hlo hf.2.1 hf.2.2 d ?_
  have e : (if iI b < iI a then iI b else iI a) = iI (min a b) := by
    by_cases hlt : b < a
    · rw [if_pos ((iI_lt hb ha).mpr hlt)]; congr 1; omega
    · rw [if_neg (fun z => hlt ((iI_lt hb ha).mp z))]; congr 1; omega
  rw [e]
  exact h H locs ls hP hD hS hl
theorem z_mmax (ok : zOK X Z R cc own nL) {idx : Nat} {a b : Int} (hlk : Cond.methodLink own idx Lib.Math.max.name ∈ wsL_law) (hs : Cond.static Lib.Math.max.name ∈ wsL_law) (hi : Cond.initialized "java/lang/Math" ∈ wsL_law) (hco : Cond.code Lib.Math.max.name Lib.Math.max.code 2 (some .int) ∈ wsL_law) (d : decode cc pc = .ok (.invokestatic idx, 3)) (hf : 1 ≤ R.frames ∧ k ≤ R.cells ∧ n ≤ R.slots) (hlo : (st.map fun v => v.category).sum + 13 ≤ R.locals) (ha : -2147483648 ≤ a ∧ a < 2147483648) (hb : -2147483648 ≤ b ∧ b < 2147483648) (h : zV X k n ws (pc + 3) lv (.int (iI (max a b)) :: st)) : zV X k n ws pc lv (.int (iI b) :: .int (iI a) :: st) := by
  obtain ⟨p, l, e', R, s, m, args, below, meth, c, Q, Z, A, H0⟩ := X
  obtain ⟨rfl, rfl, hx, hbb, hml, ho, hts, hK, hA⟩ := ok
  intro H locs ls hP hD hS hl
  refine va_mmax hx hbb hl.1.symm ho (hts _ hlk) (hts _ hs) (hts _ hi) (hts _ hco) hf.1 hlo hf.2.1 hf.2.2 d ?_
  have e : (if iI a < iI b then iI b else iI a) = iI (max a b) := by
    by_cases hlt : a < b
    · rw [if_pos ((iI_lt ha hb).mpr hlt)]; congr 1; omega
    · rw [if_neg (fun z => hlt ((iI_lt ha hb).mp z))]; congr 1; omega
  rw [e]
  exact h H locs ls hP hD hS hl
theorem z_mabs (ok : zOK X Z R cc own nL) {idx : Nat} {a : Int} (hlk : Cond.methodLink own idx Lib.Math.abs.name ∈ wsL_law) (hs : Cond.static Lib.Math.abs.name ∈ wsL_law) (hi : Cond.initialized "java/lang/Math" ∈ wsL_law) (hco : Cond.code Lib.Math.abs.name Lib.Math.abs.code 1 (some .int) ∈ wsL_law) (d : decode cc pc = .ok (.invokestatic idx, 3)) (hf : 1 ≤ R.frames ∧ k ≤ R.cells ∧ n ≤ R.slots) (hlo : (st.map fun v => v.category).sum + 13 ≤ R.locals) (ha : -2147483648 ≤ a ∧ a < 2147483648) (h : zV X k n ws (pc + 3) lv (.int (iI (zabs a)) :: st)) : zV X k n ws pc lv (.int (iI a) :: st) := by
  obtain ⟨p, l, e', R, s, m, args, below, meth, c, Q, Z, A, H0⟩ := X
  obtain ⟨rfl, rfl, hx, hbb, hml, ho, hts, hK, hA⟩ := ok
  intro H locs ls hP hD hS hl
  refine va_mabs hx hbb hl.1.symm ho (hts _ hlk) (hts _ hs) (hts _ hi) (hts _ hco) hf.1 hlo hf.2.1 hf.2.2 d ?_
  have e : (if 0 ≤ iI a then iI a else 0 - iI a) = iI (zabs a) := by
    have hz : (0 : Int32) = iI 0 := rfl
    rw [hz]
    unfold zabs
    by_cases hlt : 0 ≤ a
    · rw [if_pos ((iI_le ⟨by decide, by decide⟩ ha).mpr hlt)]; congr 1; omega
    · rw [if_neg (fun z => hlt ((iI_le ⟨by decide, by decide⟩ ha).mp z)), iI_sub]; congr 1; omega
  rw [e]
  exact h H locs ls hP hD hS hl
theorem z_alen (ok : zOK X Z R cc own nL) (q0 : Nat) {b N : Nat} {v : Int} {f : Nat → Int32} (he : ws[q0]? = some (b, .inl (Z.2.1, N, .inl f))) (hv : (N : Int) = v) (d : decode cc pc = .ok (.arraylength, 1)) (h : zV X k n ws (pc + 1) lv (.int (iI v) :: st)) : zV X k n ws pc lv (.ref b :: st) := by
  obtain ⟨p, l, e', R, s, m, args, below, meth, c, Q, Z, A, H0⟩ := X
  obtain ⟨rfl, rfl, hx, hbb, hml, ho, hts, hK, hA⟩ := ok
  intro H locs ls hP hD hS hl
  subst hv
  exact va_alen hx hbb hK hP q0 0 he (ty := .int) rfl rfl d (h H locs ls hP hD hS hl)
end ZC
theorem zm_X6_learnRoutes : zMT yX6_learnRoutes RX6 cX6_learnRoutes 1 none 0 := ⟨qc_X6_learnRoutes, qn_RX6, rfl, by decide +kernel, by decide +kernel, by decide +kernel⟩
theorem zv_X6_learnRoutes : zMV yX6_learnRoutes RX6 := ⟨qi_X6_learnRoutes, qs_X6_learnRoutes⟩
theorem zm_X4_learn : zMT yX4_learn RX4 cX4_learn 8 none 2 := ⟨qc_X4_learn, qn_RX4, rfl, by decide +kernel, by decide +kernel, by decide +kernel⟩
theorem zv_X4_learn : zMV yX4_learn RX4 := ⟨qi_X4_learn, qs_X4_learn⟩
theorem zm_X0_boxes : zMT yX0_boxes RX0 cX0_boxes 1 (some .int) 0 := ⟨qc_X0_boxes, qn_RX0, rfl, by decide +kernel, by decide +kernel, by decide +kernel⟩
theorem zv_X0_boxes : zMV yX0_boxes RX0 := ⟨qi_X0_boxes, qs_X0_boxes⟩
theorem zm_X0_linkAt : zMT yX0_linkAt RX0 cX0_linkAt 4 (some .int) 2 := ⟨qc_X0_linkAt, qn_RX0, rfl, by decide +kernel, by decide +kernel, by decide +kernel⟩
theorem zv_X0_linkAt : zMV yX0_linkAt RX0 := ⟨qi_X0_linkAt, qs_X0_linkAt⟩
theorem zm_X0_beside : zMT yX0_beside RX0 cX0_beside 5 (some .int) 2 := ⟨qc_X0_beside, qn_RX0, rfl, by decide +kernel, by decide +kernel, by decide +kernel⟩
theorem zv_X0_beside : zMV yX0_beside RX0 := ⟨qi_X0_beside, qs_X0_beside⟩
theorem zm_X0_isWhole : zMT yX0_isWhole RX0 cX0_isWhole 2 (some .boolean) 1 := ⟨qc_X0_isWhole, qn_RX0, rfl, by decide +kernel, by decide +kernel, by decide +kernel⟩
theorem zv_X0_isWhole : zMV yX0_isWhole RX0 := ⟨qi_X0_isWhole, qs_X0_isWhole⟩
theorem zm_X4_search : zMT yX4_search RX4 cX4_search 3 none 1 := ⟨qc_X4_search, qn_RX4, rfl, by decide +kernel, by decide +kernel, by decide +kernel⟩
theorem zv_X4_search : zMV yX4_search RX4 := ⟨qi_X4_search, qs_X4_search⟩
theorem zm_X4_spot : zMT yX4_spot RX4 cX4_spot 2 (some .int) 2 := ⟨qc_X4_spot, qn_RX4, rfl, by decide +kernel, by decide +kernel, by decide +kernel⟩
theorem zm_X4_reach : zMT yX4_reach RX4 cX4_reach 6 none 4 := ⟨qc_X4_reach, qn_RX4, rfl, by decide +kernel, by decide +kernel, by decide +kernel⟩
theorem zv_X4_reach : zMV yX4_reach RX4 := ⟨qi_X4_reach, qs_X4_reach⟩
theorem zm_X4_stepBack : zMT yX4_stepBack RX4 cX4_stepBack 9 none 3 := ⟨qc_X4_stepBack, qn_RX4, rfl, by decide +kernel, by decide +kernel, by decide +kernel⟩
theorem zv_X4_stepBack : zMV yX4_stepBack RX4 := ⟨qi_X4_stepBack, qs_X4_stepBack⟩
theorem zm_X4_boxBehind : zMT yX4_boxBehind RX4 cX4_boxBehind 4 (some .int) 2 := ⟨qc_X4_boxBehind, qn_RX4, rfl, by decide +kernel, by decide +kernel, by decide +kernel⟩
theorem zv_X4_boxBehind : zMV yX4_boxBehind RX4 := ⟨qi_X4_boxBehind, qs_X4_boxBehind⟩
theorem zm_X4_mayMove : zMT yX4_mayMove RX4 cX4_mayMove 3 (some .boolean) 2 := ⟨qc_X4_mayMove, qn_RX4, rfl, by decide +kernel, by decide +kernel, by decide +kernel⟩
theorem zv_X4_mayMove : zMV yX4_mayMove RX4 := ⟨qi_X4_mayMove, qs_X4_mayMove⟩
theorem zm_X4_opposite : zMT yX4_opposite RX4 cX4_opposite 1 (some .int) 1 := ⟨qc_X4_opposite, qn_RX4, rfl, by decide +kernel, by decide +kernel, by decide +kernel⟩
theorem zm_X6_set : zMT yX6_set RX6 cX6_set 4 (some .int) 2 := ⟨qc_X6_set, qn_RX6, rfl, by decide +kernel, by decide +kernel, by decide +kernel⟩
theorem zv_X6_set : zMV yX6_set RX6 := ⟨qi_X6_set, qs_X6_set⟩
theorem zm_X6_leastOfSetting : zMT yX6_leastOfSetting RX6 cX6_leastOfSetting 1 (some .int) 1 := ⟨qc_X6_leastOfSetting, qn_RX6, rfl, by decide +kernel, by decide +kernel, by decide +kernel⟩
theorem zm_X6_mostOfSetting : zMT yX6_mostOfSetting RX6 cX6_mostOfSetting 1 (some .int) 1 := ⟨qc_X6_mostOfSetting, qn_RX6, rfl, by decide +kernel, by decide +kernel, by decide +kernel⟩
theorem zm_X6_recordState : zMT yX6_recordState RX6 cX6_recordState 1 none 0 := ⟨qc_X6_recordState, qn_RX6, rfl, by decide +kernel, by decide +kernel, by decide +kernel⟩
theorem zv_X6_recordState : zMV yX6_recordState RX6 := ⟨qi_X6_recordState, qs_X6_recordState⟩
theorem zm_X6_dropOldestState : zMT yX6_dropOldestState RX6 cX6_dropOldestState 3 none 0 := ⟨qc_X6_dropOldestState, qn_RX6, rfl, by decide +kernel, by decide +kernel, by decide +kernel⟩
theorem zv_X6_dropOldestState : zMV yX6_dropOldestState RX6 := ⟨qi_X6_dropOldestState, qs_X6_dropOldestState⟩
theorem zm_X5_copyState : zMT yX5_copyState RX5 cX5_copyState 2 none 2 := ⟨qc_X5_copyState, qn_RX5, rfl, by decide +kernel, by decide +kernel, by decide +kernel⟩
theorem zm_X0_copyGrid : zMT yX0_copyGrid RX0 cX0_copyGrid 2 none 1 := ⟨qc_X0_copyGrid, qn_RX0, rfl, by decide +kernel, by decide +kernel, by decide +kernel⟩
theorem zv_X0_copyGrid : zMV yX0_copyGrid RX0 := ⟨qi_X0_copyGrid, qs_X0_copyGrid⟩
theorem zm_X2_copyPackets : zMT yX2_copyPackets RX2 cX2_copyPackets 2 none 1 := ⟨qc_X2_copyPackets, qn_RX2, rfl, by decide +kernel, by decide +kernel, by decide +kernel⟩
theorem zv_X2_copyPackets : zMV yX2_copyPackets RX2 := ⟨qi_X2_copyPackets, qs_X2_copyPackets⟩
theorem zm_X6_isLine : zMT yX6_isLine RX6 cX6_isLine 1 (some .boolean) 1 := ⟨qc_X6_isLine, qn_RX6, rfl, by decide +kernel, by decide +kernel, by decide +kernel⟩
theorem zm_X0_layOut : zMT yX0_layOut RX0 cX0_layOut 3 none 2 := ⟨qc_X0_layOut, qn_RX0, rfl, by decide +kernel, by decide +kernel, by decide +kernel⟩
theorem zv_X0_layOut : zMV yX0_layOut RX0 := ⟨qi_X0_layOut, qs_X0_layOut⟩
theorem zm_X6_linkError : zMT yX6_linkError RX6 cX6_linkError 4 (some .int) 3 := ⟨qc_X6_linkError, qn_RX6, rfl, by decide +kernel, by decide +kernel, by decide +kernel⟩
theorem zv_X6_linkError : zMV yX6_linkError RX6 := ⟨qi_X6_linkError, qs_X6_linkError⟩
theorem zm_X0_has : zMT yX0_has RX0 cX0_has 2 (some .boolean) 1 := ⟨qc_X0_has, qn_RX0, rfl, by decide +kernel, by decide +kernel, by decide +kernel⟩
theorem zv_X0_has : zMV yX0_has RX0 := ⟨qi_X0_has, qs_X0_has⟩
theorem zm_X6_isSide : zMT yX6_isSide RX6 cX6_isSide 1 (some .boolean) 1 := ⟨qc_X6_isSide, qn_RX6, rfl, by decide +kernel, by decide +kernel, by decide +kernel⟩
theorem zm_X6_changeLink : zMT yX6_changeLink RX6 cX6_changeLink 6 (some .int) 3 := ⟨qc_X6_changeLink, qn_RX6, rfl, by decide +kernel, by decide +kernel, by decide +kernel⟩
theorem zv_X6_changeLink : zMV yX6_changeLink RX6 := ⟨qi_X6_changeLink, qs_X6_changeLink⟩
theorem zm_X0_makeWhole : zMT yX0_makeWhole RX0 cX0_makeWhole 5 none 2 := ⟨qc_X0_makeWhole, qn_RX0, rfl, by decide +kernel, by decide +kernel, by decide +kernel⟩
theorem zv_X0_makeWhole : zMV yX0_makeWhole RX0 := ⟨qi_X0_makeWhole, qs_X0_makeWhole⟩
theorem zm_X6_sendError : zMT yX6_sendError RX6 cX6_sendError 3 (some .int) 2 := ⟨qc_X6_sendError, qn_RX6, rfl, by decide +kernel, by decide +kernel, by decide +kernel⟩
theorem zv_X6_sendError : zMV yX6_sendError RX6 := ⟨qi_X6_sendError, qs_X6_sendError⟩
theorem zm_X5_wayLength : zMT yX5_wayLength RX5 cX5_wayLength 5 (some .int) 3 := ⟨qc_X5_wayLength, qn_RX5, rfl, by decide +kernel, by decide +kernel, by decide +kernel⟩
theorem zv_X5_wayLength : zMV yX5_wayLength RX5 := ⟨qi_X5_wayLength, qs_X5_wayLength⟩
theorem zm_X4_length : zMT yX4_length RX4 cX4_length 5 (some .int) 3 := ⟨qc_X4_length, qn_RX4, rfl, by decide +kernel, by decide +kernel, by decide +kernel⟩
theorem zv_X4_length : zMV yX4_length RX4 := ⟨qi_X4_length, qs_X4_length⟩
theorem zm_X0_distance : zMT yX0_distance RX0 cX0_distance 3 (some .int) 2 := ⟨qc_X0_distance, qn_RX0, rfl, by decide +kernel, by decide +kernel, by decide +kernel⟩
theorem zv_X0_distance : zMV yX0_distance RX0 := ⟨qi_X0_distance, qs_X0_distance⟩
theorem zm_X2_add : zMT yX2_add RX2 cX2_add 5 (some .int) 3 := ⟨qc_X2_add, qn_RX2, rfl, by decide +kernel, by decide +kernel, by decide +kernel⟩
theorem zv_X2_add : zMV yX2_add RX2 := ⟨qi_X2_add, qs_X2_add⟩
theorem zm_X6_isTicks : zMT yX6_isTicks RX6 cX6_isTicks 1 (some .boolean) 1 := ⟨qc_X6_isTicks, qn_RX6, rfl, by decide +kernel, by decide +kernel, by decide +kernel⟩
theorem zm_X5_passTicks : zMT yX5_passTicks RX5 cX5_passTicks 7 none 2 := ⟨qc_X5_passTicks, qn_RX5, rfl, by decide +kernel, by decide +kernel, by decide +kernel⟩
theorem zv_X5_passTicks : zMV yX5_passTicks RX5 := ⟨qi_X5_passTicks, qs_X5_passTicks⟩
theorem zm_X5_comesInside : zMT yX5_comesInside RX5 cX5_comesInside 3 (some .boolean) 1 := ⟨qc_X5_comesInside, qn_RX5, rfl, by decide +kernel, by decide +kernel, by decide +kernel⟩
theorem zv_X5_comesInside : zMV yX5_comesInside RX5 := ⟨qi_X5_comesInside, qs_X5_comesInside⟩
theorem zm_X5_hasRoom : zMT yX5_hasRoom RX5 cX5_hasRoom 2 (some .boolean) 1 := ⟨qc_X5_hasRoom, qn_RX5, rfl, by decide +kernel, by decide +kernel, by decide +kernel⟩
theorem zv_X5_hasRoom : zMV yX5_hasRoom RX5 := ⟨qi_X5_hasRoom, qs_X5_hasRoom⟩
theorem zm_X5_movesOn : zMT yX5_movesOn RX5 cX5_movesOn 7 (some .boolean) 2 := ⟨qc_X5_movesOn, qn_RX5, rfl, by decide +kernel, by decide +kernel, by decide +kernel⟩
theorem zv_X5_movesOn : zMV yX5_movesOn RX5 := ⟨qi_X5_movesOn, qs_X5_movesOn⟩
theorem zm_X5_firstSide : zMT yX5_firstSide RX5 cX5_firstSide 9 (some .int) 3 := ⟨qc_X5_firstSide, qn_RX5, rfl, by decide +kernel, by decide +kernel, by decide +kernel⟩
theorem zv_X5_firstSide : zMV yX5_firstSide RX5 := ⟨qi_X5_firstSide, qs_X5_firstSide⟩
theorem zm_X5_mostMoves : zMT yX5_mostMoves RX5 cX5_mostMoves 3 (some .int) 1 := ⟨qc_X5_mostMoves, qn_RX5, rfl, by decide +kernel, by decide +kernel, by decide +kernel⟩
theorem zv_X5_mostMoves : zMV yX5_mostMoves RX5 := ⟨qi_X5_mostMoves, qs_X5_mostMoves⟩
theorem zm_X4_lengthAfter : zMT yX4_lengthAfter RX4 cX4_lengthAfter 6 (some .int) 4 := ⟨qc_X4_lengthAfter, qn_RX4, rfl, by decide +kernel, by decide +kernel, by decide +kernel⟩
theorem zv_X4_lengthAfter : zMV yX4_lengthAfter RX4 := ⟨qi_X4_lengthAfter, qs_X4_lengthAfter⟩
theorem zm_X5_letsIn : zMT yX5_letsIn RX5 cX5_letsIn 3 (some .boolean) 2 := ⟨qc_X5_letsIn, qn_RX5, rfl, by decide +kernel, by decide +kernel, by decide +kernel⟩
theorem zv_X5_letsIn : zMV yX5_letsIn RX5 := ⟨qi_X5_letsIn, qs_X5_letsIn⟩
theorem zm_X2_noteMove : zMT yX2_noteMove RX2 cX2_noteMove 5 none 4 := ⟨qc_X2_noteMove, qn_RX2, rfl, by decide +kernel, by decide +kernel, by decide +kernel⟩
theorem zv_X2_noteMove : zMV yX2_noteMove RX2 := ⟨qi_X2_noteMove, qs_X2_noteMove⟩
theorem zm_X2_has : zMT yX2_has RX2 cX2_has 2 (some .boolean) 1 := ⟨qc_X2_has, qn_RX2, rfl, by decide +kernel, by decide +kernel, by decide +kernel⟩
theorem zv_X2_has : zMV yX2_has RX2 := ⟨qi_X2_has, qs_X2_has⟩
theorem zm_X5_wayLengthOf : zMT yX5_wayLengthOf RX5 cX5_wayLengthOf 4 (some .int) 2 := ⟨qc_X5_wayLengthOf, qn_RX5, rfl, by decide +kernel, by decide +kernel, by decide +kernel⟩
theorem zv_X5_wayLengthOf : zMV yX5_wayLengthOf RX5 := ⟨qi_X5_wayLengthOf, qs_X5_wayLengthOf⟩
theorem zm_X1_holds : zMT yX1_holds RX1 cX1_holds 4 (some .boolean) 3 := ⟨qc_X1_holds, qn_RX1, rfl, by decide +kernel, by decide +kernel, by decide +kernel⟩
theorem zv_X1_holds : zMV yX1_holds RX1 := ⟨qi_X1_holds, qs_X1_holds⟩
theorem zm_X1_find : zMT yX1_find RX1 cX1_find 7 none 2 := ⟨qc_X1_find, qn_RX1, rfl, by decide +kernel, by decide +kernel, by decide +kernel⟩
theorem zv_X1_find : zMV yX1_find RX1 := ⟨qi_X1_find, qs_X1_find⟩
theorem zm_X1_canGoOn : zMT yX1_canGoOn RX1 cX1_canGoOn 6 (some .boolean) 3 := ⟨qc_X1_canGoOn, qn_RX1, rfl, by decide +kernel, by decide +kernel, by decide +kernel⟩
theorem zv_X1_canGoOn : zMV yX1_canGoOn RX1 := ⟨qi_X1_canGoOn, qs_X1_canGoOn⟩
theorem zm_X5_isPossible : zMT yX5_isPossible RX5 cX5_isPossible 4 (some .boolean) 3 := ⟨qc_X5_isPossible, qn_RX5, rfl, by decide +kernel, by decide +kernel, by decide +kernel⟩
theorem zv_X5_isPossible : zMV yX5_isPossible RX5 := ⟨qi_X5_isPossible, qs_X5_isPossible⟩
theorem zm_X1_hasFreePacket : zMT yX1_hasFreePacket RX1 cX1_hasFreePacket 4 (some .boolean) 2 := ⟨qc_X1_hasFreePacket, qn_RX1, rfl, by decide +kernel, by decide +kernel, by decide +kernel⟩
theorem zv_X1_hasFreePacket : zMV yX1_hasFreePacket RX1 := ⟨qi_X1_hasFreePacket, qs_X1_hasFreePacket⟩
theorem zm_X2_countAt : zMT yX2_countAt RX2 cX2_countAt 5 (some .int) 2 := ⟨qc_X2_countAt, qn_RX2, rfl, by decide +kernel, by decide +kernel, by decide +kernel⟩
theorem zv_X2_countAt : zMV yX2_countAt RX2 := ⟨qi_X2_countAt, qs_X2_countAt⟩
theorem zm_X6_linkState : zMT yX6_linkState RX6 cX6_linkState 4 (some .int) 2 := ⟨qc_X6_linkState, qn_RX6, rfl, by decide +kernel, by decide +kernel, by decide +kernel⟩
theorem zv_X6_linkState : zMV yX6_linkState RX6 := ⟨qi_X6_linkState, qs_X6_linkState⟩
theorem zm_X2_countIn : zMT yX2_countIn RX2 cX2_countIn 4 (some .int) 1 := ⟨qc_X2_countIn, qn_RX2, rfl, by decide +kernel, by decide +kernel, by decide +kernel⟩
theorem zv_X2_countIn : zMV yX2_countIn RX2 := ⟨qi_X2_countIn, qs_X2_countIn⟩
theorem zm_X2_sum : zMT yX2_sum RX2 cX2_sum 4 (some .int) 1 := ⟨qc_X2_sum, qn_RX2, rfl, by decide +kernel, by decide +kernel, by decide +kernel⟩
theorem zv_X2_sum : zMV yX2_sum RX2 := ⟨qi_X2_sum, qs_X2_sum⟩
theorem zm_X1_size : zMT yX1_size RX1 cX1_size 5 (some .int) 2 := ⟨qc_X1_size, qn_RX1, rfl, by decide +kernel, by decide +kernel, by decide +kernel⟩
theorem zv_X1_size : zMV yX1_size RX1 := ⟨qi_X1_size, qs_X1_size⟩
theorem zm_X0_brokenLinks : zMT yX0_brokenLinks RX0 cX0_brokenLinks 1 (some .int) 0 := ⟨qc_X0_brokenLinks, qn_RX0, rfl, by decide +kernel, by decide +kernel, by decide +kernel⟩
theorem zv_X0_brokenLinks : zMV yX0_brokenLinks RX0 := ⟨qi_X0_brokenLinks, qs_X0_brokenLinks⟩
theorem zm_X4_shortestWays : zMT yX4_shortestWays RX4 cX4_shortestWays 3 (some .int) 2 := ⟨qc_X4_shortestWays, qn_RX4, rfl, by decide +kernel, by decide +kernel, by decide +kernel⟩
theorem zv_X4_shortestWays : zMV yX4_shortestWays RX4 := ⟨qi_X4_shortestWays, qs_X4_shortestWays⟩
theorem zm_X5_connectedPairs : zMT yX5_connectedPairs RX5 cX5_connectedPairs 6 (some .int) 1 := ⟨qc_X5_connectedPairs, qn_RX5, rfl, by decide +kernel, by decide +kernel, by decide +kernel⟩
theorem zv_X5_connectedPairs : zMV yX5_connectedPairs RX5 := ⟨qi_X5_connectedPairs, qs_X5_connectedPairs⟩
