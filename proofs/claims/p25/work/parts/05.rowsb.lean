/-! own rows: arrays, fields, switches, calls, returns -/
theorem zval_nat {f : Int → Int} {e : Int} (h : 0 ≤ e) : iI (f ((e.toNat : Nat) : Int)) = iI (f e) := by rw [Int.toNat_of_nonneg h]
/-- what the tables say of a class in vwCl -/
def zCl (ci : Nat) (C : String) (T : u_T) (N : Nat) (ty : Nat → FieldType) : Prop := vwCl[ci]? = some (C, T, N) ∧ (∀ w ∈ u_ws C T N, w ∈ wsL_law) ∧ (∀ k, k < N → parseFieldDescriptor (T k).2.2.1 = some (ty k)) ∧ (∀ a, a < N → ∀ b, b < N → a ≠ b → (T a).2.1 ≠ (T b).2.1)
theorem zc0 : zCl 0 RX0 TX0 3 tyX0 := ⟨rfl, inlX0, tyX0_ok, nmX0⟩
theorem zc1 : zCl 1 RX1 TX1 1 tyX1 := ⟨rfl, inlX1, tyX1_ok, nmX1⟩
theorem zc2 : zCl 2 RX2 TX2 11 tyX2 := ⟨rfl, inlX2, tyX2_ok, nmX2⟩
theorem zc3 : zCl 3 RX3 TX3 7 tyX3 := ⟨rfl, inlX3, tyX3_ok, nmX3⟩
theorem zc4 : zCl 4 RX4 TX4 6 tyX4 := ⟨rfl, inlX4, tyX4_ok, nmX4⟩
theorem zc5 : zCl 5 RX5 TX5 6 tyX5 := ⟨rfl, inlX5, tyX5_ok, nmX5⟩
theorem zc6 : zCl 6 RX6 TX6 10 tyX6 := ⟨rfl, inlX6, tyX6_ok, nmX6⟩
/-- a method of ours, as its caller needs it -/
def zMT (y : MethodName) (C : String) (bytes : ByteArray) (maxL : Nat) (ret : Option FieldType) (n : Nat) : Prop :=
  Cond.code y bytes maxL ret ∈ wsL_law ∧ Cond.initialized C ∈ wsL_law ∧ y.cls = C ∧ y.cls ≠ "java/lang/invoke/MethodHandle" ∧ y.cls ≠ "java/lang/invoke/VarHandle" ∧ (parseMethodDescriptor y.desc).map (fun d => d.parameters.length) = some n
def zMV (y : MethodName) (C : String) : Prop := Cond.instanceMethod y ∈ wsL_law ∧ Cond.selects C y y ∈ wsL_law
/-- contracts: an answer iI ρ, a world behind it -/
def zPre (Z : zZ) (av : List Value) (ws : va_W) (sz : Nat) : Array Value → State → Prop := va_Pc av (fun U => U.heap.size = sz ∧ va_P Z.1 vwCl ws U.heap ∧ va_K Z.1 vwCl (zT Z) U ∧ va_D (fun _ => True) ws)
def zB {T : Type} (Z : zZ) (ws : va_W) (sz : Nat) (w' : T → va_W) : T → State → Prop := fun u t => va_P Z.1 vwCl (w' u) t.heap ∧ va_K Z.1 vwCl (zT Z) t ∧ va_D (va_A ws sz) (w' u)
def zI {T : Type} (l : Launch) (y : MethodName) (wy : List Cond) (rm : Room) (Z : zZ) (av : List Value) (ws : va_W) (w' : T → va_W) (post : Int → T → Prop) : Prop :=
  ∀ sz : Nat, Met l y wy rm (zPre Z av ws sz) (va_Qi (fun (r : Int32) (u : T) => ∃ ρ : Int, r = iI ρ ∧ post ρ u) (zB Z ws sz w') (va_A ws sz)) rm.cells rm.slots (va_A ws sz)
def zN {T : Type} (l : Launch) (y : MethodName) (wy : List Cond) (rm : Room) (Z : zZ) (av : List Value) (ws : va_W) (w' : T → va_W) (post : T → Prop) : Prop :=
  ∀ sz : Nat, Met l y wy rm (zPre Z av ws sz) (va_Qv post (zB Z ws sz w') (va_A ws sz)) rm.cells rm.slots (va_A ws sz)
section ZA
variable {X : zX} {Z : zZ} {R : Room} {cc : ByteArray} {own : String} {nL : Nat} {k n : Nat} {ws ws' : va_W} {pc : Nat} {lv : List (Nat × Value)} {st : List Value}
theorem z_iald (ok : zOK X Z R cc own nL) (q0 : Nat) {b N : Nat} {f : Int → Int} {e : Int} (he : ws[q0]? = some (b, .inl (Z.2.1, N, .inl (fun j : Nat => iI (f j))))) (d : decode cc pc = .ok (.iaload, 1)) (hi : 0 ≤ e ∧ e < (N : Int)) (hN : N < 2147483648) (h : zV X k n ws (pc + 1) lv (.int (iI (f e)) :: st)) : zV X k n ws pc lv (.int (iI e) :: .ref b :: st) := by
  obtain ⟨p, l, e', R, s, m, args, below, meth, c, Q, Z, A, H0⟩ := X
  obtain ⟨rfl, rfl, hx, hb, hml, ho, hts, hK, hA⟩ := ok
  intro H locs ls hP hD hS hl
  refine va_iald hx hb hK hP q0 0 he rfl (iI_in hi (by omega)) d ?_
  rw [iI_cl ⟨hi.1, by omega⟩, zval_nat hi.1]
  exact h H locs ls hP hD hS hl
theorem z_zald (ok : zOK X Z R cc own nL) (q0 : Nat) {b N : Nat} {f : Int → Int} {e : Int} (he : ws[q0]? = some (b, .inl (Z.2.2.1, N, .inl (fun j : Nat => iI (f j))))) (d : decode cc pc = .ok (.baload, 1)) (hi : 0 ≤ e ∧ e < (N : Int)) (hN : N < 2147483648) (h : zV X k n ws (pc + 1) lv (.int (iI (f e)) :: st)) : zV X k n ws pc lv (.int (iI e) :: .ref b :: st) := by
  obtain ⟨p, l, e', R, s, m, args, below, meth, c, Q, Z, A, H0⟩ := X
  obtain ⟨rfl, rfl, hx, hb, hml, ho, hts, hK, hA⟩ := ok
  intro H locs ls hP hD hS hl
  refine va_zald hx hb hK hP q0 1 he rfl (iI_in hi (by omega)) d ?_
  rw [iI_cl ⟨hi.1, by omega⟩, zval_nat hi.1]
  exact h H locs ls hP hD hS hl
theorem z_iast (ok : zOK X Z R cc own nL) (q0 : Nat) {b N : Nat} {f : Int → Int} {e v : Int} (he : ws[q0]? = some (b, .inl (Z.2.1, N, .inl (fun j : Nat => iI (f j))))) (d : decode cc pc = .ok (.iastore, 1)) (hi : 0 ≤ e ∧ e < (N : Int)) (hN : N < 2147483648) (hw : ws.set q0 (b, .inl (Z.2.1, N, .inl (fun j : Nat => iI (zu f e v j)))) = ws') (h : zV X k n ws' (pc + 1) lv st) : zV X k n ws pc lv (.int (iI v) :: .int (iI e) :: .ref b :: st) := by
  obtain ⟨p, l, e', R, s, m, args, below, meth, c, Q, Z, A, H0⟩ := X
  obtain ⟨rfl, rfl, hx, hb, hml, ho, hts, hK, hA⟩ := ok
  intro H locs ls hP hD hS hl
  refine va_iast hx hb hK hP hD hS q0 0 he rfl (iI_in hi (by omega)) d (fun H1 locs1 hP hD hS => ?_)
  rw [zu_upd ⟨hi.1, by omega⟩] at hP hD
  subst hw
  exact h H1 locs1 ls hP hD hS hl
theorem znar01 {v : Int} (h : v = 0 ∨ v = 1) : vp_nar .boolean (iI v) = iI v := by
  rcases h with rfl | rfl <;> decide
theorem z_zast (ok : zOK X Z R cc own nL) (q0 : Nat) {b N : Nat} {f : Int → Int} {e v : Int} (he : ws[q0]? = some (b, .inl (Z.2.2.1, N, .inl (fun j : Nat => iI (f j))))) (d : decode cc pc = .ok (.bastore, 1)) (hi : 0 ≤ e ∧ e < (N : Int)) (hN : N < 2147483648) (hv : v = 0 ∨ v = 1) (hw : ws.set q0 (b, .inl (Z.2.2.1, N, .inl (fun j : Nat => iI (zu f e v j)))) = ws') (h : zV X k n ws' (pc + 1) lv st) : zV X k n ws pc lv (.int (iI v) :: .int (iI e) :: .ref b :: st) := by
  obtain ⟨p, l, e', R, s, m, args, below, meth, c, Q, Z, A, H0⟩ := X
  obtain ⟨rfl, rfl, hx, hb, hml, ho, hts, hK, hA⟩ := ok
  intro H locs ls hP hD hS hl
  refine va_zast hx hb hK hP hD hS q0 1 he rfl (iI_in hi (by omega)) d (fun H1 locs1 hP hD hS => ?_)
  rw [znar01 hv, zu_upd ⟨hi.1, by omega⟩] at hP hD
  subst hw
  exact h H1 locs1 ls hP hD hS hl
theorem z_get (ok : zOK X Z R cc own nL) {ci N : Nat} {C : String} {T : u_T} {ty : Nat → FieldType} (hc : zCl ci C T N ty) (q0 : Nat) {b idx : Nat} {ref : String} {fs : List Value} (he : ws[q0]? = some (b, .inr (ci, fs))) (f : Nat) (hf : f < N) (hl : Cond.fieldLink own idx ref (T f).2.1 (T f).2.2.1 ∈ wsL_law) (hr : (T f).1 = ref) {v : Value} (hv : fs[f]? = some v) (d : decode cc pc = .ok (.getfield idx, 3)) (h : zV X k n ws (pc + 3) lv (v :: st)) : zV X k n ws pc lv (.ref b :: st) := by
  obtain ⟨p, l, e', R, s, m, args, below, meth, c, Q, Z, A, H0⟩ := X
  obtain ⟨rfl, rfl, hx, hb, hml, ho, hts, hK, hA⟩ := ok
  obtain ⟨hc1, hc2, hc3, hc4⟩ := hc
  intro H locs ls hP hD hS hlv
  exact va_get hx hb hts hc2 ho hK hP q0 he hc1 f hf (hts _ hl) (fun _ h9 => by rw [← hr]; exact h9) hv d (h H locs ls hP hD hS hlv)
theorem z_put (ok : zOK X Z R cc own nL) {ci N : Nat} {C : String} {T : u_T} {ty : Nat → FieldType} (hc : zCl ci C T N ty) (q0 : Nat) {b idx : Nat} {ref : String} {fs : List Value} (he : ws[q0]? = some (b, .inr (ci, fs))) (f : Nat) (hf : f < N) (hl : Cond.fieldLink own idx ref (T f).2.1 (T f).2.2.1 ∈ wsL_law) (hr : (T f).1 = ref) (hfin : (T f).2.2.2 = false) {v : Value} (hn : narrow (ty f) v = v) (hfit : fits (ty f) v = true) (hlen : f < fs.length) (d : decode cc pc = .ok (.putfield idx, 3)) (hw : ws.set q0 (b, .inr (ci, fs.set f v)) = ws') (h : zV X k n ws' (pc + 3) lv st) : zV X k n ws pc lv (v :: .ref b :: st) := by
  obtain ⟨p, l, e', R, s, m, args, below, meth, c, Q, Z, A, H0⟩ := X
  obtain ⟨rfl, rfl, hx, hb, hml, ho, hts, hK, hA⟩ := ok
  obtain ⟨hc1, hc2, hc3, hc4⟩ := hc
  intro H locs ls hP hD hS hlv
  refine va_put hx hb hts hc2 ty hc3 hc4 ho hK hP hD hS q0 he hc1 f hf (hts _ hl) (fun _ h9 => by rw [← hr]; exact h9) hfin (hc3 f hf) hn hfit hlen d (fun H1 locs1 hP hD hS => ?_)
  subst hw
  exact h H1 locs1 ls hP hD hS hlv
theorem z_tableIn (ok : zOK X Z R cc own nL) {dflt lo hi : Int} {offs : Array Int} {len : Nat} {a off : Int} {tgt : Nat} (d : decode cc pc = .ok (.tableswitch dflt lo hi offs, len)) (ha : -2147483648 ≤ a ∧ a < 2147483648) (h1 : lo ≤ a) (h2 : a ≤ hi) (ho : offs[(a - lo).toNat]? = some off) (ht : (pc : Int) + off = (tgt : Int)) (h : zV X k n ws tgt lv st) : zV X k n ws pc lv (.int (iI a) :: st) := by
  obtain ⟨p, l, e', R, s, m, args, below, meth, c, Q, Z, A, H0⟩ := X
  obtain ⟨rfl, rfl, hx, hb, hml, ho', hts, hK, hA⟩ := ok
  intro H locs ls hP hD hS hlv
  exact lv_tableIn hx hb d (by rw [iI_toInt ha]; omega) (by rw [iI_toInt ha]; omega) (by rw [iI_toInt ha]; exact ho) ht (h H locs ls hP hD hS hlv)
theorem z_tableOut (ok : zOK X Z R cc own nL) {dflt lo hi : Int} {offs : Array Int} {len : Nat} {a : Int} {tgt : Nat} (d : decode cc pc = .ok (.tableswitch dflt lo hi offs, len)) (ha : -2147483648 ≤ a ∧ a < 2147483648) (h1 : a < lo ∨ hi < a) (ht : (pc : Int) + dflt = (tgt : Int)) (h : zV X k n ws tgt lv st) : zV X k n ws pc lv (.int (iI a) :: st) := by
  obtain ⟨p, l, e', R, s, m, args, below, meth, c, Q, Z, A, H0⟩ := X
  obtain ⟨rfl, rfl, hx, hb, hml, ho', hts, hK, hA⟩ := ok
  intro H locs ls hP hD hS hlv
  exact lv_tableOut hx hb d (by rw [iI_toInt ha]; exact h1) ht (h H locs ls hP hD hS hlv)
/-- another order of the same cells -/
theorem zP_perm {D : va_G} {ws ws' : va_W} {H : Heap} (hp : ws.Perm ws') (h : va_P D vwCl ws H) : va_P D vwCl ws' H := by
  intro i q hq
  obtain ⟨j, hj⟩ := List.getElem?_of_mem (hp.mem_iff.mpr (List.mem_of_getElem? hq))
  exact h j q hj
theorem zD_nodup {A : Nat → Prop} {ws : va_W} : va_D A ws ↔ (ws.map Prod.fst).Nodup ∧ ∀ q ∈ ws, A q.1 := by
  constructor
  · intro h
    refine ⟨?_, fun q hq => ?_⟩
    · refine List.pairwise_iff_getElem.mpr (fun i j hi hj hij e => ?_)
      rw [List.length_map] at hi hj
      rw [List.getElem_map, List.getElem_map] at e
      have := h.1 i j _ _ (List.getElem?_eq_getElem hi) (List.getElem?_eq_getElem hj) e
      omega
    · obtain ⟨i, hi⟩ := List.getElem?_of_mem hq
      exact h.2 i q hi
  · intro ⟨h1, h2⟩
    refine ⟨fun i j p q hp hq e => ?_, fun i q hq => h2 q (List.mem_of_getElem? hq)⟩
    have h1 := List.pairwise_iff_getElem.mp h1
    obtain ⟨hi, rfl⟩ := List.getElem?_eq_some_iff.mp hp
    obtain ⟨hj, rfl⟩ := List.getElem?_eq_some_iff.mp hq
    rcases Nat.lt_trichotomy i j with h | h | h
    · exact absurd (by rw [List.getElem_map, List.getElem_map]; exact e) (h1 i j (by rw [List.length_map]; exact hi) (by rw [List.length_map]; exact hj) h)
    · exact h
    · exact absurd (by rw [List.getElem_map, List.getElem_map]; exact e.symm) (h1 j i (by rw [List.length_map]; exact hj) (by rw [List.length_map]; exact hi) h)
theorem zD_perm {A : Nat → Prop} {ws ws' : va_W} (hp : ws.Perm ws') (h : va_D A ws) : va_D A ws' := by
  rw [zD_nodup] at h ⊢
  exact ⟨(hp.map Prod.fst).nodup_iff.mp h.1, fun q hq => h.2 q (hp.mem_iff.mpr hq)⟩
theorem z_perm (hp : ws.Perm ws') (h : zV X k n ws' pc lv st) : zV X k n ws pc lv st := by
  obtain ⟨p, l, e', R, s, m, args, below, meth, c, Q, Z, A, H0⟩ := X
  intro H locs ls hP hD hS hlv
  exact h H locs ls (zP_perm hp hP) (zD_perm hp hD) hS hlv
theorem z_eq (e : ws = ws') (h : zV X k n ws' pc lv st) : zV X k n ws pc lv st := e ▸ h
/-- what stays beside a call -/
theorem zjoin {A0 : Nat → Prop} {D : va_G} {wc wr w1 : va_W} {H H1 : Heap} (hP : va_P D vwCl (wc ++ wr) H) (hD : va_D A0 (wc ++ wr)) (hk : ∀ q : Nat, q < H.size → ¬ va_A wc H.size q → H1[q]? = H[q]?) (hF : ∀ q, va_A wc H.size q → A0 q) (hP1 : va_P D vwCl w1 H1) (hD1 : va_D (va_A wc H.size) w1) : va_P D vwCl (w1 ++ wr) H1 ∧ va_D A0 (w1 ++ wr) := by
  have hD' := zD_nodup.mp hD
  have apart : ∀ q ∈ wr, q.1 < H.size ∧ ¬ va_A wc H.size q.1 := by
    intro q hq
    obtain ⟨i, hi⟩ := List.getElem?_of_mem (List.mem_append_right wc hq)
    have hl := (hP i q hi).lt
    refine ⟨hl, fun h => ?_⟩
    rcases h with ⟨j, e, hj⟩ | h
    · have h1 := hD'.1
      rw [List.map_append, List.nodup_append] at h1
      exact h1.2.2 q.1 (List.mem_map.mpr ⟨(q.1, e), List.mem_of_getElem? hj, rfl⟩) q.1 (List.mem_map.mpr ⟨q, hq, rfl⟩) rfl
    · omega
  refine ⟨fun i q hq => ?_, zD_nodup.mpr ⟨?_, fun q hq => ?_⟩⟩
  · rcases List.mem_append.mp (List.mem_of_getElem? hq) with h | h
    · obtain ⟨j, hj⟩ := List.getElem?_of_mem h
      exact hP1 j q hj
    · obtain ⟨j, hj⟩ := List.getElem?_of_mem (List.mem_append_right wc h)
      exact (hP j q hj).kept (hk q.1 (apart q h).1 (apart q h).2)
  · rw [List.map_append, List.nodup_append]
    have h1 := hD'.1
    rw [List.map_append, List.nodup_append] at h1
    refine ⟨(zD_nodup.mp hD1).1, h1.2.1, fun a ha b hb e => ?_⟩
    obtain ⟨x, hx, rfl⟩ := List.mem_map.mp ha
    obtain ⟨y, hy, rfl⟩ := List.mem_map.mp hb
    exact (apart y hy).2 (e ▸ (zD_nodup.mp hD1).2 x hx)
  · rcases List.mem_append.mp hq with h | h
    · exact hF _ ((zD_nodup.mp hD1).2 q h)
    · exact hD'.2 q (List.mem_append_right _ h)
theorem zfree {A0 : Nat → Prop} {wc wr : va_W} {H0 H : Heap} {locs : List Loc} (hD : va_D A0 (wc ++ wr)) (hS : va_S A0 H0 H locs) (hA : ∀ q, H0.size ≤ q → A0 q) : ∀ q, va_A wc H.size q → A0 q := by
  intro q h
  rcases h with ⟨i, e, h⟩ | h
  · exact (zD_nodup.mp hD).2 (q, e) (List.mem_append_left _ (List.mem_of_getElem? h))
  · exact hA q (Nat.le_trans hS.1 h)
theorem zPsub {D : va_G} {wc wr : va_W} {H : Heap} (h : va_P D vwCl (wc ++ wr) H) : va_P D vwCl wc H := fun i q hq => h i q (by rw [List.getElem?_append_left (List.getElem?_eq_some_iff.mp hq).1]; exact hq)
theorem zDsub {A : Nat → Prop} {wc wr : va_W} (h : va_D A (wc ++ wr)) : va_D (fun _ => True) wc := by
  have h1 := (zD_nodup.mp h).1
  rw [List.map_append, List.nodup_append] at h1
  exact zD_nodup.mpr ⟨h1.1, fun _ _ => trivial⟩
theorem zblind {Z : zZ} {av : List Value} {ws : va_W} {sz : Nat} : FrameBlind (zPre Z av ws sz) := by
  intro a U g mk h
  obtain ⟨h0, h1, h2, h3, h4⟩ := h
  exact ⟨h0, h1, h2, va_K.moved (u := U) (U := U.calling g mk a) (Vm.Alike.refl U.vm) h3, h4⟩
theorem zbefore {Z : zZ} {A : Nat → Prop} {av : List Value} {wc wr : va_W} {s : State} {H : Heap} (hK : va_K Z.1 vwCl (zT Z) s) (hP : va_P Z.1 vwCl (wc ++ wr) H) (hD : va_D A (wc ++ wr)) : ∀ U : State, U.heap = H → s.WarmedH U.vm → zPre Z av wc H.size av.toArray U :=
  fun U hU hW => ⟨rfl, by rw [hU], by rw [hU]; exact zPsub hP, va_K.moved hW.alike hK, zDsub hD⟩
theorem zcallB {R : Room} {s : State} {args : Array Value} {y : MethodName} {C : String} {bytes : ByteArray} {maxL np idx : Nat} {ret : Option FieldType} {rm : Room} (hts : ∀ w ∈ wsL_law, w.before args s = true) (hm : zMT y C bytes maxL ret np) (hlk : Cond.methodLink own idx y ∈ wsL_law) (hR : rm.frames + 1 ≤ R.frames ∧ 8 + (maxL + 11) + rm.locals ≤ R.locals) : CallB R s args own idx y bytes maxL ret (Cond.code y bytes maxL ret :: wsL_law) rm rm.cells rm.slots np := by
  obtain ⟨h1, h2, h3, h4, h5, h6⟩ := hm
  subst h3
  refine callB_of (Ts := wsL_law) np hts ?_ rfl rfl rfl (hts _ h2) (hts _ hlk) ⟨h4, h5, h6⟩ hR
  intro w hw
  have hw : w ∈ wsL_law := by
    rcases List.mem_cons.mp hw with h | h
    · exact h ▸ h1
    · exact h
  exact ⟨hw, good_of_word (List.all_eq_true.mp zG_good w hw)⟩
theorem z_callVi (ok : zOK X Z R cc own nL) {T : Type} {y : MethodName} {C : String} {bytes : ByteArray} {maxL np idx b q0 ci : Nat} {ret : Option FieldType} {rm : Room} {As rest fs : List Value} {wc wr : va_W} {w' : T → va_W} {post : Int → T → Prop} {q : vw_C} (ct : ∀ l, zI l y (Cond.code y bytes maxL ret :: wsL_law) rm Z (.ref b :: As) wc w' post) (hm : zMT y C bytes maxL ret np) (hv : zMV y C) (hlk : Cond.methodLink own idx y ∈ wsL_law) (d : decode cc pc = .ok (.invokevirtual idx, 3)) (hR : rm.frames + 1 ≤ R.frames ∧ 8 + (maxL + 11) + rm.locals ≤ R.locals) (hc : k + rm.cells ≤ R.cells ∧ n + rm.slots ≤ R.slots) (hn : As.length = np) (hst : st = As.reverse ++ .ref b :: rest) (hW : (rest.map fun v => v.category).sum ≤ 8) (he : wc[q0]? = some (b, .inr (ci, fs))) (hcl : vwCl[ci]? = some q) (hq : q.1 = C) (hp : ws.Perm (wc ++ wr)) (h : ∀ (ρ : Int) (u : T), post ρ u → zV X (k + rm.cells) (n + rm.slots) (w' u ++ wr) (pc + 3) lv (.int (iI ρ) :: rest)) : zV X k n ws pc lv st := by
  obtain ⟨p, l, e', R, s, m, args, below, meth, c, Q, Z, A, H0⟩ := X
  obtain ⟨rfl, rfl, hx, hb, hml, ho, hts, hK, hA⟩ := ok
  intro H locs ls hP hD hS hlv
  have hP := zP_perm hp hP
  have hD := zD_perm hp hD
  have hF := zfree hD hS hA
  subst hst
  have hr := va_recv (q := q) hK (zPsub hP) hcl he
  rw [hq] at hr
  refine va_calli (va_runV (C := C) (As := As) (rest := rest) (n := np) ⟨hx, hb, hml, ho, hts⟩ (ct l H.size) ⟨zcallB hts hm hlk hR, hts _ hv.1, hts _ hv.2⟩ ⟨zblind, hr, zbefore hK hP hD⟩ rfl hn (by show ls.size = nL; rw [hlv.1, hml]) rfl (lv_room hW) d hc) hS (fun q _ h => hF q h) hF ?_
  intro r u t H1 locs1 ht hvm ⟨ρ, hr, hpost⟩ ⟨hP1, hK1, hD1⟩ hz hk hS1
  subst hr
  rw [ht] at hP1
  obtain ⟨hP2, hD2⟩ := zjoin hP hD hk hF hP1 hD1
  exact h ρ u hpost H1 locs1 ls hP2 hD2 hS1 hlv
theorem z_callVv (ok : zOK X Z R cc own nL) {T : Type} {y : MethodName} {C : String} {bytes : ByteArray} {maxL np idx b q0 ci : Nat} {ret : Option FieldType} {rm : Room} {As rest fs : List Value} {wc wr : va_W} {w' : T → va_W} {post : T → Prop} {q : vw_C} (ct : ∀ l, zN l y (Cond.code y bytes maxL ret :: wsL_law) rm Z (.ref b :: As) wc w' post) (hm : zMT y C bytes maxL ret np) (hv : zMV y C) (hlk : Cond.methodLink own idx y ∈ wsL_law) (d : decode cc pc = .ok (.invokevirtual idx, 3)) (hR : rm.frames + 1 ≤ R.frames ∧ 8 + (maxL + 11) + rm.locals ≤ R.locals) (hc : k + rm.cells ≤ R.cells ∧ n + rm.slots ≤ R.slots) (hn : As.length = np) (hst : st = As.reverse ++ .ref b :: rest) (hW : (rest.map fun v => v.category).sum ≤ 8) (he : wc[q0]? = some (b, .inr (ci, fs))) (hcl : vwCl[ci]? = some q) (hq : q.1 = C) (hp : ws.Perm (wc ++ wr)) (h : ∀ (u : T), post u → zV X (k + rm.cells) (n + rm.slots) (w' u ++ wr) (pc + 3) lv rest) : zV X k n ws pc lv st := by
  obtain ⟨p, l, e', R, s, m, args, below, meth, c, Q, Z, A, H0⟩ := X
  obtain ⟨rfl, rfl, hx, hb, hml, ho, hts, hK, hA⟩ := ok
  intro H locs ls hP hD hS hlv
  have hP := zP_perm hp hP
  have hD := zD_perm hp hD
  have hF := zfree hD hS hA
  subst hst
  have hr := va_recv (q := q) hK (zPsub hP) hcl he
  rw [hq] at hr
  refine va_callv (va_runV (C := C) (As := As) (rest := rest) (n := np) ⟨hx, hb, hml, ho, hts⟩ (ct l H.size) ⟨zcallB hts hm hlk hR, hts _ hv.1, hts _ hv.2⟩ ⟨zblind, hr, zbefore hK hP hD⟩ rfl hn (by show ls.size = nL; rw [hlv.1, hml]) rfl (lv_room hW) d hc) hS (fun q _ h => hF q h) hF ?_
  intro u t H1 locs1 ht hvm hpost ⟨hP1, hK1, hD1⟩ hz hk hS1
  rw [ht] at hP1
  obtain ⟨hP2, hD2⟩ := zjoin hP hD hk hF hP1 hD1
  exact h u hpost H1 locs1 ls hP2 hD2 hS1 hlv
theorem z_callSi (ok : zOK X Z R cc own nL) {T : Type} {y : MethodName} {C : String} {bytes : ByteArray} {maxL np idx : Nat} {ret : Option FieldType} {rm : Room} {As rest : List Value} {wc wr : va_W} {w' : T → va_W} {post : Int → T → Prop} (ct : ∀ l, zI l y (Cond.code y bytes maxL ret :: wsL_law) rm Z As wc w' post) (hm : zMT y C bytes maxL ret np) (hv : Cond.static y ∈ wsL_law) (hlk : Cond.methodLink own idx y ∈ wsL_law) (d : decode cc pc = .ok (.invokestatic idx, 3)) (hR : rm.frames + 1 ≤ R.frames ∧ 8 + (maxL + 11) + rm.locals ≤ R.locals) (hc : k + rm.cells ≤ R.cells ∧ n + rm.slots ≤ R.slots) (hn : As.length = np) (hst : st = As.reverse ++ rest) (hW : (rest.map fun v => v.category).sum ≤ 8) (hp : ws.Perm (wc ++ wr)) (h : ∀ (ρ : Int) (u : T), post ρ u → zV X (k + rm.cells) (n + rm.slots) (w' u ++ wr) (pc + 3) lv (.int (iI ρ) :: rest)) : zV X k n ws pc lv st := by
  obtain ⟨p, l, e', R, s, m, args, below, meth, c, Q, Z, A, H0⟩ := X
  obtain ⟨rfl, rfl, hx, hb, hml, ho, hts, hK, hA⟩ := ok
  intro H locs ls hP hD hS hlv
  have hP := zP_perm hp hP
  have hD := zD_perm hp hD
  have hF := zfree hD hS hA
  subst hst
  refine va_calli (va_runS (As := As) (rest := rest) (n := np) ⟨hx, hb, hml, ho, hts⟩ (ct l H.size) ⟨zcallB hts hm hlk hR, hts _ hv⟩ ⟨zblind, zbefore hK hP hD⟩ rfl hn (by show ls.size = nL; rw [hlv.1, hml]) rfl (lv_room hW) d hc) hS (fun q _ h => hF q h) hF ?_
  intro r u t H1 locs1 ht hvm ⟨ρ, hr, hpost⟩ ⟨hP1, hK1, hD1⟩ hz hk hS1
  subst hr
  rw [ht] at hP1
  obtain ⟨hP2, hD2⟩ := zjoin hP hD hk hF hP1 hD1
  exact h ρ u hpost H1 locs1 ls hP2 hD2 hS1 hlv
theorem z_callSv (ok : zOK X Z R cc own nL) {T : Type} {y : MethodName} {C : String} {bytes : ByteArray} {maxL np idx : Nat} {ret : Option FieldType} {rm : Room} {As rest : List Value} {wc wr : va_W} {w' : T → va_W} {post : T → Prop} (ct : ∀ l, zN l y (Cond.code y bytes maxL ret :: wsL_law) rm Z As wc w' post) (hm : zMT y C bytes maxL ret np) (hv : Cond.static y ∈ wsL_law) (hlk : Cond.methodLink own idx y ∈ wsL_law) (d : decode cc pc = .ok (.invokestatic idx, 3)) (hR : rm.frames + 1 ≤ R.frames ∧ 8 + (maxL + 11) + rm.locals ≤ R.locals) (hc : k + rm.cells ≤ R.cells ∧ n + rm.slots ≤ R.slots) (hn : As.length = np) (hst : st = As.reverse ++ rest) (hW : (rest.map fun v => v.category).sum ≤ 8) (hp : ws.Perm (wc ++ wr)) (h : ∀ (u : T), post u → zV X (k + rm.cells) (n + rm.slots) (w' u ++ wr) (pc + 3) lv rest) : zV X k n ws pc lv st := by
  obtain ⟨p, l, e', R, s, m, args, below, meth, c, Q, Z, A, H0⟩ := X
  obtain ⟨rfl, rfl, hx, hb, hml, ho, hts, hK, hA⟩ := ok
  intro H locs ls hP hD hS hlv
  have hP := zP_perm hp hP
  have hD := zD_perm hp hD
  have hF := zfree hD hS hA
  subst hst
  refine va_callv (va_runS (As := As) (rest := rest) (n := np) ⟨hx, hb, hml, ho, hts⟩ (ct l H.size) ⟨zcallB hts hm hlk hR, hts _ hv⟩ ⟨zblind, zbefore hK hP hD⟩ rfl hn (by show ls.size = nL; rw [hlv.1, hml]) rfl (lv_room hW) d hc) hS (fun q _ h => hF q h) hF ?_
  intro u t H1 locs1 ht hvm hpost ⟨hP1, hK1, hD1⟩ hz hk hS1
  rw [ht] at hP1
  obtain ⟨hP2, hD2⟩ := zjoin hP hD hk hF hP1 hD1
  exact h u hpost H1 locs1 ls hP2 hD2 hS1 hlv
end ZA
/-- how a contract of a method with an int (or a truth value, or a char) is begun -/
theorem zI_of {T : Type} {l : Launch} {y : MethodName} {C : String} {bytes : ByteArray} {maxL : Nat} {ty : FieldType} {rm : Room} {Z : zZ} {av : List Value} {ws : va_W} {w' : T → va_W} {post : Int → T → Prop} (hy : plainName y.cls = true) (hC : y.cls = C) (hav : (lg_sl av).length ≤ maxL) (nar : Int → Prop) (hnar : ∀ ρ, nar ρ → narrow ty (.int (iI ρ)) = .int (iI ρ))
    (body : ∀ X : zX, zOK X Z rm bytes C maxL → (∀ (ρ : Int) (u : T) (pc : Nat) (lv : List (Nat × Value)) (k n : Nat), decode bytes pc = .ok (.ireturn, 1) → nar ρ → post ρ u → k ≤ rm.cells → n ≤ rm.slots → zV X k n (w' u) pc lv [.int (iI ρ)]) → zV X 0 0 ws 0 (lv_args 0 av) []) : zI l y (Cond.code y bytes maxL (some ty) :: wsL_law) rm Z av ws w' post := by
  intro sz
  refine Met.ofW (cc := bytes) (maxL := maxL) (ret := some ty) hy rfl ?_
  intro p e s m args below meth c s₁ B hml hv
  obtain ⟨rfl, hsz, hP, hK, hD0⟩ := hv
  have hx := B.exec
  have hb := B.bytes
  have hr := B.returns
  have hts := atoms_spec (ws := Cond.code y bytes maxL (some ty) :: wsL_law) B.pre
  have hown : s.vm.findClass C = some m.cls := hC ▸ findClass_of_methodNamed B.named
  have hlocks := B.notSynchronized
  subst hsz
  have hD := hD0.self (sz := s.heap.size)
  have hl := lv_entry av (n := maxL) hav
  rw [lg_entry_eq]
  refine body (p, l, e, (headSpec (Cond.code y bytes maxL (some ty) :: wsL_law) rm).room, s, m, av.toArray, below, meth, c, MQ below (va_Qi (fun (r : Int32) (u : T) => ∃ ρ : Int, r = iI ρ ∧ post ρ u) (zB Z ws s.heap.size w') (va_A ws s.heap.size)) av.toArray s rm.cells rm.slots (va_A ws s.heap.size), Z, va_A ws s.heap.size, s.heap) ⟨rfl, rfl, hx, hb, hml, hown, fun w h => hts w (List.mem_cons_of_mem _ h), hK, fun q h => Or.inr h⟩ ?_ s.heap [] _ hP hD va_S.rf (by rw [hml]; exact hl)
  intro ρ u pc lv k n hd hn hp hk hns H locs ls hP hD hS hl
  refine W.widen hk hns ?_
  exact W.zret hx hb hr (hnar ρ hn) (fun t ht hW => ⟨⟨iI ρ, u, rfl, ⟨ρ, rfl, hp⟩, by rw [ht]; exact hP, va_K.moved hW.alike hK, hD⟩, hS.F ht⟩) hS.2.2 hd
theorem zN_of {T : Type} {l : Launch} {y : MethodName} {C : String} {bytes : ByteArray} {maxL : Nat} {rm : Room} {Z : zZ} {av : List Value} {ws : va_W} {w' : T → va_W} {post : T → Prop} (hy : plainName y.cls = true) (hC : y.cls = C) (hav : (lg_sl av).length ≤ maxL)
    (body : ∀ X : zX, zOK X Z rm bytes C maxL → (∀ (u : T) (pc : Nat) (lv : List (Nat × Value)) (k n : Nat), decode bytes pc = .ok (.return_, 1) → post u → k ≤ rm.cells → n ≤ rm.slots → zV X k n (w' u) pc lv []) → zV X 0 0 ws 0 (lv_args 0 av) []) : zN l y (Cond.code y bytes maxL none :: wsL_law) rm Z av ws w' post := by
  intro sz
  refine Met.ofW (cc := bytes) (maxL := maxL) (ret := none) hy rfl ?_
  intro p e s m args below meth c s₁ B hml hv
  obtain ⟨rfl, hsz, hP, hK, hD0⟩ := hv
  have hx := B.exec
  have hb := B.bytes
  have hr := B.returns
  have hts := atoms_spec (ws := Cond.code y bytes maxL none :: wsL_law) B.pre
  have hown : s.vm.findClass C = some m.cls := hC ▸ findClass_of_methodNamed B.named
  have hlocks := B.notSynchronized
  subst hsz
  have hD := hD0.self (sz := s.heap.size)
  have hl := lv_entry av (n := maxL) hav
  rw [lg_entry_eq]
  refine body (p, l, e, (headSpec (Cond.code y bytes maxL none :: wsL_law) rm).room, s, m, av.toArray, below, meth, c, MQ below (va_Qv post (zB Z ws s.heap.size w') (va_A ws s.heap.size)) av.toArray s rm.cells rm.slots (va_A ws s.heap.size), Z, va_A ws s.heap.size, s.heap) ⟨rfl, rfl, hx, hb, hml, hown, fun w h => hts w (List.mem_cons_of_mem _ h), hK, fun q h => Or.inr h⟩ ?_ s.heap [] _ hP hD va_S.rf (by rw [hml]; exact hl)
  intro u pc lv k n hd hp hk hns H locs ls hP hD hS hl
  refine W.widen hk hns ?_
  exact W.vret hx hb hr (fun t ht hW => ⟨⟨u, rfl, hp, by rw [ht]; exact hP, va_K.moved hW.alike hK, hD⟩, hS.F ht⟩) hS.2.2 hd
