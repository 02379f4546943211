/-! constructors -/
def zIN (X : zX) : Prop := match X with | (_, _, _, _, _, _, _, _, meth, _, _, _, _, _) => meth.name = "<init>"
section ZK
variable {X : zX} {Z : zZ} {R : Room} {cc : ByteArray} {own : String} {nL : Nat} {k n : Nat} {ws ws' : va_W} {pc : Nat} {lv : List (Nat × Value)} {st : List Value}
theorem z_objInit (ok : zOK X Z R cc own nL) {idx a : Nat} (h1 : Cond.methodLink own idx Lib.objectInit ∈ wsL_law) (h2 : Cond.instanceMethod Lib.objectInit ∈ wsL_law) (h3 : Cond.code Lib.objectInit ⟨#[0xb1]⟩ 1 none ∈ wsL_law) (d : decode cc pc = .ok (.invokespecial idx, 3)) (hf : 1 ≤ R.frames) (hlo : (st.map fun v => v.category).sum + 12 ≤ R.locals) (h : zV X k n ws (pc + 3) lv st) : zV X k n ws pc lv (.ref a :: st) := by
  obtain ⟨p, l, e0, R, s, m, args, below, meth, c, Q, Z, A, H0⟩ := X
  obtain ⟨rfl, rfl, hx, hb, hml, ho, hts, hK, hA⟩ := ok
  intro H locs ls hP hD hS hl
  refine W.objInit hx hb ho (hts _ h1) (hts _ h2) (hts _ h3) rfl hl.1 rfl d hf (by show 2 * 0 + _ + 12 ≤ _; omega) ?_
  exact W.eq (g2 := F0 m (pc + 3) ls st) rfl (h H locs ls hP hD hS hl)
theorem z_putF (ok : zOK X Z R cc own nL) (hin : zIN X) {ci N : Nat} {C : String} {T : u_T} {ty : Nat → FieldType} (hc : zCl ci C T N ty) (q0 : Nat) {b idx : Nat} {ref : String} {fs : List Value} (he : ws[q0]? = some (b, .inr (ci, fs))) (f : Nat) (hf : f < N) (hl : Cond.fieldLink own idx ref (T f).2.1 (T f).2.2.1 ∈ wsL_law) (hr : (T f).1 = ref) (hfin : (T f).2.2.2 = true) (hdc : (T f).1 = own) {v : Value} (hn : narrow (ty f) v = v) (hfit : fits (ty f) v = true) (hlen : f < fs.length) (d : decode cc pc = .ok (.putfield idx, 3)) (hw : ws.set q0 (b, .inr (ci, fs.set f v)) = ws') (h : zV X k n ws' (pc + 3) lv st) : zV X k n ws pc lv (v :: .ref b :: st) := by
  obtain ⟨p, l, e', R, s, m, args, below, meth, c, Q, Z, A, H0⟩ := X
  obtain ⟨rfl, rfl, hx, hb, hml, ho, hts, hK, hA⟩ := ok
  obtain ⟨hc1, hc2, hc3, hc4⟩ := hc
  intro H locs ls hP hD hS hlv
  refine va_putF hx hb hts hc2 ty hc3 hc4 ho hK hP hD hS q0 he hc1 f hf (hts _ hl) (fun _ h9 => by rw [← hr]; exact h9) hfin hin hdc (hc3 f hf) hn hfit hlen d (fun H1 locs1 hP hD hS => ?_)
  subst hw
  exact h H1 locs1 ls hP hD hS hlv
theorem z_newai (ok : zOK X Z R cc own nL) {nn : Int} (N : Nat) (hat : Cond.arrayClass .int ∈ wsL_law) (d : decode cc pc = .ok (.newarray .int, 2)) (hN : nn = (N : Int)) (hsz : N ≤ 100000) (hc : k + 1 ≤ R.cells) (hs : n + N ≤ R.slots) (hw : ∀ q : Nat, ws ++ [(q, .inl (Z.2.1, N, .inl (fun _ : Nat => iI 0)))] = ws ++ [(q, .inl (Z.2.1, N, .inl (fun _ : Nat => iI 0)))]) (h : ∀ q : Nat, zV X (k + 1) (n + N) (ws ++ [(q, .inl (Z.2.1, N, .inl (fun _ : Nat => iI 0)))]) (pc + 2) lv (.ref q :: st)) : zV X k n ws pc lv (.int (iI nn) :: st) := by
  obtain ⟨p, l, e', R, s, m, args, below, meth, c, Q, Z, A, H0⟩ := X
  obtain ⟨rfl, rfl, hx, hb, hml, ho, hts, hK, hA⟩ := ok
  intro H locs ls hP hD hS hlv
  refine va_newa (atype := .int) (ty := .int) (N' := N) (a0 := (N, .inl (fun _ : Nat => iI 0))) hx hb (hts _ hat) rfl hK hP hD hS hA (fun cA => rfl) ?_ ?_ ?_ hc hs d (fun q cA H1 hK1 hP1 hD1 hS1 => ?_)
  · rw [hN, ← iI_nI]; exact nI_pos (by omega)
  · rw [hN, iI_cl ⟨by omega, by omega⟩]; omega
  · show N * _ ≤ 536870912
    have : componentBytes .int ≤ 8 := by decide
    exact Nat.le_trans (Nat.mul_le_mul hsz this) (by decide)
  · have e1 : s.vm.findClass ("[" ++ (FieldType.int).toString) = some cA := (hK1.2 4 (cA, .int) rfl).2
    have e2 : s.vm.findClass ("[" ++ (FieldType.int).toString) = some Z.2.1 := (hK.2 0 (Z.2.1, .int) rfl).2
    have e : cA = Z.2.1 := Option.some.inj (e1.symm.trans e2)
    subst e
    exact h q H1 locs ls hP1 hD1 hS1 hlv
theorem z_newaz (ok : zOK X Z R cc own nL) {nn : Int} (N : Nat) (hat : Cond.arrayClass .boolean ∈ wsL_law) (d : decode cc pc = .ok (.newarray .boolean, 2)) (hN : nn = (N : Int)) (hsz : N ≤ 100000) (hc : k + 1 ≤ R.cells) (hs : n + N ≤ R.slots) (hw : ∀ q : Nat, ws ++ [(q, .inl (Z.2.2.1, N, .inl (fun _ : Nat => iI 0)))] = ws ++ [(q, .inl (Z.2.2.1, N, .inl (fun _ : Nat => iI 0)))]) (h : ∀ q : Nat, zV X (k + 1) (n + N) (ws ++ [(q, .inl (Z.2.2.1, N, .inl (fun _ : Nat => iI 0)))]) (pc + 2) lv (.ref q :: st)) : zV X k n ws pc lv (.int (iI nn) :: st) := by
  obtain ⟨p, l, e', R, s, m, args, below, meth, c, Q, Z, A, H0⟩ := X
  obtain ⟨rfl, rfl, hx, hb, hml, ho, hts, hK, hA⟩ := ok
  intro H locs ls hP hD hS hlv
  refine va_newa (atype := .boolean) (ty := .boolean) (N' := N) (a0 := (N, .inl (fun _ : Nat => iI 0))) hx hb (hts _ hat) rfl hK hP hD hS hA (fun cA => rfl) ?_ ?_ ?_ hc hs d (fun q cA H1 hK1 hP1 hD1 hS1 => ?_)
  · rw [hN, ← iI_nI]; exact nI_pos (by omega)
  · rw [hN, iI_cl ⟨by omega, by omega⟩]; omega
  · show N * _ ≤ 536870912
    have : componentBytes .boolean ≤ 8 := by decide
    exact Nat.le_trans (Nat.mul_le_mul hsz this) (by decide)
  · have e1 : s.vm.findClass ("[" ++ (FieldType.boolean).toString) = some cA := (hK1.2 4 (cA, .boolean) rfl).2
    have e2 : s.vm.findClass ("[" ++ (FieldType.boolean).toString) = some Z.2.2.1 := (hK.2 1 (Z.2.2.1, .boolean) rfl).2
    have e : cA = Z.2.2.1 := Option.some.inj (e1.symm.trans e2)
    subst e
    exact h q H1 locs ls hP1 hD1 hS1 hlv
theorem z_newac (ok : zOK X Z R cc own nL) {nn : Int} (N : Nat) (hat : Cond.arrayClass .char ∈ wsL_law) (d : decode cc pc = .ok (.newarray .char, 2)) (hN : nn = (N : Int)) (hsz : N ≤ 100000) (hc : k + 1 ≤ R.cells) (hs : n + N ≤ R.slots) (hw : ∀ q : Nat, ws ++ [(q, .inl (Z.2.2.2.1, N, .inl (fun _ : Nat => iI 0)))] = ws ++ [(q, .inl (Z.2.2.2.1, N, .inl (fun _ : Nat => iI 0)))]) (h : ∀ q : Nat, zV X (k + 1) (n + N) (ws ++ [(q, .inl (Z.2.2.2.1, N, .inl (fun _ : Nat => iI 0)))]) (pc + 2) lv (.ref q :: st)) : zV X k n ws pc lv (.int (iI nn) :: st) := by
  obtain ⟨p, l, e', R, s, m, args, below, meth, c, Q, Z, A, H0⟩ := X
  obtain ⟨rfl, rfl, hx, hb, hml, ho, hts, hK, hA⟩ := ok
  intro H locs ls hP hD hS hlv
  refine va_newa (atype := .char) (ty := .char) (N' := N) (a0 := (N, .inl (fun _ : Nat => iI 0))) hx hb (hts _ hat) rfl hK hP hD hS hA (fun cA => rfl) ?_ ?_ ?_ hc hs d (fun q cA H1 hK1 hP1 hD1 hS1 => ?_)
  · rw [hN, ← iI_nI]; exact nI_pos (by omega)
  · rw [hN, iI_cl ⟨by omega, by omega⟩]; omega
  · show N * _ ≤ 536870912
    have : componentBytes .char ≤ 8 := by decide
    exact Nat.le_trans (Nat.mul_le_mul hsz this) (by decide)
  · have e1 : s.vm.findClass ("[" ++ (FieldType.char).toString) = some cA := (hK1.2 4 (cA, .char) rfl).2
    have e2 : s.vm.findClass ("[" ++ (FieldType.char).toString) = some Z.2.2.2.1 := (hK.2 2 (Z.2.2.2.1, .char) rfl).2
    have e : cA = Z.2.2.2.1 := Option.some.inj (e1.symm.trans e2)
    subst e
    exact h q H1 locs ls hP1 hD1 hS1 hlv
end ZK
theorem zK_of {T : Type} {l : Launch} {y : MethodName} {C : String} {bytes : ByteArray} {maxL : Nat} {rm : Room} {Z : zZ} {av : List Value} {ws : va_W} {w' : T → va_W} {post : T → Prop} (hy : plainName y.cls = true) (hC : y.cls = C) (hnm : y.name = "<init>") (hav : (lg_sl av).length ≤ maxL)
    (body : ∀ X : zX, zOK X Z rm bytes C maxL → zIN X → (∀ (u : T) (pc : Nat) (lv : List (Nat × Value)) (k n : Nat), decode bytes pc = .ok (.return_, 1) → post u → k ≤ rm.cells → n ≤ rm.slots → zV X k n (w' u) pc lv []) → zV X 0 0 ws 0 (lv_args 0 av) []) : zN l y (Cond.code y bytes maxL none :: wsL_law) rm Z av ws w' post := by
  intro sz
  refine Met.ofW (cc := bytes) (maxL := maxL) (ret := none) hy rfl ?_
  intro p e s m args below meth c s₁ B hml hv
  obtain ⟨rfl, hsz, hP, hK, hD0⟩ := hv
  have hx := B.exec
  have hb := B.bytes
  have hr := B.returns
  have hts := atoms_spec (ws := Cond.code y bytes maxL none :: wsL_law) B.pre
  have hown : s.vm.findClass C = some m.cls := hC ▸ findClass_of_methodNamed B.named
  have hlocks := B.notSynchronized
  have hin : meth.name = "<init>" := by rw [← hnm]; exact (name_of_methodNamed B.named B.method).1
  subst hsz
  have hD := hD0.self (sz := s.heap.size)
  have hl := lv_entry av (n := maxL) hav
  rw [lg_entry_eq]
  refine body (p, l, e, (headSpec (Cond.code y bytes maxL none :: wsL_law) rm).room, s, m, av.toArray, below, meth, c, MQ below (va_Qv post (zB Z ws s.heap.size w') (va_A ws s.heap.size)) av.toArray s rm.cells rm.slots (va_A ws s.heap.size), Z, va_A ws s.heap.size, s.heap) ⟨rfl, rfl, hx, hb, hml, hown, fun w h => hts w (List.mem_cons_of_mem _ h), hK, fun q h => Or.inr h⟩ hin ?_ s.heap [] _ hP hD va_S.rf (by rw [hml]; exact hl)
  intro u pc lv k n hd hp hk hns H locs ls hP hD hS hl
  refine W.widen hk hns ?_
  exact W.vret hx hb hr (fun t ht hW => ⟨⟨u, rfl, hp, by rw [ht]; exact hP, va_K.moved hW.alike hK, hD⟩, hS.F ht⟩) hS.2.2 hd
/-- the first row of numbers -/
def inN : Int → Int := zu (zu (zu (zu (fun _ => 0) 0 1) 2 1) 4 4) 5 4
set_option maxHeartbeats 4000000 in
set_option maxRecDepth 20000 in
theorem c_X7_init {l : Launch} {Z : zZ} {o : Nat} : zN (T := Nat → Nat) l yX7_init (Cond.code yX7_init cX7_init 1 none :: wsL_law) ({ frames := 1, cells := 12, slots := 18491, locals := 20 } : Room) Z [.ref o] [(o, .inr (7, [.null, .null, .null, .int (iI 0), .null, .null, .null, .int (iI 0), .int (iI 0), .null, .null, .null, .null, .null, .null, .int (iI 0), .int (iI 0), .int (iI 0)]))] (fun q => mW Z q inN (fun _ => 0) (fun _ => 0) 0 (fun _ => 0) (fun _ => 0) (fun _ => 0) 0 0 (fun _ => 0) (fun _ => 0) (fun _ => 0) (fun _ => 0) (fun _ => 0) (fun _ => 0) 0 0 0) (fun q => q 0 = o) := by
  refine zK_of (C := RX7) (by decide +kernel) rfl rfl (Nat.le_of_ble_eq_true rfl) (fun X ok hin fin => ?_)
  refine z_lsub ok (lv' := [(0, .ref o)]) [0] rfl ?_
  refine z_aload_n ok dX7_init_0 rfl ?_
  refine z_objInit ok qm_RX7_1 qi_objectInit qc_objectInit dX7_init_1 (by decide) (Nat.le_of_ble_eq_true rfl) ?_
  refine z_aload_n ok dX7_init_4 rfl ?_
  refine z_sipush ok dX7_init_5 (by decide) ?_
  refine z_newai ok 560 qa__int dX7_init_8 rfl (by decide) (by decide) (by decide) (fun _ => rfl) (fun qnow => ?_)
  refine z_eq (ws' := [(o, .inr (7, [.null, .null, .null, .int (iI 0), .null, .null, .null, .int (iI 0), .int (iI 0), .null, .null, .null, .null, .null, .null, .int (iI 0), .int (iI 0), .int (iI 0)])), (qnow, .inl (Z.2.1, 560, .inl (fun _ : Nat => iI 0)))]) rfl ?_
  refine z_putF (ws' := [(o, .inr (7, [.ref qnow, .null, .null, .int (iI 0), .null, .null, .null, .int (iI 0), .int (iI 0), .null, .null, .null, .null, .null, .null, .int (iI 0), .int (iI 0), .int (iI 0)])), (qnow, .inl (Z.2.1, 560, .inl (fun _ : Nat => iI 0)))]) ok hin zc7 0 rfl 0 (by decide) qf_RX7_7 rfl rfl rfl rfl rfl (Nat.le_of_ble_eq_true rfl) dX7_init_10 rfl ?_
  refine z_aload_n ok dX7_init_13 rfl ?_
  refine z_sipush ok dX7_init_14 (by decide) ?_
  refine z_newai ok 560 qa__int dX7_init_17 rfl (by decide) (by decide) (by decide) (fun _ => rfl) (fun qkept => ?_)
  refine z_eq (ws' := [(o, .inr (7, [.ref qnow, .null, .null, .int (iI 0), .null, .null, .null, .int (iI 0), .int (iI 0), .null, .null, .null, .null, .null, .null, .int (iI 0), .int (iI 0), .int (iI 0)])), (qnow, .inl (Z.2.1, 560, .inl (fun _ : Nat => iI 0))), (qkept, .inl (Z.2.1, 560, .inl (fun _ : Nat => iI 0)))]) rfl ?_
  refine z_putF (ws' := [(o, .inr (7, [.ref qnow, .ref qkept, .null, .int (iI 0), .null, .null, .null, .int (iI 0), .int (iI 0), .null, .null, .null, .null, .null, .null, .int (iI 0), .int (iI 0), .int (iI 0)])), (qnow, .inl (Z.2.1, 560, .inl (fun _ : Nat => iI 0))), (qkept, .inl (Z.2.1, 560, .inl (fun _ : Nat => iI 0)))]) ok hin zc7 0 rfl 1 (by decide) qf_RX7_13 rfl rfl rfl rfl rfl (Nat.le_of_ble_eq_true rfl) dX7_init_19 rfl ?_
  refine z_aload_n ok dX7_init_22 rfl ?_
  refine z_sipush ok dX7_init_23 (by decide) ?_
  refine z_newai ok 3360 qa__int dX7_init_26 rfl (by decide) (by decide) (by decide) (fun _ => rfl) (fun qhist => ?_)
  refine z_eq (ws' := [(o, .inr (7, [.ref qnow, .ref qkept, .null, .int (iI 0), .null, .null, .null, .int (iI 0), .int (iI 0), .null, .null, .null, .null, .null, .null, .int (iI 0), .int (iI 0), .int (iI 0)])), (qnow, .inl (Z.2.1, 560, .inl (fun _ : Nat => iI 0))), (qkept, .inl (Z.2.1, 560, .inl (fun _ : Nat => iI 0))), (qhist, .inl (Z.2.1, 3360, .inl (fun _ : Nat => iI 0)))]) rfl ?_
  refine z_putF (ws' := [(o, .inr (7, [.ref qnow, .ref qkept, .ref qhist, .int (iI 0), .null, .null, .null, .int (iI 0), .int (iI 0), .null, .null, .null, .null, .null, .null, .int (iI 0), .int (iI 0), .int (iI 0)])), (qnow, .inl (Z.2.1, 560, .inl (fun _ : Nat => iI 0))), (qkept, .inl (Z.2.1, 560, .inl (fun _ : Nat => iI 0))), (qhist, .inl (Z.2.1, 3360, .inl (fun _ : Nat => iI 0)))]) ok hin zc7 0 rfl 2 (by decide) qf_RX7_16 rfl rfl rfl rfl rfl (Nat.le_of_ble_eq_true rfl) dX7_init_28 rfl ?_
  refine z_aload_n ok dX7_init_31 rfl ?_
  refine z_sipush ok dX7_init_32 (by decide) ?_
  refine z_newai ok 1120 qa__int dX7_init_35 rfl (by decide) (by decide) (by decide) (fun _ => rfl) (fun qsav => ?_)
  refine z_eq (ws' := [(o, .inr (7, [.ref qnow, .ref qkept, .ref qhist, .int (iI 0), .null, .null, .null, .int (iI 0), .int (iI 0), .null, .null, .null, .null, .null, .null, .int (iI 0), .int (iI 0), .int (iI 0)])), (qnow, .inl (Z.2.1, 560, .inl (fun _ : Nat => iI 0))), (qkept, .inl (Z.2.1, 560, .inl (fun _ : Nat => iI 0))), (qhist, .inl (Z.2.1, 3360, .inl (fun _ : Nat => iI 0))), (qsav, .inl (Z.2.1, 1120, .inl (fun _ : Nat => iI 0)))]) rfl ?_
  refine z_putF (ws' := [(o, .inr (7, [.ref qnow, .ref qkept, .ref qhist, .int (iI 0), .ref qsav, .null, .null, .int (iI 0), .int (iI 0), .null, .null, .null, .null, .null, .null, .int (iI 0), .int (iI 0), .int (iI 0)])), (qnow, .inl (Z.2.1, 560, .inl (fun _ : Nat => iI 0))), (qkept, .inl (Z.2.1, 560, .inl (fun _ : Nat => iI 0))), (qhist, .inl (Z.2.1, 3360, .inl (fun _ : Nat => iI 0))), (qsav, .inl (Z.2.1, 1120, .inl (fun _ : Nat => iI 0)))]) ok hin zc7 0 rfl 4 (by decide) qf_RX7_19 rfl rfl rfl rfl rfl (Nat.le_of_ble_eq_true rfl) dX7_init_37 rfl ?_
  refine z_aload_n ok dX7_init_40 rfl ?_
  refine z_iconst ok dX7_init_41 ?_
  refine z_newaz ok 2 qa__boolean dX7_init_42 rfl (by decide) (by decide) (by decide) (fun _ => rfl) (fun qisv => ?_)
  refine z_eq (ws' := [(o, .inr (7, [.ref qnow, .ref qkept, .ref qhist, .int (iI 0), .ref qsav, .null, .null, .int (iI 0), .int (iI 0), .null, .null, .null, .null, .null, .null, .int (iI 0), .int (iI 0), .int (iI 0)])), (qnow, .inl (Z.2.1, 560, .inl (fun _ : Nat => iI 0))), (qkept, .inl (Z.2.1, 560, .inl (fun _ : Nat => iI 0))), (qhist, .inl (Z.2.1, 3360, .inl (fun _ : Nat => iI 0))), (qsav, .inl (Z.2.1, 1120, .inl (fun _ : Nat => iI 0))), (qisv, .inl (Z.2.2.1, 2, .inl (fun _ : Nat => iI 0)))]) rfl ?_
  refine z_putF (ws' := [(o, .inr (7, [.ref qnow, .ref qkept, .ref qhist, .int (iI 0), .ref qsav, .ref qisv, .null, .int (iI 0), .int (iI 0), .null, .null, .null, .null, .null, .null, .int (iI 0), .int (iI 0), .int (iI 0)])), (qnow, .inl (Z.2.1, 560, .inl (fun _ : Nat => iI 0))), (qkept, .inl (Z.2.1, 560, .inl (fun _ : Nat => iI 0))), (qhist, .inl (Z.2.1, 3360, .inl (fun _ : Nat => iI 0))), (qsav, .inl (Z.2.1, 1120, .inl (fun _ : Nat => iI 0))), (qisv, .inl (Z.2.2.1, 2, .inl (fun _ : Nat => iI 0)))]) ok hin zc7 0 rfl 5 (by decide) qf_RX7_22 rfl rfl rfl rfl rfl (Nat.le_of_ble_eq_true rfl) dX7_init_44 rfl ?_
  refine z_aload_n ok dX7_init_47 rfl ?_
  refine z_bipush ok dX7_init_48 (by decide) ?_
  refine z_newai ok 80 qa__int dX7_init_50 rfl (by decide) (by decide) (by decide) (fun _ => rfl) (fun qpad => ?_)
  refine z_eq (ws' := [(o, .inr (7, [.ref qnow, .ref qkept, .ref qhist, .int (iI 0), .ref qsav, .ref qisv, .null, .int (iI 0), .int (iI 0), .null, .null, .null, .null, .null, .null, .int (iI 0), .int (iI 0), .int (iI 0)])), (qnow, .inl (Z.2.1, 560, .inl (fun _ : Nat => iI 0))), (qkept, .inl (Z.2.1, 560, .inl (fun _ : Nat => iI 0))), (qhist, .inl (Z.2.1, 3360, .inl (fun _ : Nat => iI 0))), (qsav, .inl (Z.2.1, 1120, .inl (fun _ : Nat => iI 0))), (qisv, .inl (Z.2.2.1, 2, .inl (fun _ : Nat => iI 0))), (qpad, .inl (Z.2.1, 80, .inl (fun _ : Nat => iI 0)))]) rfl ?_
  refine z_putF (ws' := [(o, .inr (7, [.ref qnow, .ref qkept, .ref qhist, .int (iI 0), .ref qsav, .ref qisv, .ref qpad, .int (iI 0), .int (iI 0), .null, .null, .null, .null, .null, .null, .int (iI 0), .int (iI 0), .int (iI 0)])), (qnow, .inl (Z.2.1, 560, .inl (fun _ : Nat => iI 0))), (qkept, .inl (Z.2.1, 560, .inl (fun _ : Nat => iI 0))), (qhist, .inl (Z.2.1, 3360, .inl (fun _ : Nat => iI 0))), (qsav, .inl (Z.2.1, 1120, .inl (fun _ : Nat => iI 0))), (qisv, .inl (Z.2.2.1, 2, .inl (fun _ : Nat => iI 0))), (qpad, .inl (Z.2.1, 80, .inl (fun _ : Nat => iI 0)))]) ok hin zc7 0 rfl 6 (by decide) qf_RX7_26 rfl rfl rfl rfl rfl (Nat.le_of_ble_eq_true rfl) dX7_init_52 rfl ?_
  refine z_aload_n ok dX7_init_55 rfl ?_
  refine z_sipush ok dX7_init_56 (by decide) ?_
  refine z_newai ok 6250 qa__int dX7_init_59 rfl (by decide) (by decide) (by decide) (fun _ => rfl) (fun qfar => ?_)
  refine z_eq (ws' := [(o, .inr (7, [.ref qnow, .ref qkept, .ref qhist, .int (iI 0), .ref qsav, .ref qisv, .ref qpad, .int (iI 0), .int (iI 0), .null, .null, .null, .null, .null, .null, .int (iI 0), .int (iI 0), .int (iI 0)])), (qnow, .inl (Z.2.1, 560, .inl (fun _ : Nat => iI 0))), (qkept, .inl (Z.2.1, 560, .inl (fun _ : Nat => iI 0))), (qhist, .inl (Z.2.1, 3360, .inl (fun _ : Nat => iI 0))), (qsav, .inl (Z.2.1, 1120, .inl (fun _ : Nat => iI 0))), (qisv, .inl (Z.2.2.1, 2, .inl (fun _ : Nat => iI 0))), (qpad, .inl (Z.2.1, 80, .inl (fun _ : Nat => iI 0))), (qfar, .inl (Z.2.1, 6250, .inl (fun _ : Nat => iI 0)))]) rfl ?_
  refine z_putF (ws' := [(o, .inr (7, [.ref qnow, .ref qkept, .ref qhist, .int (iI 0), .ref qsav, .ref qisv, .ref qpad, .int (iI 0), .int (iI 0), .ref qfar, .null, .null, .null, .null, .null, .int (iI 0), .int (iI 0), .int (iI 0)])), (qnow, .inl (Z.2.1, 560, .inl (fun _ : Nat => iI 0))), (qkept, .inl (Z.2.1, 560, .inl (fun _ : Nat => iI 0))), (qhist, .inl (Z.2.1, 3360, .inl (fun _ : Nat => iI 0))), (qsav, .inl (Z.2.1, 1120, .inl (fun _ : Nat => iI 0))), (qisv, .inl (Z.2.2.1, 2, .inl (fun _ : Nat => iI 0))), (qpad, .inl (Z.2.1, 80, .inl (fun _ : Nat => iI 0))), (qfar, .inl (Z.2.1, 6250, .inl (fun _ : Nat => iI 0)))]) ok hin zc7 0 rfl 9 (by decide) qf_RX7_29 rfl rfl rfl rfl rfl (Nat.le_of_ble_eq_true rfl) dX7_init_61 rfl ?_
  refine z_aload_n ok dX7_init_64 rfl ?_
  refine z_sipush ok dX7_init_65 (by decide) ?_
  refine z_newai ok 6250 qa__int dX7_init_68 rfl (by decide) (by decide) (by decide) (fun _ => rfl) (fun qmany => ?_)
  refine z_eq (ws' := [(o, .inr (7, [.ref qnow, .ref qkept, .ref qhist, .int (iI 0), .ref qsav, .ref qisv, .ref qpad, .int (iI 0), .int (iI 0), .ref qfar, .null, .null, .null, .null, .null, .int (iI 0), .int (iI 0), .int (iI 0)])), (qnow, .inl (Z.2.1, 560, .inl (fun _ : Nat => iI 0))), (qkept, .inl (Z.2.1, 560, .inl (fun _ : Nat => iI 0))), (qhist, .inl (Z.2.1, 3360, .inl (fun _ : Nat => iI 0))), (qsav, .inl (Z.2.1, 1120, .inl (fun _ : Nat => iI 0))), (qisv, .inl (Z.2.2.1, 2, .inl (fun _ : Nat => iI 0))), (qpad, .inl (Z.2.1, 80, .inl (fun _ : Nat => iI 0))), (qfar, .inl (Z.2.1, 6250, .inl (fun _ : Nat => iI 0))), (qmany, .inl (Z.2.1, 6250, .inl (fun _ : Nat => iI 0)))]) rfl ?_
  refine z_putF (ws' := [(o, .inr (7, [.ref qnow, .ref qkept, .ref qhist, .int (iI 0), .ref qsav, .ref qisv, .ref qpad, .int (iI 0), .int (iI 0), .ref qfar, .ref qmany, .null, .null, .null, .null, .int (iI 0), .int (iI 0), .int (iI 0)])), (qnow, .inl (Z.2.1, 560, .inl (fun _ : Nat => iI 0))), (qkept, .inl (Z.2.1, 560, .inl (fun _ : Nat => iI 0))), (qhist, .inl (Z.2.1, 3360, .inl (fun _ : Nat => iI 0))), (qsav, .inl (Z.2.1, 1120, .inl (fun _ : Nat => iI 0))), (qisv, .inl (Z.2.2.1, 2, .inl (fun _ : Nat => iI 0))), (qpad, .inl (Z.2.1, 80, .inl (fun _ : Nat => iI 0))), (qfar, .inl (Z.2.1, 6250, .inl (fun _ : Nat => iI 0))), (qmany, .inl (Z.2.1, 6250, .inl (fun _ : Nat => iI 0)))]) ok hin zc7 0 rfl 10 (by decide) qf_RX7_32 rfl rfl rfl rfl rfl (Nat.le_of_ble_eq_true rfl) dX7_init_70 rfl ?_
  refine z_aload_n ok dX7_init_73 rfl ?_
  refine z_bipush ok dX7_init_74 (by decide) ?_
  refine z_newaz ok 25 qa__boolean dX7_init_76 rfl (by decide) (by decide) (by decide) (fun _ => rfl) (fun qlaid => ?_)
  refine z_eq (ws' := [(o, .inr (7, [.ref qnow, .ref qkept, .ref qhist, .int (iI 0), .ref qsav, .ref qisv, .ref qpad, .int (iI 0), .int (iI 0), .ref qfar, .ref qmany, .null, .null, .null, .null, .int (iI 0), .int (iI 0), .int (iI 0)])), (qnow, .inl (Z.2.1, 560, .inl (fun _ : Nat => iI 0))), (qkept, .inl (Z.2.1, 560, .inl (fun _ : Nat => iI 0))), (qhist, .inl (Z.2.1, 3360, .inl (fun _ : Nat => iI 0))), (qsav, .inl (Z.2.1, 1120, .inl (fun _ : Nat => iI 0))), (qisv, .inl (Z.2.2.1, 2, .inl (fun _ : Nat => iI 0))), (qpad, .inl (Z.2.1, 80, .inl (fun _ : Nat => iI 0))), (qfar, .inl (Z.2.1, 6250, .inl (fun _ : Nat => iI 0))), (qmany, .inl (Z.2.1, 6250, .inl (fun _ : Nat => iI 0))), (qlaid, .inl (Z.2.2.1, 25, .inl (fun _ : Nat => iI 0)))]) rfl ?_
  refine z_putF (ws' := [(o, .inr (7, [.ref qnow, .ref qkept, .ref qhist, .int (iI 0), .ref qsav, .ref qisv, .ref qpad, .int (iI 0), .int (iI 0), .ref qfar, .ref qmany, .ref qlaid, .null, .null, .null, .int (iI 0), .int (iI 0), .int (iI 0)])), (qnow, .inl (Z.2.1, 560, .inl (fun _ : Nat => iI 0))), (qkept, .inl (Z.2.1, 560, .inl (fun _ : Nat => iI 0))), (qhist, .inl (Z.2.1, 3360, .inl (fun _ : Nat => iI 0))), (qsav, .inl (Z.2.1, 1120, .inl (fun _ : Nat => iI 0))), (qisv, .inl (Z.2.2.1, 2, .inl (fun _ : Nat => iI 0))), (qpad, .inl (Z.2.1, 80, .inl (fun _ : Nat => iI 0))), (qfar, .inl (Z.2.1, 6250, .inl (fun _ : Nat => iI 0))), (qmany, .inl (Z.2.1, 6250, .inl (fun _ : Nat => iI 0))), (qlaid, .inl (Z.2.2.1, 25, .inl (fun _ : Nat => iI 0)))]) ok hin zc7 0 rfl 11 (by decide) qf_RX7_35 rfl rfl rfl rfl rfl (Nat.le_of_ble_eq_true rfl) dX7_init_78 rfl ?_
  refine z_aload_n ok dX7_init_81 rfl ?_
  refine z_iconst ok dX7_init_82 ?_
  refine z_newai ok 4 qa__int dX7_init_83 rfl (by decide) (by decide) (by decide) (fun _ => rfl) (fun qsides => ?_)
  refine z_eq (ws' := [(o, .inr (7, [.ref qnow, .ref qkept, .ref qhist, .int (iI 0), .ref qsav, .ref qisv, .ref qpad, .int (iI 0), .int (iI 0), .ref qfar, .ref qmany, .ref qlaid, .null, .null, .null, .int (iI 0), .int (iI 0), .int (iI 0)])), (qnow, .inl (Z.2.1, 560, .inl (fun _ : Nat => iI 0))), (qkept, .inl (Z.2.1, 560, .inl (fun _ : Nat => iI 0))), (qhist, .inl (Z.2.1, 3360, .inl (fun _ : Nat => iI 0))), (qsav, .inl (Z.2.1, 1120, .inl (fun _ : Nat => iI 0))), (qisv, .inl (Z.2.2.1, 2, .inl (fun _ : Nat => iI 0))), (qpad, .inl (Z.2.1, 80, .inl (fun _ : Nat => iI 0))), (qfar, .inl (Z.2.1, 6250, .inl (fun _ : Nat => iI 0))), (qmany, .inl (Z.2.1, 6250, .inl (fun _ : Nat => iI 0))), (qlaid, .inl (Z.2.2.1, 25, .inl (fun _ : Nat => iI 0))), (qsides, .inl (Z.2.1, 4, .inl (fun _ : Nat => iI 0)))]) rfl ?_
  refine z_putF (ws' := [(o, .inr (7, [.ref qnow, .ref qkept, .ref qhist, .int (iI 0), .ref qsav, .ref qisv, .ref qpad, .int (iI 0), .int (iI 0), .ref qfar, .ref qmany, .ref qlaid, .ref qsides, .null, .null, .int (iI 0), .int (iI 0), .int (iI 0)])), (qnow, .inl (Z.2.1, 560, .inl (fun _ : Nat => iI 0))), (qkept, .inl (Z.2.1, 560, .inl (fun _ : Nat => iI 0))), (qhist, .inl (Z.2.1, 3360, .inl (fun _ : Nat => iI 0))), (qsav, .inl (Z.2.1, 1120, .inl (fun _ : Nat => iI 0))), (qisv, .inl (Z.2.2.1, 2, .inl (fun _ : Nat => iI 0))), (qpad, .inl (Z.2.1, 80, .inl (fun _ : Nat => iI 0))), (qfar, .inl (Z.2.1, 6250, .inl (fun _ : Nat => iI 0))), (qmany, .inl (Z.2.1, 6250, .inl (fun _ : Nat => iI 0))), (qlaid, .inl (Z.2.2.1, 25, .inl (fun _ : Nat => iI 0))), (qsides, .inl (Z.2.1, 4, .inl (fun _ : Nat => iI 0)))]) ok hin zc7 0 rfl 12 (by decide) qf_RX7_38 rfl rfl rfl rfl rfl (Nat.le_of_ble_eq_true rfl) dX7_init_85 rfl ?_
  refine z_aload_n ok dX7_init_88 rfl ?_
  refine z_bipush ok dX7_init_89 (by decide) ?_
  refine z_newaz ok 40 qa__boolean dX7_init_91 rfl (by decide) (by decide) (by decide) (fun _ => rfl) (fun qstuck => ?_)
  refine z_eq (ws' := [(o, .inr (7, [.ref qnow, .ref qkept, .ref qhist, .int (iI 0), .ref qsav, .ref qisv, .ref qpad, .int (iI 0), .int (iI 0), .ref qfar, .ref qmany, .ref qlaid, .ref qsides, .null, .null, .int (iI 0), .int (iI 0), .int (iI 0)])), (qnow, .inl (Z.2.1, 560, .inl (fun _ : Nat => iI 0))), (qkept, .inl (Z.2.1, 560, .inl (fun _ : Nat => iI 0))), (qhist, .inl (Z.2.1, 3360, .inl (fun _ : Nat => iI 0))), (qsav, .inl (Z.2.1, 1120, .inl (fun _ : Nat => iI 0))), (qisv, .inl (Z.2.2.1, 2, .inl (fun _ : Nat => iI 0))), (qpad, .inl (Z.2.1, 80, .inl (fun _ : Nat => iI 0))), (qfar, .inl (Z.2.1, 6250, .inl (fun _ : Nat => iI 0))), (qmany, .inl (Z.2.1, 6250, .inl (fun _ : Nat => iI 0))), (qlaid, .inl (Z.2.2.1, 25, .inl (fun _ : Nat => iI 0))), (qsides, .inl (Z.2.1, 4, .inl (fun _ : Nat => iI 0))), (qstuck, .inl (Z.2.2.1, 40, .inl (fun _ : Nat => iI 0)))]) rfl ?_
  refine z_putF (ws' := [(o, .inr (7, [.ref qnow, .ref qkept, .ref qhist, .int (iI 0), .ref qsav, .ref qisv, .ref qpad, .int (iI 0), .int (iI 0), .ref qfar, .ref qmany, .ref qlaid, .ref qsides, .ref qstuck, .null, .int (iI 0), .int (iI 0), .int (iI 0)])), (qnow, .inl (Z.2.1, 560, .inl (fun _ : Nat => iI 0))), (qkept, .inl (Z.2.1, 560, .inl (fun _ : Nat => iI 0))), (qhist, .inl (Z.2.1, 3360, .inl (fun _ : Nat => iI 0))), (qsav, .inl (Z.2.1, 1120, .inl (fun _ : Nat => iI 0))), (qisv, .inl (Z.2.2.1, 2, .inl (fun _ : Nat => iI 0))), (qpad, .inl (Z.2.1, 80, .inl (fun _ : Nat => iI 0))), (qfar, .inl (Z.2.1, 6250, .inl (fun _ : Nat => iI 0))), (qmany, .inl (Z.2.1, 6250, .inl (fun _ : Nat => iI 0))), (qlaid, .inl (Z.2.2.1, 25, .inl (fun _ : Nat => iI 0))), (qsides, .inl (Z.2.1, 4, .inl (fun _ : Nat => iI 0))), (qstuck, .inl (Z.2.2.1, 40, .inl (fun _ : Nat => iI 0)))]) ok hin zc7 0 rfl 13 (by decide) qf_RX7_41 rfl rfl rfl rfl rfl (Nat.le_of_ble_eq_true rfl) dX7_init_93 rfl ?_
  refine z_aload_n ok dX7_init_96 rfl ?_
  refine z_sipush ok dX7_init_97 (by decide) ?_
  refine z_newai ok 240 qa__int dX7_init_100 rfl (by decide) (by decide) (by decide) (fun _ => rfl) (fun qord => ?_)
  refine z_eq (ws' := [(o, .inr (7, [.ref qnow, .ref qkept, .ref qhist, .int (iI 0), .ref qsav, .ref qisv, .ref qpad, .int (iI 0), .int (iI 0), .ref qfar, .ref qmany, .ref qlaid, .ref qsides, .ref qstuck, .null, .int (iI 0), .int (iI 0), .int (iI 0)])), (qnow, .inl (Z.2.1, 560, .inl (fun _ : Nat => iI 0))), (qkept, .inl (Z.2.1, 560, .inl (fun _ : Nat => iI 0))), (qhist, .inl (Z.2.1, 3360, .inl (fun _ : Nat => iI 0))), (qsav, .inl (Z.2.1, 1120, .inl (fun _ : Nat => iI 0))), (qisv, .inl (Z.2.2.1, 2, .inl (fun _ : Nat => iI 0))), (qpad, .inl (Z.2.1, 80, .inl (fun _ : Nat => iI 0))), (qfar, .inl (Z.2.1, 6250, .inl (fun _ : Nat => iI 0))), (qmany, .inl (Z.2.1, 6250, .inl (fun _ : Nat => iI 0))), (qlaid, .inl (Z.2.2.1, 25, .inl (fun _ : Nat => iI 0))), (qsides, .inl (Z.2.1, 4, .inl (fun _ : Nat => iI 0))), (qstuck, .inl (Z.2.2.1, 40, .inl (fun _ : Nat => iI 0))), (qord, .inl (Z.2.1, 240, .inl (fun _ : Nat => iI 0)))]) rfl ?_
  refine z_putF (ws' := [(o, .inr (7, [.ref qnow, .ref qkept, .ref qhist, .int (iI 0), .ref qsav, .ref qisv, .ref qpad, .int (iI 0), .int (iI 0), .ref qfar, .ref qmany, .ref qlaid, .ref qsides, .ref qstuck, .ref qord, .int (iI 0), .int (iI 0), .int (iI 0)])), (qnow, .inl (Z.2.1, 560, .inl (fun _ : Nat => iI 0))), (qkept, .inl (Z.2.1, 560, .inl (fun _ : Nat => iI 0))), (qhist, .inl (Z.2.1, 3360, .inl (fun _ : Nat => iI 0))), (qsav, .inl (Z.2.1, 1120, .inl (fun _ : Nat => iI 0))), (qisv, .inl (Z.2.2.1, 2, .inl (fun _ : Nat => iI 0))), (qpad, .inl (Z.2.1, 80, .inl (fun _ : Nat => iI 0))), (qfar, .inl (Z.2.1, 6250, .inl (fun _ : Nat => iI 0))), (qmany, .inl (Z.2.1, 6250, .inl (fun _ : Nat => iI 0))), (qlaid, .inl (Z.2.2.1, 25, .inl (fun _ : Nat => iI 0))), (qsides, .inl (Z.2.1, 4, .inl (fun _ : Nat => iI 0))), (qstuck, .inl (Z.2.2.1, 40, .inl (fun _ : Nat => iI 0))), (qord, .inl (Z.2.1, 240, .inl (fun _ : Nat => iI 0)))]) ok hin zc7 0 rfl 14 (by decide) qf_RX7_44 rfl rfl rfl rfl rfl (Nat.le_of_ble_eq_true rfl) dX7_init_102 rfl ?_
  refine z_aload_n ok dX7_init_105 rfl ?_
  refine z_get (v := .ref qnow) ok zc7 0 rfl 0 (by decide) qf_RX7_7 rfl rfl dX7_init_106 ?_
  refine z_iconst ok dX7_init_109 ?_
  refine z_iconst ok dX7_init_110 ?_
  refine z_iast (f := (fun _ : Int => (0 : Int))) (v := 1) (ws' := [(o, .inr (7, [.ref qnow, .ref qkept, .ref qhist, .int (iI 0), .ref qsav, .ref qisv, .ref qpad, .int (iI 0), .int (iI 0), .ref qfar, .ref qmany, .ref qlaid, .ref qsides, .ref qstuck, .ref qord, .int (iI 0), .int (iI 0), .int (iI 0)])), (qnow, .inl (Z.2.1, 560, .inl (fun j : Nat => iI ((zu (fun _ : Int => (0 : Int)) 0 1) (j : Int))))), (qkept, .inl (Z.2.1, 560, .inl (fun _ : Nat => iI 0))), (qhist, .inl (Z.2.1, 3360, .inl (fun _ : Nat => iI 0))), (qsav, .inl (Z.2.1, 1120, .inl (fun _ : Nat => iI 0))), (qisv, .inl (Z.2.2.1, 2, .inl (fun _ : Nat => iI 0))), (qpad, .inl (Z.2.1, 80, .inl (fun _ : Nat => iI 0))), (qfar, .inl (Z.2.1, 6250, .inl (fun _ : Nat => iI 0))), (qmany, .inl (Z.2.1, 6250, .inl (fun _ : Nat => iI 0))), (qlaid, .inl (Z.2.2.1, 25, .inl (fun _ : Nat => iI 0))), (qsides, .inl (Z.2.1, 4, .inl (fun _ : Nat => iI 0))), (qstuck, .inl (Z.2.2.1, 40, .inl (fun _ : Nat => iI 0))), (qord, .inl (Z.2.1, 240, .inl (fun _ : Nat => iI 0)))]) ok 1 rfl dX7_init_111 (by omega) (by decide) rfl ?_
  refine z_aload_n ok dX7_init_112 rfl ?_
  refine z_get (v := .ref qnow) ok zc7 0 rfl 0 (by decide) qf_RX7_7 rfl rfl dX7_init_113 ?_
  refine z_iconst ok dX7_init_116 ?_
  refine z_iconst ok dX7_init_117 ?_
  refine z_iast (f := (zu (fun _ : Int => (0 : Int)) 0 1)) (v := 1) (ws' := [(o, .inr (7, [.ref qnow, .ref qkept, .ref qhist, .int (iI 0), .ref qsav, .ref qisv, .ref qpad, .int (iI 0), .int (iI 0), .ref qfar, .ref qmany, .ref qlaid, .ref qsides, .ref qstuck, .ref qord, .int (iI 0), .int (iI 0), .int (iI 0)])), (qnow, .inl (Z.2.1, 560, .inl (fun j : Nat => iI ((zu (zu (fun _ : Int => (0 : Int)) 0 1) 2 1) (j : Int))))), (qkept, .inl (Z.2.1, 560, .inl (fun _ : Nat => iI 0))), (qhist, .inl (Z.2.1, 3360, .inl (fun _ : Nat => iI 0))), (qsav, .inl (Z.2.1, 1120, .inl (fun _ : Nat => iI 0))), (qisv, .inl (Z.2.2.1, 2, .inl (fun _ : Nat => iI 0))), (qpad, .inl (Z.2.1, 80, .inl (fun _ : Nat => iI 0))), (qfar, .inl (Z.2.1, 6250, .inl (fun _ : Nat => iI 0))), (qmany, .inl (Z.2.1, 6250, .inl (fun _ : Nat => iI 0))), (qlaid, .inl (Z.2.2.1, 25, .inl (fun _ : Nat => iI 0))), (qsides, .inl (Z.2.1, 4, .inl (fun _ : Nat => iI 0))), (qstuck, .inl (Z.2.2.1, 40, .inl (fun _ : Nat => iI 0))), (qord, .inl (Z.2.1, 240, .inl (fun _ : Nat => iI 0)))]) ok 1 rfl dX7_init_118 (by omega) (by decide) rfl ?_
  refine z_aload_n ok dX7_init_119 rfl ?_
  refine z_get (v := .ref qnow) ok zc7 0 rfl 0 (by decide) qf_RX7_7 rfl rfl dX7_init_120 ?_
  refine z_iconst ok dX7_init_123 ?_
  refine z_iconst ok dX7_init_124 ?_
  refine z_iast (f := (zu (zu (fun _ : Int => (0 : Int)) 0 1) 2 1)) (v := 4) (ws' := [(o, .inr (7, [.ref qnow, .ref qkept, .ref qhist, .int (iI 0), .ref qsav, .ref qisv, .ref qpad, .int (iI 0), .int (iI 0), .ref qfar, .ref qmany, .ref qlaid, .ref qsides, .ref qstuck, .ref qord, .int (iI 0), .int (iI 0), .int (iI 0)])), (qnow, .inl (Z.2.1, 560, .inl (fun j : Nat => iI ((zu (zu (zu (fun _ : Int => (0 : Int)) 0 1) 2 1) 4 4) (j : Int))))), (qkept, .inl (Z.2.1, 560, .inl (fun _ : Nat => iI 0))), (qhist, .inl (Z.2.1, 3360, .inl (fun _ : Nat => iI 0))), (qsav, .inl (Z.2.1, 1120, .inl (fun _ : Nat => iI 0))), (qisv, .inl (Z.2.2.1, 2, .inl (fun _ : Nat => iI 0))), (qpad, .inl (Z.2.1, 80, .inl (fun _ : Nat => iI 0))), (qfar, .inl (Z.2.1, 6250, .inl (fun _ : Nat => iI 0))), (qmany, .inl (Z.2.1, 6250, .inl (fun _ : Nat => iI 0))), (qlaid, .inl (Z.2.2.1, 25, .inl (fun _ : Nat => iI 0))), (qsides, .inl (Z.2.1, 4, .inl (fun _ : Nat => iI 0))), (qstuck, .inl (Z.2.2.1, 40, .inl (fun _ : Nat => iI 0))), (qord, .inl (Z.2.1, 240, .inl (fun _ : Nat => iI 0)))]) ok 1 rfl dX7_init_125 (by omega) (by decide) rfl ?_
  refine z_aload_n ok dX7_init_126 rfl ?_
  refine z_get (v := .ref qnow) ok zc7 0 rfl 0 (by decide) qf_RX7_7 rfl rfl dX7_init_127 ?_
  refine z_iconst ok dX7_init_130 ?_
  refine z_iconst ok dX7_init_131 ?_
  refine z_iast (f := (zu (zu (zu (fun _ : Int => (0 : Int)) 0 1) 2 1) 4 4)) (v := 4) (ws' := [(o, .inr (7, [.ref qnow, .ref qkept, .ref qhist, .int (iI 0), .ref qsav, .ref qisv, .ref qpad, .int (iI 0), .int (iI 0), .ref qfar, .ref qmany, .ref qlaid, .ref qsides, .ref qstuck, .ref qord, .int (iI 0), .int (iI 0), .int (iI 0)])), (qnow, .inl (Z.2.1, 560, .inl (fun j : Nat => iI ((zu (zu (zu (zu (fun _ : Int => (0 : Int)) 0 1) 2 1) 4 4) 5 4) (j : Int))))), (qkept, .inl (Z.2.1, 560, .inl (fun _ : Nat => iI 0))), (qhist, .inl (Z.2.1, 3360, .inl (fun _ : Nat => iI 0))), (qsav, .inl (Z.2.1, 1120, .inl (fun _ : Nat => iI 0))), (qisv, .inl (Z.2.2.1, 2, .inl (fun _ : Nat => iI 0))), (qpad, .inl (Z.2.1, 80, .inl (fun _ : Nat => iI 0))), (qfar, .inl (Z.2.1, 6250, .inl (fun _ : Nat => iI 0))), (qmany, .inl (Z.2.1, 6250, .inl (fun _ : Nat => iI 0))), (qlaid, .inl (Z.2.2.1, 25, .inl (fun _ : Nat => iI 0))), (qsides, .inl (Z.2.1, 4, .inl (fun _ : Nat => iI 0))), (qstuck, .inl (Z.2.2.1, 40, .inl (fun _ : Nat => iI 0))), (qord, .inl (Z.2.1, 240, .inl (fun _ : Nat => iI 0)))]) ok 1 rfl dX7_init_132 (by omega) (by decide) rfl ?_
  exact fin (fun i => [o, qnow, qkept, qhist, qsav, qisv, qpad, qfar, qmany, qlaid, qsides, qstuck, qord].getD i 0) 133 _ _ _ dX7_init_133 rfl (by decide) (by decide)
