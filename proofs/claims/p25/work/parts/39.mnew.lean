/-! constructors -/
def zIN (X : zX) : Prop := match X with | (_, _, _, _, _, _, _, _, meth, _, _, _, _, _) => meth.name = "<init>"
section ZK
variable {X : zX} {Z : zZ} {R : Room} {cc : ByteArray} {own : String} {nL : Nat} {k n : Nat} {ws ws' : va_W} {pc : Nat} {lv : List (Nat × Value)} {st : List Value}
theorem z_objInit (ok : zOK X Z R cc own nL) {idx a : Nat} (h1 : Cond.methodLink own idx Lib.objectInit ∈ wsL_law) (h2 : Cond.instanceMethod Lib.objectInit ∈ wsL_law) (h3 : Cond.code Lib.objectInit ⟨#[0xb1]⟩ 1 none ∈ wsL_law) (d : decode cc pc = .ok (.invokespecial idx, 3)) (hf : 1 ≤ R.frames) (hlo : (st.map fun v => v.category).sum + 12 ≤ R.locals) (h : zV X k n ws (pc + 3) lv st) : zV X k n ws pc lv (.ref a :: st) := by
  obtain ⟨p, l, e0, R, s, m, args, below, meth, c, Q, Z, A, H0⟩ := X
  obtain ⟨rfl, rfl, hx, hb, hml, ho, hts, hK, hA⟩ := ok
  intro H locs ls hP hD hS hl
  refine W.objInit hx hb ho (hts _ h1) (hts _ h2) (hts _ h3) rfl hl.1 rfl d hf (by show 2 * 0 + _ + 12 ≤ _; omega) ?_
  exact W.eq (g2 := F0 m (pc + 3) ls st) rfl (h H locs ls hP hD hS hl)
theorem z_putF (ok : zOK X Z R cc own nL) (hin : zIN X) {ci N : Nat} {C : String} {T : u_T} {ty : Nat → FieldType} (hc : zCl ci C T N ty) (q0 : Nat) {b idx : Nat} {ref : String} {fs : List Value} (he : ws[q0]? = some (b, .inr (ci, fs))) (f : Nat) (hf : f < N) (hl : Cond.fieldLink own idx ref (T f).2.1 (T f).2.2.1 ∈ wsL_law) (hr : (T f).1 = ref) (hfin : (T f).2.2.2 = true) (hdc : (T f).1 = own) {v : Value} (hn : narrow (ty f) v = v) (hfit : fits (ty f) v = true) (hlen : f < fs.length) (d : decode cc pc = .ok (.putfield idx, 3)) (hw : ws.set q0 (b, .inr (ci, fs.set f v)) = ws') (h : zV X k n ws' (pc + 3) lv st) : zV X k n ws pc lv (v :: .ref b :: st) := by
  obtain ⟨p, l, e', R, s, m, args, below, meth, c, Q, Z, A, H0⟩ := X
  obtain ⟨rfl, rfl, hx, hb, hml, ho, hts, hK, hA⟩ := ok
  obtain ⟨hc1, hc2, hc3, hc4⟩ := hc
  intro H locs ls hP hD hS hlv
  refine va_putF hx hb hts hc2 ty hc3 hc4 ho hK hP hD hS q0 he hc1 f hf (hts _ hl) (fun _ h9 => by rw [← hr]; exact h9) hfin hin hdc (hc3 f hf) hn hfit hlen d (fun H1 locs1 hP hD hS => ?_)
  subst hw
  exact h H1 locs1 ls hP hD hS hlv
theorem z_newai (ok : zOK X Z R cc own nL) {nn : Int} (N : Nat) (hat : Cond.arrayClass .int ∈ wsL_law) (d : decode cc pc = .ok (.newarray .int, 2)) (hN : nn = (N : Int)) (hsz : N ≤ 100000) (hc : k + 1 ≤ R.cells) (hs : n + N ≤ R.slots) (hw : ∀ q : Nat, ws ++ [(q, .inl (Z.2.1, N, .inl (fun _ : Nat => iI 0)))] = ws ++ [(q, .inl (Z.2.1, N, .inl (fun _ : Nat => iI 0)))]) (h : ∀ q : Nat, zV X (k + 1) (n + N) (ws ++ [(q, .inl (Z.2.1, N, .inl (fun _ : Nat => iI 0)))]) (pc + 2) lv (.ref q :: st)) : zV X k n ws pc lv (.int (iI nn) :: st) := by
  obtain ⟨p, l, e', R, s, m, args, below, meth, c, Q, Z, A, H0⟩ := X
  obtain ⟨rfl, rfl, hx, hb, hml, ho, hts, hK, hA⟩ := ok
  intro H locs ls hP hD hS hlv
  refine va_newa (atype := .int) (ty := .int) (N' := N) (a0 := (N, .inl (fun _ : Nat => iI 0))) hx hb (hts _ hat) rfl hK hP hD hS hA (fun cA => rfl) ?_ ?_ ?_ hc hs d (fun q cA H1 hK1 hP1 hD1 hS1 => ?_)
  · rw [hN, ← iI_nI]; exact nI_pos (by omega)
  · rw [hN, iI_cl ⟨by omega, by omega⟩]; omega
  · show N * _ ≤ 536870912
    have : componentBytes .int ≤ 8 := by decide
    exact Nat.le_trans (Nat.mul_le_mul hsz this) (by decide)
  · have e1 : s.vm.findClass ("[" ++ (FieldType.int).toString) = some cA := (hK1.2 4 (cA, .int) rfl).2
    have e2 : s.vm.findClass ("[" ++ (FieldType.int).toString) = some Z.2.1 := (hK.2 0 (Z.2.1, .int) rfl).2
    have e : cA = Z.2.1 := Option.some.inj (e1.symm.trans e2)
    subst e
    exact h q H1 locs ls hP1 hD1 hS1 hlv
theorem z_newaz (ok : zOK X Z R cc own nL) {nn : Int} (N : Nat) (hat : Cond.arrayClass .boolean ∈ wsL_law) (d : decode cc pc = .ok (.newarray .boolean, 2)) (hN : nn = (N : Int)) (hsz : N ≤ 100000) (hc : k + 1 ≤ R.cells) (hs : n + N ≤ R.slots) (hw : ∀ q : Nat, ws ++ [(q, .inl (Z.2.2.1, N, .inl (fun _ : Nat => iI 0)))] = ws ++ [(q, .inl (Z.2.2.1, N, .inl (fun _ : Nat => iI 0)))]) (h : ∀ q : Nat, zV X (k + 1) (n + N) (ws ++ [(q, .inl (Z.2.2.1, N, .inl (fun _ : Nat => iI 0)))]) (pc + 2) lv (.ref q :: st)) : zV X k n ws pc lv (.int (iI nn) :: st) := by
  obtain ⟨p, l, e', R, s, m, args, below, meth, c, Q, Z, A, H0⟩ := X
  obtain ⟨rfl, rfl, hx, hb, hml, ho, hts, hK, hA⟩ := ok
  intro H locs ls hP hD hS hlv
  refine va_newa (atype := .boolean) (ty := .boolean) (N' := N) (a0 := (N, .inl (fun _ : Nat => iI 0))) hx hb (hts _ hat) rfl hK hP hD hS hA (fun cA => rfl) ?_ ?_ ?_ hc hs d (fun q cA H1 hK1 hP1 hD1 hS1 => ?_)
  · rw [hN, ← iI_nI]; exact nI_pos (by omega)
  · rw [hN, iI_cl ⟨by omega, by omega⟩]; omega
  · show N * _ ≤ 536870912
    have : componentBytes .boolean ≤ 8 := by decide
    exact Nat.le_trans (Nat.mul_le_mul hsz this) (by decide)
  · have e1 : s.vm.findClass ("[" ++ (FieldType.boolean).toString) = some cA := (hK1.2 4 (cA, .boolean) rfl).2
    have e2 : s.vm.findClass ("[" ++ (FieldType.boolean).toString) = some Z.2.2.1 := (hK.2 1 (Z.2.2.1, .boolean) rfl).2
    have e : cA = Z.2.2.1 := Option.some.inj (e1.symm.trans e2)
    subst e
    exact h q H1 locs ls hP1 hD1 hS1 hlv
theorem z_newac (ok : zOK X Z R cc own nL) {nn : Int} (N : Nat) (hat : Cond.arrayClass .char ∈ wsL_law) (d : decode cc pc = .ok (.newarray .char, 2)) (hN : nn = (N : Int)) (hsz : N ≤ 100000) (hc : k + 1 ≤ R.cells) (hs : n + N ≤ R.slots) (hw : ∀ q : Nat, ws ++ [(q, .inl (Z.2.2.2.1, N, .inl (fun _ : Nat => iI 0)))] = ws ++ [(q, .inl (Z.2.2.2.1, N, .inl (fun _ : Nat => iI 0)))]) (h : ∀ q : Nat, zV X (k + 1) (n + N) (ws ++ [(q, .inl (Z.2.2.2.1, N, .inl (fun _ : Nat => iI 0)))]) (pc + 2) lv (.ref q :: st)) : zV X k n ws pc lv (.int (iI nn) :: st) := by
  obtain ⟨p, l, e', R, s, m, args, below, meth, c, Q, Z, A, H0⟩ := X
  obtain ⟨rfl, rfl, hx, hb, hml, ho, hts, hK, hA⟩ := ok
  intro H locs ls hP hD hS hlv
  refine va_newa (atype := .char) (ty := .char) (N' := N) (a0 := (N, .inl (fun _ : Nat => iI 0))) hx hb (hts _ hat) rfl hK hP hD hS hA (fun cA => rfl) ?_ ?_ ?_ hc hs d (fun q cA H1 hK1 hP1 hD1 hS1 => ?_)
  · rw [hN, ← iI_nI]; exact nI_pos (by omega)
  · rw [hN, iI_cl ⟨by omega, by omega⟩]; omega
  · show N * _ ≤ 536870912
    have : componentBytes .char ≤ 8 := by decide
    exact Nat.le_trans (Nat.mul_le_mul hsz this) (by decide)
  · have e1 : s.vm.findClass ("[" ++ (FieldType.char).toString) = some cA := (hK1.2 4 (cA, .char) rfl).2
    have e2 : s.vm.findClass ("[" ++ (FieldType.char).toString) = some Z.2.2.2.1 := (hK.2 2 (Z.2.2.2.1, .char) rfl).2
    have e : cA = Z.2.2.2.1 := Option.some.inj (e1.symm.trans e2)
    subst e
    exact h q H1 locs ls hP1 hD1 hS1 hlv
end ZK
/-- the first row of numbers -/
def inN : Int → Int := zu (zu (zu (zu (fun _ => 0) 0 1) 2 1) 4 4) 5 4
