/-! rows of the law -/
def xI (xs : Nat → Int32) (e : Int) : Int := (xs e.toNat).toInt
theorem xI_rng (xs : Nat → Int32) (e : Int) : -2147483648 ≤ xI xs e ∧ xI xs e < 2147483648 := by
  have h1 := Int32.le_toInt (xs e.toNat)
  have h2 := Int32.toInt_lt (xs e.toNat)
  unfold xI
  exact ⟨by simpa using h1, by simpa using h2⟩
theorem xI_v (xs : Nat → Int32) (e : Int) : xs e.toNat = iI (xI xs e) := by
  unfold xI iI
  exact (Int32.ofInt_toInt _).symm
theorem iL_n64 (x : Int64) : x = iL (n64 x : Int) := by
  apply Int64.toBitVec_inj.mp
  apply BitVec.eq_of_toNat_eq
  rw [show (iL (n64 x : Int)).toBitVec = BitVec.ofInt 64 (n64 x : Int) from rfl, BitVec.toNat_ofInt]
  have h := n64_lt x
  show n64 x = _
  omega
theorem n64_rng (x : Int64) : 0 ≤ (n64 x : Int) ∧ (n64 x : Int) < 18446744073709551616 := by
  have h := n64_lt x
  omega
def zSC (X : zX) (b L : Nat) (xs : Nat → Int32) : Prop := match X with | (_, _, _, _, s, _, _, _, _, _, _, _, A, H0) => va_X b L xs s H0 ∧ b < H0.size ∧ ¬ A b ∧ L ≤ 2048
section ZL2
variable {X : zX} {Z : zZ} {R : Room} {cc : ByteArray} {own : String} {nL : Nat} {k n : Nat} {ws ws' : va_W} {pc : Nat} {lv : List (Nat × Value)} {st : List Value} {bs L : Nat} {xs : Nat → Int32}
theorem z_sld (ok : zOK X Z R cc own nL) (hsc : zSC X bs L xs) {e : Int} (d : decode cc pc = .ok (.iaload, 1)) (hi : 0 ≤ e ∧ e < (L : Int)) (h : zV X k n ws (pc + 1) lv (.int (iI (xI xs e)) :: st)) : zV X k n ws pc lv (.int (iI e) :: .ref bs :: st) := by
  obtain ⟨p, l, e', R, s, m, args, below, meth, c, Q, Z, A, H0⟩ := X
  obtain ⟨rfl, rfl, hx, hb, hml, ho, hts, hK, hA⟩ := ok
  obtain ⟨hX, hbl, hbA, hL⟩ := hsc
  intro H locs ls hP hD hS hlv
  refine va_sld hx hb hX hbl hbA hS (iI_in hi (by omega)) d ?_
  rw [iI_cl ⟨hi.1, by omega⟩, xI_v xs e]
  exact h H locs ls hP hD hS hlv
theorem z_slen (ok : zOK X Z R cc own nL) (hsc : zSC X bs L xs) (d : decode cc pc = .ok (.arraylength, 1)) (h : zV X k n ws (pc + 1) lv (.int (iI (L : Int)) :: st)) : zV X k n ws pc lv (.ref bs :: st) := by
  obtain ⟨p, l, e', R, s, m, args, below, meth, c, Q, Z, A, H0⟩ := X
  obtain ⟨rfl, rfl, hx, hb, hml, ho, hts, hK, hA⟩ := ok
  obtain ⟨hX, hbl, hbA, hL⟩ := hsc
  intro H locs ls hP hD hS hlv
  exact va_slen hx hb hX hbl hbA hS d (h H locs ls hP hD hS hlv)
theorem z_icmp_same (ok : zOK X Z R cc own nL) {v : Int32} {off : Int} {tgt : Nat} (d : decode cc pc = .ok (.if_icmp .eq off, 3)) (ht : (pc : Int) + off = (tgt : Int)) (kt : zV X k n ws tgt lv st) : zV X k n ws pc lv (.int v :: .int v :: st) := by
  obtain ⟨p, l, e0, R, s, m, args, below, meth, c, Q, Z, A, H0⟩ := X
  obtain ⟨rfl, rfl, hx, hb', hml, ho, hts, hK, hA⟩ := ok
  intro H locs ls hP hD hS hl
  exact lv_icmp_eq hx hb' d ht (fun c => kt H locs ls hP hD hS hl) (fun c => absurd rfl c)
theorem z_i2l (ok : zOK X Z R cc own nL) {x : Int32} {v : Int64} (d : decode cc pc = .ok (.i2l, 1)) (hv : x.toInt64 = v) (h : zV X k n ws (pc + 1) lv (.long v :: st)) : zV X k n ws pc lv (.int x :: st) := by
  obtain ⟨p, l, e', R, s, m, args, below, meth, c, Q, Z, A, H0⟩ := X
  obtain ⟨rfl, rfl, hx, hb, hml, ho, hts, hK, hA⟩ := ok
  intro H locs ls hP hD hS hl
  exact lv_i2l hx hb d hv (h H locs ls hP hD hS hl)
theorem z_callKI (ok : zOK X Z R cc own nL) (hnx : zNX X) {T : Type} {y : MethodName} {C : String} {bytes : ByteArray} {maxL idx b : Nat} {rm : Room} {rest : List Value} {wc wr : va_W} {w' : T → va_W} {post : T → Prop} (ct : ∀ l, zK l y (Cond.code y bytes maxL none :: wsL_law) rm Z [.ref b] wc w' post) (hm : zMT y C bytes maxL none 0) (hyi : y.name = "<init>") (hv : Cond.instanceMethod y ∈ wsL_law) (hlk : Cond.methodLink own idx y ∈ wsL_law) (d : decode cc pc = .ok (.invokespecial idx, 3)) (hR : rm.frames + 1 ≤ R.frames ∧ 8 + (maxL + 11) + rm.locals ≤ R.locals) (hc : k + rm.cells ≤ R.cells ∧ n + rm.slots ≤ R.slots) (hW : (rest.map fun v => v.category).sum ≤ 8) (hp : ws.Perm (wc ++ wr)) (h : ∀ (u : T), post u → zV X (k + rm.cells) (n + rm.slots) (w' u ++ wr) (pc + 3) lv rest) : zV X k n ws pc lv (.ref b :: rest) := by
  obtain ⟨p, l, e', R, s, m, args, below, meth, c, Q, Z, A, H0⟩ := X
  obtain ⟨rfl, rfl, hx, hb, hml, ho, hts, hK, hA⟩ := ok
  intro H locs ls hP hD hS hlv
  have hP := zP_perm hp hP
  have hD := zD_perm hp hD
  have hF := zfree hD hS hA
  refine va_callv (va_runI (As := []) (rest := rest) (n := 0) ⟨hx, hb, hml, ho, hts⟩ (ct l H.size) ⟨zcallB hts hm hlk hR, hyi, hts _ hv⟩ ⟨zblindK, zbeforeK hnx hK hP hD⟩ rfl rfl (by show ls.size = nL; rw [hlv.1, hml]) rfl (lv_room hW) d hc) hS (fun q _ h => hF q h) hF ?_
  intro u t H1 locs1 ht hvm hpost ⟨hP1, hK1, hD1⟩ hz hk hS1
  rw [ht] at hP1
  obtain ⟨hP2, hD2⟩ := zjoin hP hD hk hF hP1 hD1
  exact h u hpost H1 locs1 ls hP2 hD2 hS1 hlv
theorem z_callNI (ok : zOK X Z R cc own nL) {T : Type} {y : MethodName} {C : String} {bytes : ByteArray} {maxL idx b : Nat} {rm : Room} {rest : List Value} {wc wr : va_W} {w' : T → va_W} {post : T → Prop} (ct : ∀ l, zN l y (Cond.code y bytes maxL none :: wsL_law) rm Z [.ref b] wc w' post) (hm : zMT y C bytes maxL none 0) (hyi : y.name = "<init>") (hv : Cond.instanceMethod y ∈ wsL_law) (hlk : Cond.methodLink own idx y ∈ wsL_law) (d : decode cc pc = .ok (.invokespecial idx, 3)) (hR : rm.frames + 1 ≤ R.frames ∧ 8 + (maxL + 11) + rm.locals ≤ R.locals) (hc : k + rm.cells ≤ R.cells ∧ n + rm.slots ≤ R.slots) (hW : (rest.map fun v => v.category).sum ≤ 8) (hp : ws.Perm (wc ++ wr)) (h : ∀ (u : T), post u → zV X (k + rm.cells) (n + rm.slots) (w' u ++ wr) (pc + 3) lv rest) : zV X k n ws pc lv (.ref b :: rest) := by
  obtain ⟨p, l, e', R, s, m, args, below, meth, c, Q, Z, A, H0⟩ := X
  obtain ⟨rfl, rfl, hx, hb, hml, ho, hts, hK, hA⟩ := ok
  intro H locs ls hP hD hS hlv
  have hP := zP_perm hp hP
  have hD := zD_perm hp hD
  have hF := zfree hD hS hA
  refine va_callv (va_runI (As := []) (rest := rest) (n := 0) ⟨hx, hb, hml, ho, hts⟩ (ct l H.size) ⟨zcallB hts hm hlk hR, hyi, hts _ hv⟩ ⟨zblind, zbefore hK hP hD⟩ rfl rfl (by show ls.size = nL; rw [hlv.1, hml]) rfl (lv_room hW) d hc) hS (fun q _ h => hF q h) hF ?_
  intro u t H1 locs1 ht hvm hpost ⟨hP1, hK1, hD1⟩ hz hk hS1
  rw [ht] at hP1
  obtain ⟨hP2, hD2⟩ := zjoin hP hD hk hF hP1 hD1
  exact h u hpost H1 locs1 ls hP2 hD2 hS1 hlv
theorem z_widen (ok : zOK X Z R cc own nL) {k' n' : Nat} (hk : k ≤ k') (hn : n ≤ n') (h : zV X k' n' ws pc lv st) : zV X k n ws pc lv st := by
  obtain ⟨p, l, e', R, s, m, args, below, meth, c, Q, Z, A, H0⟩ := X
  intro H locs ls hP hD hS hl
  exact W.widen hk hn (h H locs ls hP hD hS hl)
end ZL2
theorem zm_X7_init : zMT yX7_init RX7 cX7_init 1 none 0 := ⟨qc_X7_init, qn_RX7, rfl, by decide +kernel, by decide +kernel, by decide +kernel⟩
/-- the long of two ints -/
def lw64 (v w : Int) : Int64 := ((iI v).toInt64 <<< ((iI 32).toInt64 &&& 63)) ||| ((iI w).toInt64 &&& iL 4294967295)
