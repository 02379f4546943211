/-! private constructors of nest mates -/
def zNW (U : State) : Prop := va_Nw (.methodLinkNest RX6 11 yX5_init RX6) U ∧ va_Nw (.methodLinkNest RX6 18 yX4_init RX6) U ∧ va_Nw (.methodLinkNest RX6 31 yX1_init RX6) U ∧ va_Nw (.methodLinkNest RX6 38 yX3_init RX6) U ∧ va_Nw (.methodLinkNest RX5 17 yX0_init RX6) U ∧ va_Nw (.methodLinkNest RX5 24 yX2_init RX6) U ∧ va_AO RX5 U
def zNX (X : zX) : Prop := match X with | (_, _, _, _, s, _, _, _, _, _, _, _, _, _) => zNW s
theorem zNW.same {u U : State} (h : u.vm = U.vm) (hz : zNW u) : zNW U := by
  obtain ⟨h1, h2, h3, h4, h5, h6, h7⟩ := hz
  exact ⟨h1.same rfl h, h2.same rfl h, h3.same rfl h, h4.same rfl h, h5.same rfl h, h6.same rfl h, h7.moved (by rw [h]; exact Vm.Alike.refl U.vm)⟩
theorem zNW.warm {s U : State} (hW : s.WarmedH U.vm) (hz : zNW s) : zNW U := by
  obtain ⟨h1, h2, h3, h4, h5, h6, h7⟩ := hz
  exact ⟨h1.warmM hW, h2.warmM hW, h3.warmM hW, h4.warmM hW, h5.warmM hW, h6.warmM hW, h7.moved hW.alike⟩
def zPreK (Z : zZ) (av : List Value) (ws : va_W) (sz : Nat) : Array Value → State → Prop := va_Pc av (fun U => U.heap.size = sz ∧ va_P Z.1 vwCl ws U.heap ∧ va_K Z.1 vwCl (zT Z) U ∧ va_D (fun _ => True) ws ∧ zNW U)
def zK {T : Type} (l : Launch) (y : MethodName) (wy : List Cond) (rm : Room) (Z : zZ) (av : List Value) (ws : va_W) (w' : T → va_W) (post : T → Prop) : Prop :=
  ∀ sz : Nat, Met l y wy rm (zPreK Z av ws sz) (va_Qv post (zB Z ws sz w') (va_A ws sz)) rm.cells rm.slots (va_A ws sz)
theorem zblindK {Z : zZ} {av : List Value} {ws : va_W} {sz : Nat} : FrameBlind (zPreK Z av ws sz) := by
  intro a U g mk h
  obtain ⟨h0, h1, h2, h3, h4, h5⟩ := h
  exact ⟨h0, h1, h2, va_K.moved (u := U) (U := U.calling g mk a) (Vm.Alike.refl U.vm) h3, h4, h5.same rfl⟩
theorem zbeforeK {Z : zZ} {A : Nat → Prop} {av : List Value} {wc wr : va_W} {s : State} {H : Heap} (hn : zNW s) (hK : va_K Z.1 vwCl (zT Z) s) (hP : va_P Z.1 vwCl (wc ++ wr) H) (hD : va_D A (wc ++ wr)) : ∀ U : State, U.heap = H → s.WarmedH U.vm → zPreK Z av wc H.size av.toArray U :=
  fun U hU hW => ⟨rfl, by rw [hU], by rw [hU]; exact zPsub hP, va_K.moved hW.alike hK, zDsub hD, hn.warm hW⟩
theorem zKn_of {T : Type} {l : Launch} {y : MethodName} {C : String} {bytes : ByteArray} {maxL : Nat} {rm : Room} {Z : zZ} {av : List Value} {ws : va_W} {w' : T → va_W} {post : T → Prop} (hy : plainName y.cls = true) (hC : y.cls = C) (hnm : y.name = "<init>") (hav : (lg_sl av).length ≤ maxL)
    (body : ∀ X : zX, zOK X Z rm bytes C maxL → zIN X → zNX X → (∀ (u : T) (pc : Nat) (lv : List (Nat × Value)) (k n : Nat), decode bytes pc = .ok (.return_, 1) → post u → k ≤ rm.cells → n ≤ rm.slots → zV X k n (w' u) pc lv []) → zV X 0 0 ws 0 (lv_args 0 av) []) : zK l y (Cond.code y bytes maxL none :: wsL_law) rm Z av ws w' post := by
  intro sz
  refine Met.ofW (cc := bytes) (maxL := maxL) (ret := none) hy rfl ?_
  intro p e s m args below meth c s₁ B hml hv
  obtain ⟨rfl, hsz, hP, hK, hD0, hnw⟩ := hv
  have hx := B.exec
  have hb := B.bytes
  have hr := B.returns
  have hts := atoms_spec (ws := Cond.code y bytes maxL none :: wsL_law) B.pre
  have hown : s.vm.findClass C = some m.cls := hC ▸ findClass_of_methodNamed B.named
  have hlocks := B.notSynchronized
  have hin : meth.name = "<init>" := by rw [← hnm]; exact (name_of_methodNamed B.named B.method).1
  subst hsz
  have hD := hD0.self (sz := s.heap.size)
  have hl := lv_entry av (n := maxL) hav
  rw [lg_entry_eq]
  refine body (p, l, e, (headSpec (Cond.code y bytes maxL none :: wsL_law) rm).room, s, m, av.toArray, below, meth, c, MQ below (va_Qv post (zB Z ws s.heap.size w') (va_A ws s.heap.size)) av.toArray s rm.cells rm.slots (va_A ws s.heap.size), Z, va_A ws s.heap.size, s.heap) ⟨rfl, rfl, hx, hb, hml, hown, fun w h => hts w (List.mem_cons_of_mem _ h), hK, fun q h => Or.inr h⟩ hin hnw ?_ s.heap [] _ hP hD va_S.rf (by rw [hml]; exact hl)
  intro u pc lv k n hd hp hk hns H locs ls hP hD hS hl
  refine W.widen hk hns ?_
  exact W.vret hx hb hr (fun t ht hW => ⟨⟨u, rfl, hp, by rw [ht]; exact hP, va_K.moved hW.alike hK, hD⟩, hS.F ht⟩) hS.2.2 hd
section ZN
variable {X : zX} {Z : zZ} {R : Room} {cc : ByteArray} {own : String} {nL : Nat} {k n : Nat} {ws ws' : va_W} {pc : Nat} {lv : List (Nat × Value)} {st : List Value}
theorem z_callK (ok : zOK X Z R cc own nL) (hnx : zNX X) {T : Type} {y : MethodName} {C host : String} {bytes : ByteArray} {maxL idx b : Nat} {rm : Room} {rest : List Value} {wc wr : va_W} {w' : T → va_W} {post : T → Prop} (ct : ∀ l, zK l y (Cond.code y bytes maxL none :: wsL_law) rm Z [.ref b] wc w' post) (hm : zMT y C bytes maxL none 0) (hyi : y.name = "<init>") (hv : Cond.instanceMethod y ∈ wsL_law) (hlk : ∀ U : State, zNW U → va_Nw (.methodLinkNest own idx y host) U) (d : decode cc pc = .ok (.invokespecial idx, 3)) (hR : rm.frames + 1 ≤ R.frames ∧ 8 + (maxL + 11) + rm.locals ≤ R.locals) (hc : k + rm.cells ≤ R.cells ∧ n + rm.slots ≤ R.slots) (hW : (rest.map fun v => v.category).sum ≤ 8) (hp : ws.Perm (wc ++ wr)) (h : ∀ (u : T), post u → zV X (k + rm.cells) (n + rm.slots) (w' u ++ wr) (pc + 3) lv rest) : zV X k n ws pc lv (.ref b :: rest) := by
  obtain ⟨p, l, e', R, s, m, args, below, meth, c, Q, Z, A, H0⟩ := X
  obtain ⟨rfl, rfl, hx, hb, hml, ho, hts, hK, hA⟩ := ok
  intro H locs ls hP hD hS hlv
  have hP := zP_perm hp hP
  have hD := zD_perm hp hD
  have hF := zfree hD hS hA
  obtain ⟨h1, h2, h3, h4, h5, h6⟩ := hm
  subst h3
  have hG : GoodIn wsL_law (Cond.code y bytes maxL none :: wsL_law) := by
    intro w hw
    have hw : w ∈ wsL_law := by
      rcases List.mem_cons.mp hw with h | h
      · exact h ▸ h1
      · exact h
    exact ⟨hw, good_of_word (List.all_eq_true.mp zG_good w hw)⟩
  refine va_callv (va_runIN (As := []) (rest := rest) (n := 0) ⟨hx, hb, hml, ho, hts⟩ (ct l H.size) ⟨va_cnB 0 hts hG rfl rfl rfl (hlk s hnx) (hts _ h2) ⟨h4, h5, h6⟩ hR, hyi, hts _ hv⟩ ⟨zblindK, zbeforeK hnx hK hP hD⟩ rfl rfl (by show ls.size = nL; rw [hlv.1, hml]) rfl (lv_room hW) d hc) hS (fun q _ h => hF q h) hF ?_
  intro u t H1 locs1 ht hvm hpost ⟨hP1, hK1, hD1⟩ hz hk hS1
  rw [ht] at hP1
  obtain ⟨hP2, hD2⟩ := zjoin hP hD hk hF hP1 hD1
  exact h u hpost H1 locs1 ls hP2 hD2 hS1 hlv
theorem z_new (ok : zOK X Z R cc own nL) {ci N idx : Nat} {C : String} {T : u_T} {ty : Nat → FieldType} (hc : zCl ci C T N ty) (hcl : Cond.classLink own idx C ∈ wsL_law) (hinst : Cond.instantiable C N ∈ wsL_law) (hini : Cond.initialized C ∈ wsL_law) (fs : List Value) (hfs : ∀ j, j < N → defaultValue (ty j) = vp_V fs j) (d : decode cc pc = .ok (.new idx, 3)) (hk : k + 1 ≤ R.cells) (hs : n + N ≤ R.slots) (h : ∀ q : Nat, zV X (k + 1) (n + N) (ws ++ [(q, .inr (ci, fs))]) (pc + 3) lv (.ref q :: st)) : zV X k n ws pc lv st := by
  obtain ⟨p, l, e', R, s, m, args, below, meth, c, Q, Z, A, H0⟩ := X
  obtain ⟨rfl, rfl, hx, hb, hml, ho, hts, hK, hA⟩ := ok
  obtain ⟨hc1, hc2, hc3, hc4⟩ := hc
  intro H locs ls hP hD hS hlv
  exact va_new hx hb hts hc2 ty hc3 ho (hts _ hcl) (hts _ hinst) (hts _ hini) hK hP hD hS hA hc1 hfs hk hs d (fun q H1 hP1 hD1 hS1 => h q H1 locs ls hP1 hD1 hS1 hlv)
theorem z_newq (ok : zOK X Z R cc own nL) (hnx : zNX X) {nn : Int} (N : Nat) {idx : Nat} (hcl : Cond.classLink own idx RX5 ∈ wsL_law) (d : decode cc pc = .ok (.anewarray idx, 3)) (hN : nn = (N : Int)) (hsz : N ≤ 100000) (hk : k + 1 ≤ R.cells) (hs : n + N ≤ R.slots) (h : ∀ q : Nat, zV X (k + 1) (n + N) (ws ++ [(q, .inl (Z.2.2.2.2, N, .inr (.inr (.inr (.inr (fun i : Nat => ([] : List Nat)[i]?))))))]) (pc + 3) lv (.ref q :: st)) : zV X k n ws pc lv (.int (iI nn) :: st) := by
  obtain ⟨p, l, e', R, s, m, args, below, meth, c, Q, Z, A, H0⟩ := X
  obtain ⟨rfl, rfl, hx, hb, hml, ho, hts, hK, hA⟩ := ok
  have hao : va_AO RX5 s := hnx.2.2.2.2.2.2
  intro H locs ls hP hD hS hlv
  refine va_newq (C := RX5) (N' := N) hx hb ho (hts _ hcl) hao hK hP hD hS hA ?_ ?_ (by omega) hk hs d (fun q cA H1 hK1 hP1 hD1 hS1 => ?_)
  · rw [hN, ← iI_nI]; exact nI_pos (by omega)
  · rw [hN, iI_cl ⟨by omega, by omega⟩]; omega
  · obtain ⟨-, k1, c1, -, -, -, e1⟩ := hK1.2 4 (cA, .object RX5) rfl
    obtain ⟨-, k2, c2, -, -, -, e2⟩ := hK.2 3 (Z.2.2.2.2, .object "MeshTurns$State") rfl
    have e : cA = Z.2.2.2.2 := Option.some.inj (e1.symm.trans e2)
    subst e
    have hf : (fun _ : Nat => (none : Option Nat)) = fun i : Nat => ([] : List Nat)[i]? := rfl
    rw [hf] at hP1 hD1
    exact h q H1 locs ls hP1 hD1 hS1 hlv
theorem z_aasta (ok : zOK X Z R cc own nL) (q0 qk ci : Nat) {b N v : Nat} {r : vw_C} {vs : List Value} {as as' : List Nat} {e : Int} (he : ws[q0]? = some (b, .inl (Z.2.2.2.2, N, .inr (.inr (.inr (.inr (fun i : Nat => as[i]?))))))) (hr : r.1 = "MeshTurns$State") (hk : ws[qk]? = some (v, .inr (ci, vs))) (hc : vwCl[ci]? = some r) (d : decode cc pc = .ok (.aastore, 1)) (hi : 0 ≤ e ∧ e < (N : Int)) (hN : N < 2147483648) (hlen : as.length = e.toNat) (has : as ++ [v] = as') (hw : ws.set q0 (b, .inl (Z.2.2.2.2, N, .inr (.inr (.inr (.inr (fun i : Nat => as'[i]?)))))) = ws') (h : zV X k n ws' (pc + 1) lv st) : zV X k n ws pc lv (.ref v :: .int (iI e) :: .ref b :: st) := by
  obtain ⟨p, l, e', R, s, m, args, below, meth, c, Q, Z, A, H0⟩ := X
  obtain ⟨rfl, rfl, hx, hb, hml, ho, hts, hK, hA⟩ := ok
  intro H locs ls hP hD hS hl
  refine va_astq hx hb hK hP hD hS q0 3 qk ci he (by show some (_, _) = some (_, _); rw [hr]) hk hc (iI_in hi (by omega)) d (fun H1 locs1 hP hD hS => ?_)
  have ee : va_up (fun i : Nat => as[i]?) (iI e).toNatClampNeg (some v) = fun i : Nat => as'[i]? := by
    rw [iI_cl ⟨hi.1, by omega⟩]
    funext j
    subst has
    unfold va_up
    by_cases hj : j = e.toNat
    · subst hj
      rw [if_pos rfl, ← hlen, List.getElem?_append_right (Nat.le_refl _), Nat.sub_self]
      rfl
    · rw [if_neg hj]
      by_cases hlt : j < as.length
      · rw [List.getElem?_append_left hlt]
      · rw [List.getElem?_append_right (by omega), List.getElem?_eq_none (by simp only [List.length_singleton]; omega)]
        exact List.getElem?_eq_none (by omega)
  rw [ee] at hP hD
  subst hw
  exact h H1 locs1 ls hP hD hS hl
end ZN
theorem zf_ap1 (L : List va_W) (C : va_W) : zf L ++ C = zf (L ++ [C]) := by
  unfold zf
  simp
theorem zf_con2 (L M : List va_W) : zf L ++ zf M = zf (L ++ M) := by
  unfold zf
  simp
set_option maxHeartbeats 4000000 in
set_option maxRecDepth 20000 in
theorem c_X0_init {l : Launch} {Z : zZ} {o : Nat} : zK (T := Unit) l yX0_init (Cond.code yX0_init cX0_init 1 none :: wsL_law) ({ frames := 1, cells := 0, slots := 0, locals := 20 } : Room) Z [.ref o] [(o, .inr (0, [.int (iI 0), .int (iI 0), .long (iL 0)]))] (fun _ => [(o, .inr (0, [.int (iI 4), .int (iI 4), .long (iL 0)]))]) (fun _ => True) := by
  refine zKn_of (C := RX0) (by decide +kernel) rfl rfl (Nat.le_of_ble_eq_true rfl) (fun X ok hin hnx fin => ?_)
  refine z_lsub ok (lv' := [(0, .ref o)]) [0] rfl ?_
  refine z_aload_n ok dX0_init_0 rfl ?_
  refine z_objInit ok qm_RX0_3 qi_objectInit qc_objectInit dX0_init_1 (by decide) (Nat.le_of_ble_eq_true rfl) ?_
  refine z_aload_n ok dX0_init_4 rfl ?_
  refine z_iconst ok dX0_init_5 ?_
  refine z_put (ws' := [(o, .inr (0, [.int (iI 4), .int (iI 0), .long (iL 0)]))]) ok zc0 0 rfl 0 (by decide) qf_RX0_9 rfl rfl rfl rfl (Nat.le_of_ble_eq_true rfl) dX0_init_6 rfl ?_
  refine z_aload_n ok dX0_init_9 rfl ?_
  refine z_iconst ok dX0_init_10 ?_
  refine z_put (ws' := [(o, .inr (0, [.int (iI 4), .int (iI 4), .long (iL 0)]))]) ok zc0 0 rfl 1 (by decide) qf_RX0_15 rfl rfl rfl rfl (Nat.le_of_ble_eq_true rfl) dX0_init_11 rfl ?_
  refine z_aload_n ok dX0_init_14 rfl ?_
  refine z_lconst (v := (iL 0)) ok dX0_init_15 (by decide) ?_
  refine z_put (ws' := [(o, .inr (0, [.int (iI 4), .int (iI 4), .long (iL 0)]))]) ok zc0 0 rfl 2 (by decide) qf_RX0_18 rfl rfl rfl rfl (Nat.le_of_ble_eq_true rfl) dX0_init_16 rfl ?_
  exact fin () 19 _ _ _ dX0_init_19 trivial (by decide) (by decide)
set_option maxHeartbeats 4000000 in
set_option maxRecDepth 20000 in
theorem c_X1_init {l : Launch} {Z : zZ} {o : Nat} : zK (T := Nat → Nat) l yX1_init (Cond.code yX1_init cX1_init 1 none :: wsL_law) ({ frames := 1, cells := 1, slots := 40, locals := 20 } : Room) Z [.ref o] [(o, .inr (1, [.null]))] (fun c => jW Z c (fun _ => 0)) (fun c => c 0 = o) := by
  refine zKn_of (C := RX1) (by decide +kernel) rfl rfl (Nat.le_of_ble_eq_true rfl) (fun X ok hin hnx fin => ?_)
  refine z_lsub ok (lv' := [(0, .ref o)]) [0] rfl ?_
  refine z_aload_n ok dX1_init_0 rfl ?_
  refine z_objInit ok qm_RX1_3 qi_objectInit qc_objectInit dX1_init_1 (by decide) (Nat.le_of_ble_eq_true rfl) ?_
  refine z_aload_n ok dX1_init_4 rfl ?_
  refine z_bipush ok dX1_init_5 (by decide) ?_
  refine z_newaz ok 40 qa__boolean dX1_init_7 rfl (by decide) (by decide) (by decide) (fun _ => rfl) (fun q0 => ?_)
  refine z_eq (ws' := [(o, .inr (1, [.null])), (q0, .inl (Z.2.2.1, 40, .inl (fun _ : Nat => iI 0)))]) rfl ?_
  refine z_putF (ws' := [(o, .inr (1, [.ref q0])), (q0, .inl (Z.2.2.1, 40, .inl (fun _ : Nat => iI 0)))]) ok hin zc1 0 rfl 0 (by decide) qf_RX1_9 rfl rfl rfl rfl rfl (Nat.le_of_ble_eq_true rfl) dX1_init_9 rfl ?_
  exact fin (fun i => [o, q0].getD i 0) 12 _ _ _ dX1_init_12 rfl (by decide) (by decide)
set_option maxHeartbeats 4000000 in
set_option maxRecDepth 20000 in
theorem c_X2_init {l : Launch} {Z : zZ} {o : Nat} : zK (T := Nat → Nat) l yX2_init (Cond.code yX2_init cX2_init 1 none :: wsL_law) ({ frames := 1, cells := 10, slots := 400, locals := 20 } : Room) Z [.ref o] [(o, .inr (2, [.int (iI 0), .null, .null, .null, .null, .null, .null, .null, .null, .null, .null]))] (fun a => pW Z a 0 (fun _ => 0) (fun _ => 0) (fun _ => 0) (fun _ => 0) (fun _ => 0) (fun _ => 0) (fun _ => 0) (fun _ => 0) (fun _ => 0) (fun _ => 0)) (fun a => a 3 = o) := by
  refine zKn_of (C := RX2) (by decide +kernel) rfl rfl (Nat.le_of_ble_eq_true rfl) (fun X ok hin hnx fin => ?_)
  refine z_lsub ok (lv' := [(0, .ref o)]) [0] rfl ?_
  refine z_aload_n ok dX2_init_0 rfl ?_
  refine z_objInit ok qm_RX2_3 qi_objectInit qc_objectInit dX2_init_1 (by decide) (Nat.le_of_ble_eq_true rfl) ?_
  refine z_aload_n ok dX2_init_4 rfl ?_
  refine z_iconst ok dX2_init_5 ?_
  refine z_put (ws' := [(o, .inr (2, [.int (iI 0), .null, .null, .null, .null, .null, .null, .null, .null, .null, .null]))]) ok zc2 0 rfl 0 (by decide) qf_RX2_9 rfl rfl rfl rfl (Nat.le_of_ble_eq_true rfl) dX2_init_6 rfl ?_
  refine z_aload_n ok dX2_init_9 rfl ?_
  refine z_bipush ok dX2_init_10 (by decide) ?_
  refine z_newai ok 40 qa__int dX2_init_12 rfl (by decide) (by decide) (by decide) (fun _ => rfl) (fun q0 => ?_)
  refine z_eq (ws' := [(o, .inr (2, [.int (iI 0), .null, .null, .null, .null, .null, .null, .null, .null, .null, .null])), (q0, .inl (Z.2.1, 40, .inl (fun _ : Nat => iI 0)))]) rfl ?_
  refine z_putF (ws' := [(o, .inr (2, [.int (iI 0), .ref q0, .null, .null, .null, .null, .null, .null, .null, .null, .null])), (q0, .inl (Z.2.1, 40, .inl (fun _ : Nat => iI 0)))]) ok hin zc2 0 rfl 1 (by decide) qf_RX2_15 rfl rfl rfl rfl rfl (Nat.le_of_ble_eq_true rfl) dX2_init_14 rfl ?_
  refine z_aload_n ok dX2_init_17 rfl ?_
  refine z_bipush ok dX2_init_18 (by decide) ?_
  refine z_newai ok 40 qa__int dX2_init_20 rfl (by decide) (by decide) (by decide) (fun _ => rfl) (fun q1 => ?_)
  refine z_eq (ws' := [(o, .inr (2, [.int (iI 0), .ref q0, .null, .null, .null, .null, .null, .null, .null, .null, .null])), (q0, .inl (Z.2.1, 40, .inl (fun _ : Nat => iI 0))), (q1, .inl (Z.2.1, 40, .inl (fun _ : Nat => iI 0)))]) rfl ?_
  refine z_putF (ws' := [(o, .inr (2, [.int (iI 0), .ref q0, .ref q1, .null, .null, .null, .null, .null, .null, .null, .null])), (q0, .inl (Z.2.1, 40, .inl (fun _ : Nat => iI 0))), (q1, .inl (Z.2.1, 40, .inl (fun _ : Nat => iI 0)))]) ok hin zc2 0 rfl 2 (by decide) qf_RX2_19 rfl rfl rfl rfl rfl (Nat.le_of_ble_eq_true rfl) dX2_init_22 rfl ?_
  refine z_aload_n ok dX2_init_25 rfl ?_
  refine z_bipush ok dX2_init_26 (by decide) ?_
  refine z_newai ok 40 qa__int dX2_init_28 rfl (by decide) (by decide) (by decide) (fun _ => rfl) (fun q2 => ?_)
  refine z_eq (ws' := [(o, .inr (2, [.int (iI 0), .ref q0, .ref q1, .null, .null, .null, .null, .null, .null, .null, .null])), (q0, .inl (Z.2.1, 40, .inl (fun _ : Nat => iI 0))), (q1, .inl (Z.2.1, 40, .inl (fun _ : Nat => iI 0))), (q2, .inl (Z.2.1, 40, .inl (fun _ : Nat => iI 0)))]) rfl ?_
  refine z_putF (ws' := [(o, .inr (2, [.int (iI 0), .ref q0, .ref q1, .ref q2, .null, .null, .null, .null, .null, .null, .null])), (q0, .inl (Z.2.1, 40, .inl (fun _ : Nat => iI 0))), (q1, .inl (Z.2.1, 40, .inl (fun _ : Nat => iI 0))), (q2, .inl (Z.2.1, 40, .inl (fun _ : Nat => iI 0)))]) ok hin zc2 0 rfl 3 (by decide) qf_RX2_22 rfl rfl rfl rfl rfl (Nat.le_of_ble_eq_true rfl) dX2_init_30 rfl ?_
  refine z_aload_n ok dX2_init_33 rfl ?_
  refine z_bipush ok dX2_init_34 (by decide) ?_
  refine z_newai ok 40 qa__int dX2_init_36 rfl (by decide) (by decide) (by decide) (fun _ => rfl) (fun q3 => ?_)
  refine z_eq (ws' := [(o, .inr (2, [.int (iI 0), .ref q0, .ref q1, .ref q2, .null, .null, .null, .null, .null, .null, .null])), (q0, .inl (Z.2.1, 40, .inl (fun _ : Nat => iI 0))), (q1, .inl (Z.2.1, 40, .inl (fun _ : Nat => iI 0))), (q2, .inl (Z.2.1, 40, .inl (fun _ : Nat => iI 0))), (q3, .inl (Z.2.1, 40, .inl (fun _ : Nat => iI 0)))]) rfl ?_
  refine z_putF (ws' := [(o, .inr (2, [.int (iI 0), .ref q0, .ref q1, .ref q2, .ref q3, .null, .null, .null, .null, .null, .null])), (q0, .inl (Z.2.1, 40, .inl (fun _ : Nat => iI 0))), (q1, .inl (Z.2.1, 40, .inl (fun _ : Nat => iI 0))), (q2, .inl (Z.2.1, 40, .inl (fun _ : Nat => iI 0))), (q3, .inl (Z.2.1, 40, .inl (fun _ : Nat => iI 0)))]) ok hin zc2 0 rfl 4 (by decide) qf_RX2_25 rfl rfl rfl rfl rfl (Nat.le_of_ble_eq_true rfl) dX2_init_38 rfl ?_
  refine z_aload_n ok dX2_init_41 rfl ?_
  refine z_bipush ok dX2_init_42 (by decide) ?_
  refine z_newai ok 40 qa__int dX2_init_44 rfl (by decide) (by decide) (by decide) (fun _ => rfl) (fun q4 => ?_)
  refine z_eq (ws' := [(o, .inr (2, [.int (iI 0), .ref q0, .ref q1, .ref q2, .ref q3, .null, .null, .null, .null, .null, .null])), (q0, .inl (Z.2.1, 40, .inl (fun _ : Nat => iI 0))), (q1, .inl (Z.2.1, 40, .inl (fun _ : Nat => iI 0))), (q2, .inl (Z.2.1, 40, .inl (fun _ : Nat => iI 0))), (q3, .inl (Z.2.1, 40, .inl (fun _ : Nat => iI 0))), (q4, .inl (Z.2.1, 40, .inl (fun _ : Nat => iI 0)))]) rfl ?_
  refine z_putF (ws' := [(o, .inr (2, [.int (iI 0), .ref q0, .ref q1, .ref q2, .ref q3, .ref q4, .null, .null, .null, .null, .null])), (q0, .inl (Z.2.1, 40, .inl (fun _ : Nat => iI 0))), (q1, .inl (Z.2.1, 40, .inl (fun _ : Nat => iI 0))), (q2, .inl (Z.2.1, 40, .inl (fun _ : Nat => iI 0))), (q3, .inl (Z.2.1, 40, .inl (fun _ : Nat => iI 0))), (q4, .inl (Z.2.1, 40, .inl (fun _ : Nat => iI 0)))]) ok hin zc2 0 rfl 5 (by decide) qf_RX2_28 rfl rfl rfl rfl rfl (Nat.le_of_ble_eq_true rfl) dX2_init_46 rfl ?_
  refine z_aload_n ok dX2_init_49 rfl ?_
  refine z_bipush ok dX2_init_50 (by decide) ?_
  refine z_newai ok 40 qa__int dX2_init_52 rfl (by decide) (by decide) (by decide) (fun _ => rfl) (fun q5 => ?_)
  refine z_eq (ws' := [(o, .inr (2, [.int (iI 0), .ref q0, .ref q1, .ref q2, .ref q3, .ref q4, .null, .null, .null, .null, .null])), (q0, .inl (Z.2.1, 40, .inl (fun _ : Nat => iI 0))), (q1, .inl (Z.2.1, 40, .inl (fun _ : Nat => iI 0))), (q2, .inl (Z.2.1, 40, .inl (fun _ : Nat => iI 0))), (q3, .inl (Z.2.1, 40, .inl (fun _ : Nat => iI 0))), (q4, .inl (Z.2.1, 40, .inl (fun _ : Nat => iI 0))), (q5, .inl (Z.2.1, 40, .inl (fun _ : Nat => iI 0)))]) rfl ?_
  refine z_putF (ws' := [(o, .inr (2, [.int (iI 0), .ref q0, .ref q1, .ref q2, .ref q3, .ref q4, .ref q5, .null, .null, .null, .null])), (q0, .inl (Z.2.1, 40, .inl (fun _ : Nat => iI 0))), (q1, .inl (Z.2.1, 40, .inl (fun _ : Nat => iI 0))), (q2, .inl (Z.2.1, 40, .inl (fun _ : Nat => iI 0))), (q3, .inl (Z.2.1, 40, .inl (fun _ : Nat => iI 0))), (q4, .inl (Z.2.1, 40, .inl (fun _ : Nat => iI 0))), (q5, .inl (Z.2.1, 40, .inl (fun _ : Nat => iI 0)))]) ok hin zc2 0 rfl 6 (by decide) qf_RX2_31 rfl rfl rfl rfl rfl (Nat.le_of_ble_eq_true rfl) dX2_init_54 rfl ?_
  refine z_aload_n ok dX2_init_57 rfl ?_
  refine z_bipush ok dX2_init_58 (by decide) ?_
  refine z_newai ok 40 qa__int dX2_init_60 rfl (by decide) (by decide) (by decide) (fun _ => rfl) (fun q6 => ?_)
  refine z_eq (ws' := [(o, .inr (2, [.int (iI 0), .ref q0, .ref q1, .ref q2, .ref q3, .ref q4, .ref q5, .null, .null, .null, .null])), (q0, .inl (Z.2.1, 40, .inl (fun _ : Nat => iI 0))), (q1, .inl (Z.2.1, 40, .inl (fun _ : Nat => iI 0))), (q2, .inl (Z.2.1, 40, .inl (fun _ : Nat => iI 0))), (q3, .inl (Z.2.1, 40, .inl (fun _ : Nat => iI 0))), (q4, .inl (Z.2.1, 40, .inl (fun _ : Nat => iI 0))), (q5, .inl (Z.2.1, 40, .inl (fun _ : Nat => iI 0))), (q6, .inl (Z.2.1, 40, .inl (fun _ : Nat => iI 0)))]) rfl ?_
  refine z_putF (ws' := [(o, .inr (2, [.int (iI 0), .ref q0, .ref q1, .ref q2, .ref q3, .ref q4, .ref q5, .ref q6, .null, .null, .null])), (q0, .inl (Z.2.1, 40, .inl (fun _ : Nat => iI 0))), (q1, .inl (Z.2.1, 40, .inl (fun _ : Nat => iI 0))), (q2, .inl (Z.2.1, 40, .inl (fun _ : Nat => iI 0))), (q3, .inl (Z.2.1, 40, .inl (fun _ : Nat => iI 0))), (q4, .inl (Z.2.1, 40, .inl (fun _ : Nat => iI 0))), (q5, .inl (Z.2.1, 40, .inl (fun _ : Nat => iI 0))), (q6, .inl (Z.2.1, 40, .inl (fun _ : Nat => iI 0)))]) ok hin zc2 0 rfl 7 (by decide) qf_RX2_34 rfl rfl rfl rfl rfl (Nat.le_of_ble_eq_true rfl) dX2_init_62 rfl ?_
  refine z_aload_n ok dX2_init_65 rfl ?_
  refine z_bipush ok dX2_init_66 (by decide) ?_
  refine z_newai ok 40 qa__int dX2_init_68 rfl (by decide) (by decide) (by decide) (fun _ => rfl) (fun q7 => ?_)
  refine z_eq (ws' := [(o, .inr (2, [.int (iI 0), .ref q0, .ref q1, .ref q2, .ref q3, .ref q4, .ref q5, .ref q6, .null, .null, .null])), (q0, .inl (Z.2.1, 40, .inl (fun _ : Nat => iI 0))), (q1, .inl (Z.2.1, 40, .inl (fun _ : Nat => iI 0))), (q2, .inl (Z.2.1, 40, .inl (fun _ : Nat => iI 0))), (q3, .inl (Z.2.1, 40, .inl (fun _ : Nat => iI 0))), (q4, .inl (Z.2.1, 40, .inl (fun _ : Nat => iI 0))), (q5, .inl (Z.2.1, 40, .inl (fun _ : Nat => iI 0))), (q6, .inl (Z.2.1, 40, .inl (fun _ : Nat => iI 0))), (q7, .inl (Z.2.1, 40, .inl (fun _ : Nat => iI 0)))]) rfl ?_
  refine z_putF (ws' := [(o, .inr (2, [.int (iI 0), .ref q0, .ref q1, .ref q2, .ref q3, .ref q4, .ref q5, .ref q6, .ref q7, .null, .null])), (q0, .inl (Z.2.1, 40, .inl (fun _ : Nat => iI 0))), (q1, .inl (Z.2.1, 40, .inl (fun _ : Nat => iI 0))), (q2, .inl (Z.2.1, 40, .inl (fun _ : Nat => iI 0))), (q3, .inl (Z.2.1, 40, .inl (fun _ : Nat => iI 0))), (q4, .inl (Z.2.1, 40, .inl (fun _ : Nat => iI 0))), (q5, .inl (Z.2.1, 40, .inl (fun _ : Nat => iI 0))), (q6, .inl (Z.2.1, 40, .inl (fun _ : Nat => iI 0))), (q7, .inl (Z.2.1, 40, .inl (fun _ : Nat => iI 0)))]) ok hin zc2 0 rfl 8 (by decide) qf_RX2_37 rfl rfl rfl rfl rfl (Nat.le_of_ble_eq_true rfl) dX2_init_70 rfl ?_
  refine z_aload_n ok dX2_init_73 rfl ?_
  refine z_bipush ok dX2_init_74 (by decide) ?_
  refine z_newai ok 40 qa__int dX2_init_76 rfl (by decide) (by decide) (by decide) (fun _ => rfl) (fun q8 => ?_)
  refine z_eq (ws' := [(o, .inr (2, [.int (iI 0), .ref q0, .ref q1, .ref q2, .ref q3, .ref q4, .ref q5, .ref q6, .ref q7, .null, .null])), (q0, .inl (Z.2.1, 40, .inl (fun _ : Nat => iI 0))), (q1, .inl (Z.2.1, 40, .inl (fun _ : Nat => iI 0))), (q2, .inl (Z.2.1, 40, .inl (fun _ : Nat => iI 0))), (q3, .inl (Z.2.1, 40, .inl (fun _ : Nat => iI 0))), (q4, .inl (Z.2.1, 40, .inl (fun _ : Nat => iI 0))), (q5, .inl (Z.2.1, 40, .inl (fun _ : Nat => iI 0))), (q6, .inl (Z.2.1, 40, .inl (fun _ : Nat => iI 0))), (q7, .inl (Z.2.1, 40, .inl (fun _ : Nat => iI 0))), (q8, .inl (Z.2.1, 40, .inl (fun _ : Nat => iI 0)))]) rfl ?_
  refine z_putF (ws' := [(o, .inr (2, [.int (iI 0), .ref q0, .ref q1, .ref q2, .ref q3, .ref q4, .ref q5, .ref q6, .ref q7, .ref q8, .null])), (q0, .inl (Z.2.1, 40, .inl (fun _ : Nat => iI 0))), (q1, .inl (Z.2.1, 40, .inl (fun _ : Nat => iI 0))), (q2, .inl (Z.2.1, 40, .inl (fun _ : Nat => iI 0))), (q3, .inl (Z.2.1, 40, .inl (fun _ : Nat => iI 0))), (q4, .inl (Z.2.1, 40, .inl (fun _ : Nat => iI 0))), (q5, .inl (Z.2.1, 40, .inl (fun _ : Nat => iI 0))), (q6, .inl (Z.2.1, 40, .inl (fun _ : Nat => iI 0))), (q7, .inl (Z.2.1, 40, .inl (fun _ : Nat => iI 0))), (q8, .inl (Z.2.1, 40, .inl (fun _ : Nat => iI 0)))]) ok hin zc2 0 rfl 9 (by decide) qf_RX2_40 rfl rfl rfl rfl rfl (Nat.le_of_ble_eq_true rfl) dX2_init_78 rfl ?_
  refine z_aload_n ok dX2_init_81 rfl ?_
  refine z_bipush ok dX2_init_82 (by decide) ?_
  refine z_newai ok 40 qa__int dX2_init_84 rfl (by decide) (by decide) (by decide) (fun _ => rfl) (fun q9 => ?_)
  refine z_eq (ws' := [(o, .inr (2, [.int (iI 0), .ref q0, .ref q1, .ref q2, .ref q3, .ref q4, .ref q5, .ref q6, .ref q7, .ref q8, .null])), (q0, .inl (Z.2.1, 40, .inl (fun _ : Nat => iI 0))), (q1, .inl (Z.2.1, 40, .inl (fun _ : Nat => iI 0))), (q2, .inl (Z.2.1, 40, .inl (fun _ : Nat => iI 0))), (q3, .inl (Z.2.1, 40, .inl (fun _ : Nat => iI 0))), (q4, .inl (Z.2.1, 40, .inl (fun _ : Nat => iI 0))), (q5, .inl (Z.2.1, 40, .inl (fun _ : Nat => iI 0))), (q6, .inl (Z.2.1, 40, .inl (fun _ : Nat => iI 0))), (q7, .inl (Z.2.1, 40, .inl (fun _ : Nat => iI 0))), (q8, .inl (Z.2.1, 40, .inl (fun _ : Nat => iI 0))), (q9, .inl (Z.2.1, 40, .inl (fun _ : Nat => iI 0)))]) rfl ?_
  refine z_putF (ws' := [(o, .inr (2, [.int (iI 0), .ref q0, .ref q1, .ref q2, .ref q3, .ref q4, .ref q5, .ref q6, .ref q7, .ref q8, .ref q9])), (q0, .inl (Z.2.1, 40, .inl (fun _ : Nat => iI 0))), (q1, .inl (Z.2.1, 40, .inl (fun _ : Nat => iI 0))), (q2, .inl (Z.2.1, 40, .inl (fun _ : Nat => iI 0))), (q3, .inl (Z.2.1, 40, .inl (fun _ : Nat => iI 0))), (q4, .inl (Z.2.1, 40, .inl (fun _ : Nat => iI 0))), (q5, .inl (Z.2.1, 40, .inl (fun _ : Nat => iI 0))), (q6, .inl (Z.2.1, 40, .inl (fun _ : Nat => iI 0))), (q7, .inl (Z.2.1, 40, .inl (fun _ : Nat => iI 0))), (q8, .inl (Z.2.1, 40, .inl (fun _ : Nat => iI 0))), (q9, .inl (Z.2.1, 40, .inl (fun _ : Nat => iI 0)))]) ok hin zc2 0 rfl 10 (by decide) qf_RX2_43 rfl rfl rfl rfl rfl (Nat.le_of_ble_eq_true rfl) dX2_init_86 rfl ?_
  exact fin (fun i => [0, 0, 0, o, q0, q1, q2, q3, q4, q5, q6, q7, q8, q9].getD i 0) 89 _ _ _ dX2_init_89 rfl (by decide) (by decide)
set_option maxHeartbeats 4000000 in
set_option maxRecDepth 20000 in
theorem c_X3_init {l : Launch} {Z : zZ} {o : Nat} : zK (T := Nat → Nat) l yX3_init (Cond.code yX3_init cX3_init 1 none :: wsL_law) ({ frames := 1, cells := 4, slots := 161, locals := 20 } : Room) Z [.ref o] [(o, .inr (3, [.null, .int (iI 0), .int (iI 0), .null, .null, .null, .int (iI 0)]))] (fun e => dW Z e (fun _ => 0) 0 0 (fun _ => 0) (fun _ => 0) (fun _ => 0) 0) (fun e => e 0 = o) := by
  refine zKn_of (C := RX3) (by decide +kernel) rfl rfl (Nat.le_of_ble_eq_true rfl) (fun X ok hin hnx fin => ?_)
  refine z_lsub ok (lv' := [(0, .ref o)]) [0] rfl ?_
  refine z_aload_n ok dX3_init_0 rfl ?_
  refine z_objInit ok qm_RX3_5 qi_objectInit qc_objectInit dX3_init_1 (by decide) (Nat.le_of_ble_eq_true rfl) ?_
  refine z_aload_n ok dX3_init_4 rfl ?_
  refine z_bipush ok dX3_init_5 (by decide) ?_
  refine z_newac ok 80 qa__char dX3_init_7 rfl (by decide) (by decide) (by decide) (fun _ => rfl) (fun q0 => ?_)
  refine z_eq (ws' := [(o, .inr (3, [.null, .int (iI 0), .int (iI 0), .null, .null, .null, .int (iI 0)])), (q0, .inl (Z.2.2.2.1, 80, .inl (fun _ : Nat => iI 0)))]) rfl ?_
  refine z_putF (ws' := [(o, .inr (3, [.ref q0, .int (iI 0), .int (iI 0), .null, .null, .null, .int (iI 0)])), (q0, .inl (Z.2.2.2.1, 80, .inl (fun _ : Nat => iI 0)))]) ok hin zc3 0 rfl 0 (by decide) qf_RX3_11 rfl rfl rfl rfl rfl (Nat.le_of_ble_eq_true rfl) dX3_init_9 rfl ?_
  refine z_aload_n ok dX3_init_12 rfl ?_
  refine z_iconst ok dX3_init_13 ?_
  refine z_put (ws' := [(o, .inr (3, [.ref q0, .int (iI 0), .int (iI 0), .null, .null, .null, .int (iI 0)])), (q0, .inl (Z.2.2.2.1, 80, .inl (fun _ : Nat => iI 0)))]) ok zc3 0 rfl 1 (by decide) qf_RX3_15 rfl rfl rfl rfl (Nat.le_of_ble_eq_true rfl) dX3_init_14 rfl ?_
  refine z_aload_n ok dX3_init_17 rfl ?_
  refine z_iconst ok dX3_init_18 ?_
  refine z_put (ws' := [(o, .inr (3, [.ref q0, .int (iI 0), .int (iI 0), .null, .null, .null, .int (iI 0)])), (q0, .inl (Z.2.2.2.1, 80, .inl (fun _ : Nat => iI 0)))]) ok zc3 0 rfl 2 (by decide) qf_RX3_19 rfl rfl rfl rfl (Nat.le_of_ble_eq_true rfl) dX3_init_19 rfl ?_
  refine z_aload_n ok dX3_init_22 rfl ?_
  refine z_bipush ok dX3_init_23 (by decide) ?_
  refine z_newai ok 27 qa__int dX3_init_25 rfl (by decide) (by decide) (by decide) (fun _ => rfl) (fun q1 => ?_)
  refine z_eq (ws' := [(o, .inr (3, [.ref q0, .int (iI 0), .int (iI 0), .null, .null, .null, .int (iI 0)])), (q0, .inl (Z.2.2.2.1, 80, .inl (fun _ : Nat => iI 0))), (q1, .inl (Z.2.1, 27, .inl (fun _ : Nat => iI 0)))]) rfl ?_
  refine z_putF (ws' := [(o, .inr (3, [.ref q0, .int (iI 0), .int (iI 0), .ref q1, .null, .null, .int (iI 0)])), (q0, .inl (Z.2.2.2.1, 80, .inl (fun _ : Nat => iI 0))), (q1, .inl (Z.2.1, 27, .inl (fun _ : Nat => iI 0)))]) ok hin zc3 0 rfl 3 (by decide) qf_RX3_22 rfl rfl rfl rfl rfl (Nat.le_of_ble_eq_true rfl) dX3_init_27 rfl ?_
  refine z_aload_n ok dX3_init_30 rfl ?_
  refine z_bipush ok dX3_init_31 (by decide) ?_
  refine z_newai ok 27 qa__int dX3_init_33 rfl (by decide) (by decide) (by decide) (fun _ => rfl) (fun q2 => ?_)
  refine z_eq (ws' := [(o, .inr (3, [.ref q0, .int (iI 0), .int (iI 0), .ref q1, .null, .null, .int (iI 0)])), (q0, .inl (Z.2.2.2.1, 80, .inl (fun _ : Nat => iI 0))), (q1, .inl (Z.2.1, 27, .inl (fun _ : Nat => iI 0))), (q2, .inl (Z.2.1, 27, .inl (fun _ : Nat => iI 0)))]) rfl ?_
  refine z_putF (ws' := [(o, .inr (3, [.ref q0, .int (iI 0), .int (iI 0), .ref q1, .ref q2, .null, .int (iI 0)])), (q0, .inl (Z.2.2.2.1, 80, .inl (fun _ : Nat => iI 0))), (q1, .inl (Z.2.1, 27, .inl (fun _ : Nat => iI 0))), (q2, .inl (Z.2.1, 27, .inl (fun _ : Nat => iI 0)))]) ok hin zc3 0 rfl 4 (by decide) qf_RX3_26 rfl rfl rfl rfl rfl (Nat.le_of_ble_eq_true rfl) dX3_init_35 rfl ?_
  refine z_aload_n ok dX3_init_38 rfl ?_
  refine z_bipush ok dX3_init_39 (by decide) ?_
  refine z_newai ok 27 qa__int dX3_init_41 rfl (by decide) (by decide) (by decide) (fun _ => rfl) (fun q3 => ?_)
  refine z_eq (ws' := [(o, .inr (3, [.ref q0, .int (iI 0), .int (iI 0), .ref q1, .ref q2, .null, .int (iI 0)])), (q0, .inl (Z.2.2.2.1, 80, .inl (fun _ : Nat => iI 0))), (q1, .inl (Z.2.1, 27, .inl (fun _ : Nat => iI 0))), (q2, .inl (Z.2.1, 27, .inl (fun _ : Nat => iI 0))), (q3, .inl (Z.2.1, 27, .inl (fun _ : Nat => iI 0)))]) rfl ?_
  refine z_putF (ws' := [(o, .inr (3, [.ref q0, .int (iI 0), .int (iI 0), .ref q1, .ref q2, .ref q3, .int (iI 0)])), (q0, .inl (Z.2.2.2.1, 80, .inl (fun _ : Nat => iI 0))), (q1, .inl (Z.2.1, 27, .inl (fun _ : Nat => iI 0))), (q2, .inl (Z.2.1, 27, .inl (fun _ : Nat => iI 0))), (q3, .inl (Z.2.1, 27, .inl (fun _ : Nat => iI 0)))]) ok hin zc3 0 rfl 5 (by decide) qf_RX3_29 rfl rfl rfl rfl rfl (Nat.le_of_ble_eq_true rfl) dX3_init_43 rfl ?_
  refine z_aload_n ok dX3_init_46 rfl ?_
  refine z_iconst ok dX3_init_47 ?_
  refine z_put (ws' := [(o, .inr (3, [.ref q0, .int (iI 0), .int (iI 0), .ref q1, .ref q2, .ref q3, .int (iI 0)])), (q0, .inl (Z.2.2.2.1, 80, .inl (fun _ : Nat => iI 0))), (q1, .inl (Z.2.1, 27, .inl (fun _ : Nat => iI 0))), (q2, .inl (Z.2.1, 27, .inl (fun _ : Nat => iI 0))), (q3, .inl (Z.2.1, 27, .inl (fun _ : Nat => iI 0)))]) ok zc3 0 rfl 6 (by decide) qf_RX3_32 rfl rfl rfl rfl (Nat.le_of_ble_eq_true rfl) dX3_init_48 rfl ?_
  exact fin (fun i => [o, q0, q1, q2, q3].getD i 0) 51 _ _ _ dX3_init_51 rfl (by decide) (by decide)
set_option maxHeartbeats 4000000 in
set_option maxRecDepth 20000 in
theorem c_X4_init {l : Launch} {Z : zZ} {o : Nat} : zK (T := Nat → Nat) l yX4_init (Cond.code yX4_init cX4_init 1 none :: wsL_law) ({ frames := 1, cells := 4, slots := 1450, locals := 20 } : Room) Z [.ref o] [(o, .inr (4, [.int (iI 0), .null, .null, .null, .null, .int (iI 0)]))] (fun b => rW Z b 0 (fun _ => 0) (fun _ => 0) (fun _ => 0) (fun _ => 0) 0) (fun b => b 0 = o) := by
  refine zKn_of (C := RX4) (by decide +kernel) rfl rfl (Nat.le_of_ble_eq_true rfl) (fun X ok hin hnx fin => ?_)
  refine z_lsub ok (lv' := [(0, .ref o)]) [0] rfl ?_
  refine z_aload_n ok dX4_init_0 rfl ?_
  refine z_objInit ok qm_RX4_3 qi_objectInit qc_objectInit dX4_init_1 (by decide) (Nat.le_of_ble_eq_true rfl) ?_
  refine z_aload_n ok dX4_init_4 rfl ?_
  refine z_iconst ok dX4_init_5 ?_
  refine z_put (ws' := [(o, .inr (4, [.int (iI 0), .null, .null, .null, .null, .int (iI 0)]))]) ok zc4 0 rfl 0 (by decide) qf_RX4_9 rfl rfl (znZ _ (Or.inl rfl)) (zfZ _ (Or.inl rfl)) (Nat.le_of_ble_eq_true rfl) dX4_init_6 rfl ?_
  refine z_aload_n ok dX4_init_9 rfl ?_
  refine z_bipush ok dX4_init_10 (by decide) ?_
  refine z_newai ok 100 qa__int dX4_init_12 rfl (by decide) (by decide) (by decide) (fun _ => rfl) (fun q0 => ?_)
  refine z_eq (ws' := [(o, .inr (4, [.int (iI 0), .null, .null, .null, .null, .int (iI 0)])), (q0, .inl (Z.2.1, 100, .inl (fun _ : Nat => iI 0)))]) rfl ?_
  refine z_putF (ws' := [(o, .inr (4, [.int (iI 0), .ref q0, .null, .null, .null, .int (iI 0)])), (q0, .inl (Z.2.1, 100, .inl (fun _ : Nat => iI 0)))]) ok hin zc4 0 rfl 1 (by decide) qf_RX4_15 rfl rfl rfl rfl rfl (Nat.le_of_ble_eq_true rfl) dX4_init_14 rfl ?_
  refine z_aload_n ok dX4_init_17 rfl ?_
  refine z_sipush ok dX4_init_18 (by decide) ?_
  refine z_newai ok 1250 qa__int dX4_init_21 rfl (by decide) (by decide) (by decide) (fun _ => rfl) (fun q1 => ?_)
  refine z_eq (ws' := [(o, .inr (4, [.int (iI 0), .ref q0, .null, .null, .null, .int (iI 0)])), (q0, .inl (Z.2.1, 100, .inl (fun _ : Nat => iI 0))), (q1, .inl (Z.2.1, 1250, .inl (fun _ : Nat => iI 0)))]) rfl ?_
  refine z_putF (ws' := [(o, .inr (4, [.int (iI 0), .ref q0, .ref q1, .null, .null, .int (iI 0)])), (q0, .inl (Z.2.1, 100, .inl (fun _ : Nat => iI 0))), (q1, .inl (Z.2.1, 1250, .inl (fun _ : Nat => iI 0)))]) ok hin zc4 0 rfl 2 (by decide) qf_RX4_19 rfl rfl rfl rfl rfl (Nat.le_of_ble_eq_true rfl) dX4_init_23 rfl ?_
  refine z_aload_n ok dX4_init_26 rfl ?_
  refine z_bipush ok dX4_init_27 (by decide) ?_
  refine z_newai ok 50 qa__int dX4_init_29 rfl (by decide) (by decide) (by decide) (fun _ => rfl) (fun q2 => ?_)
  refine z_eq (ws' := [(o, .inr (4, [.int (iI 0), .ref q0, .ref q1, .null, .null, .int (iI 0)])), (q0, .inl (Z.2.1, 100, .inl (fun _ : Nat => iI 0))), (q1, .inl (Z.2.1, 1250, .inl (fun _ : Nat => iI 0))), (q2, .inl (Z.2.1, 50, .inl (fun _ : Nat => iI 0)))]) rfl ?_
  refine z_putF (ws' := [(o, .inr (4, [.int (iI 0), .ref q0, .ref q1, .ref q2, .null, .int (iI 0)])), (q0, .inl (Z.2.1, 100, .inl (fun _ : Nat => iI 0))), (q1, .inl (Z.2.1, 1250, .inl (fun _ : Nat => iI 0))), (q2, .inl (Z.2.1, 50, .inl (fun _ : Nat => iI 0)))]) ok hin zc4 0 rfl 3 (by decide) qf_RX4_22 rfl rfl rfl rfl rfl (Nat.le_of_ble_eq_true rfl) dX4_init_31 rfl ?_
  refine z_aload_n ok dX4_init_34 rfl ?_
  refine z_bipush ok dX4_init_35 (by decide) ?_
  refine z_newai ok 50 qa__int dX4_init_37 rfl (by decide) (by decide) (by decide) (fun _ => rfl) (fun q3 => ?_)
  refine z_eq (ws' := [(o, .inr (4, [.int (iI 0), .ref q0, .ref q1, .ref q2, .null, .int (iI 0)])), (q0, .inl (Z.2.1, 100, .inl (fun _ : Nat => iI 0))), (q1, .inl (Z.2.1, 1250, .inl (fun _ : Nat => iI 0))), (q2, .inl (Z.2.1, 50, .inl (fun _ : Nat => iI 0))), (q3, .inl (Z.2.1, 50, .inl (fun _ : Nat => iI 0)))]) rfl ?_
  refine z_putF (ws' := [(o, .inr (4, [.int (iI 0), .ref q0, .ref q1, .ref q2, .ref q3, .int (iI 0)])), (q0, .inl (Z.2.1, 100, .inl (fun _ : Nat => iI 0))), (q1, .inl (Z.2.1, 1250, .inl (fun _ : Nat => iI 0))), (q2, .inl (Z.2.1, 50, .inl (fun _ : Nat => iI 0))), (q3, .inl (Z.2.1, 50, .inl (fun _ : Nat => iI 0)))]) ok hin zc4 0 rfl 4 (by decide) qf_RX4_25 rfl rfl rfl rfl rfl (Nat.le_of_ble_eq_true rfl) dX4_init_39 rfl ?_
  refine z_aload_n ok dX4_init_42 rfl ?_
  refine z_iconst ok dX4_init_43 ?_
  refine z_put (ws' := [(o, .inr (4, [.int (iI 0), .ref q0, .ref q1, .ref q2, .ref q3, .int (iI 0)])), (q0, .inl (Z.2.1, 100, .inl (fun _ : Nat => iI 0))), (q1, .inl (Z.2.1, 1250, .inl (fun _ : Nat => iI 0))), (q2, .inl (Z.2.1, 50, .inl (fun _ : Nat => iI 0))), (q3, .inl (Z.2.1, 50, .inl (fun _ : Nat => iI 0)))]) ok zc4 0 rfl 5 (by decide) qf_RX4_28 rfl rfl rfl rfl (Nat.le_of_ble_eq_true rfl) dX4_init_44 rfl ?_
  exact fin (fun i => [o, q0, q1, q2, q3].getD i 0) 47 _ _ _ dX4_init_47 rfl (by decide) (by decide)
theorem zm_X0_init : zMT yX0_init RX0 cX0_init 1 none 0 := ⟨qc_X0_init, qn_RX0, rfl, by decide +kernel, by decide +kernel, by decide +kernel⟩
theorem zm_X1_init : zMT yX1_init RX1 cX1_init 1 none 0 := ⟨qc_X1_init, qn_RX1, rfl, by decide +kernel, by decide +kernel, by decide +kernel⟩
theorem zm_X2_init : zMT yX2_init RX2 cX2_init 1 none 0 := ⟨qc_X2_init, qn_RX2, rfl, by decide +kernel, by decide +kernel, by decide +kernel⟩
theorem zm_X3_init : zMT yX3_init RX3 cX3_init 1 none 0 := ⟨qc_X3_init, qn_RX3, rfl, by decide +kernel, by decide +kernel, by decide +kernel⟩
theorem zm_X4_init : zMT yX4_init RX4 cX4_init 1 none 0 := ⟨qc_X4_init, qn_RX4, rfl, by decide +kernel, by decide +kernel, by decide +kernel⟩
theorem zm_X5_init : zMT yX5_init RX5 cX5_init 1 none 0 := ⟨qc_X5_init, qn_RX5, rfl, by decide +kernel, by decide +kernel, by decide +kernel⟩
