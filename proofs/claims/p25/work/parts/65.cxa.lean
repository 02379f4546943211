set_option maxRecDepth 20000 in
theorem c_X6_linkState {l : Launch} {Z : zZ} {x a b a3 b4 c e : Nat → Nat} {und : Int} {hs ss : List Nat} {us : Int → Int} {N : Int → Int} {bb d : Int} (hw : wf N) (hb : isB N bb) (hd : 0 ≤ d ∧ d ≤ 3) : zI (T := Unit) l yX6_linkState (Cond.code yX6_linkState cX6_linkState 4 (some .int) :: wsL_law) ({ frames := 2, cells := 0, slots := 0, locals := 47 } : Room) Z [.ref (x 0), .int (iI bb), .int (iI d)] (zf [soW Z a N (ins N) (mvF N) (N 3), gW Z a (N 4) (N 5) (bkL N), pW Z a (N 6) (pkF N 0) (pkF N 1) (pkF N 2) (pkF N 3) (pkF N 4) (pkF N 5) (pkF N 6) (pkF N 7) (pkF N 8) (pkF N 9), xW Z x (a 0) (b 0) (a3 0) (b4 0) (c 0) (e 0) und hs ss us]) (fun _ => zf [soW Z a N (ins N) (mvF N) (N 3), gW Z a (N 4) (N 5) (bkL N), pW Z a (N 6) (pkF N 0) (pkF N 1) (pkF N 2) (pkF N 3) (pkF N 4) (pkF N 5) (pkF N 6) (pkF N 7) (pkF N 8) (pkF N 9), xW Z x (a 0) (b 0) (a3 0) (b4 0) (c 0) (e 0) und hs ss us]) (fun ρ _ => ρ = if nb N bb d < 0 then -6 else zb (opn N bb d)) := by
  refine zI_of (C := RX6) (by decide +kernel) rfl (Nat.le_of_ble_eq_true rfl) (fun _ => True) znI (fun X ok fin => ?_)
  have hcr := wf_cr hw
  have hlk := lkc_rng (b := bb) (d := d) hw hb hd
  have hb0 := id hb
  unfold isB at hb0
  refine z_lsub ok (lv' := [(0, .ref (x 0)), (1, .int (iI bb)), (2, .int (iI d))]) [0, 1, 2] rfl ?_
  refine z_aload_n ok dX6_linkState_0 rfl ?_
  refine z_get (v := .ref (a 0)) ok zc6 16 rfl 0 (by decide) qf_RX6_12 rfl rfl dX6_linkState_1 ?_
  refine z_get (v := .ref (a 2)) ok zc5 0 rfl 1 (by decide) qf_RX6_88 rfl rfl dX6_linkState_4 ?_
  refine z_iload_n ok dX6_linkState_7 rfl ?_
  refine z_iload_n ok dX6_linkState_8 rfl ?_
  refine z_callVif ok (fun l => c_X0_linkAt  (hw) (by omega) (by omega)) zm_X0_linkAt zv_X0_linkAt qm_RX6_261 dX6_linkState_9 (by decide) (by decide) rfl rfl (Nat.le_of_ble_eq_true rfl) (q0 := 0) rfl rfl rfl (L := [soW Z a N (ins N) (mvF N) (N 3), gW Z a (N 4) (N 5) (bkL N), pW Z a (N 6) (pkF N 0) (pkF N 1) (pkF N 2) (pkF N 3) (pkF N 4) (pkF N 5) (pkF N 6) (pkF N 7) (pkF N 8) (pkF N 9), xW Z x (a 0) (b 0) (a3 0) (b4 0) (c 0) (e 0) und hs ss us]) (Lr := [soW Z a N (ins N) (mvF N) (N 3), pW Z a (N 6) (pkF N 0) (pkF N 1) (pkF N 2) (pkF N 3) (pkF N 4) (pkF N 5) (pkF N 6) (pkF N 7) (pkF N 8) (pkF N 9), xW Z x (a 0) (b 0) (a3 0) (b4 0) (c 0) (e 0) und hs ss us]) [1, 0, 2, 3] [1, 0, 2, 3] rfl rfl (fun _ => rfl) (fun ρ _ hρ => ?_)
  subst hρ
  refine z_eq (ws' := zf [soW Z a N (ins N) (mvF N) (N 3), gW Z a (N 4) (N 5) (bkL N), pW Z a (N 6) (pkF N 0) (pkF N 1) (pkF N 2) (pkF N 3) (pkF N 4) (pkF N 5) (pkF N 6) (pkF N 7) (pkF N 8) (pkF N 9), xW Z x (a 0) (b 0) (a3 0) (b4 0) (c 0) (e 0) und hs ss us]) rfl ?_
  refine z_istore_n (lv' := [(3, .int (iI (lkc N bb d))), (0, .ref (x 0)), (1, .int (iI bb)), (2, .int (iI d))]) ok dX6_linkState_12 (by decide) rfl ?_
  refine z_iload_n ok dX6_linkState_13 rfl ?_
  refine z_iconst ok dX6_linkState_14 ?_
  refine z_icmp_ne (tgt := 21) ok dX6_linkState_15 (by decide) (by omega) (by omega) (fun c15 => ?_) (fun c15 => ?_)
  · -- t
    have hnn : 0 ≤ nb N bb d := by omega
    have hl2 := lkm_rng hw hb0 hd hnn
    have hle := hlk.2.2.2 hnn
    have hbit := hw.2.2.2.2.2.2.1 _ hl2.1 hl2.2
    refine z_aload_n ok dX6_linkState_21 rfl ?_
    refine z_get (v := .ref (a 0)) ok zc6 16 rfl 0 (by decide) qf_RX6_12 rfl rfl dX6_linkState_22 ?_
    refine z_get (v := .ref (a 2)) ok zc5 0 rfl 1 (by decide) qf_RX6_88 rfl rfl dX6_linkState_25 ?_
    refine z_iload_n ok dX6_linkState_28 rfl ?_
    refine z_callVif ok (fun l => c_X0_isWhole  (by omega) (by rw [show 10 + lkc N bb d = lkm N bb d by omega]; omega)) zm_X0_isWhole zv_X0_isWhole qm_RX6_264 dX6_linkState_29 (by decide) (by decide) rfl rfl (Nat.le_of_ble_eq_true rfl) (q0 := 0) rfl rfl rfl (L := [soW Z a N (ins N) (mvF N) (N 3), gW Z a (N 4) (N 5) (bkL N), pW Z a (N 6) (pkF N 0) (pkF N 1) (pkF N 2) (pkF N 3) (pkF N 4) (pkF N 5) (pkF N 6) (pkF N 7) (pkF N 8) (pkF N 9), xW Z x (a 0) (b 0) (a3 0) (b4 0) (c 0) (e 0) und hs ss us]) (Lr := [soW Z a N (ins N) (mvF N) (N 3), pW Z a (N 6) (pkF N 0) (pkF N 1) (pkF N 2) (pkF N 3) (pkF N 4) (pkF N 5) (pkF N 6) (pkF N 7) (pkF N 8) (pkF N 9), xW Z x (a 0) (b 0) (a3 0) (b4 0) (c 0) (e 0) und hs ss us]) [1, 0, 2, 3] [1, 0, 2, 3] rfl rfl (fun _ => rfl) (fun ρ _ hρ => ?_)
    subst hρ
    refine z_eq (ws' := zf [soW Z a N (ins N) (mvF N) (N 3), gW Z a (N 4) (N 5) (bkL N), pW Z a (N 6) (pkF N 0) (pkF N 1) (pkF N 2) (pkF N 3) (pkF N 4) (pkF N 5) (pkF N 6) (pkF N 7) (pkF N 8) (pkF N 9), xW Z x (a 0) (b 0) (a3 0) (b4 0) (c 0) (e 0) und hs ss us]) rfl ?_
    refine z_ifb_eq (tgt := 39) ok dX6_linkState_32 (by decide) (fun c32 => ?_) (fun c32 => ?_)
    · -- t
      refine z_iconst ok dX6_linkState_39 ?_
      exact fin 0 () 40 _ _ _ dX6_linkState_40 (trivial) (by rw [if_neg (by omega)]; rw [show 10 + lkc N bb d = lkm N bb d by omega] at c32; first | exact (zb_t ⟨hnn, c32⟩).symm | exact (zb_f (fun z => c32 z.2)).symm) (by decide) (by decide)
    · -- f
      refine z_iconst ok dX6_linkState_35 ?_
      refine z_goto (tgt := 40) ok dX6_linkState_36 (by decide) ?_
      exact fin 1 () 40 _ _ _ dX6_linkState_40 (trivial) (by rw [if_neg (by omega)]; rw [show 10 + lkc N bb d = lkm N bb d by omega] at c32; first | exact (zb_t ⟨hnn, c32⟩).symm | exact (zb_f (fun z => c32 z.2)).symm) (by decide) (by decide)
  · -- f
    refine z_bipush ok dX6_linkState_18 (by decide) ?_
    exact fin (-6) () 20 _ _ _ dX6_linkState_20 (trivial) (by rw [if_pos (by omega)]) (by decide) (by decide)
set_option maxRecDepth 20000 in
theorem c_X6_changeLink {l : Launch} {Z : zZ} {x a b a3 b4 c e : Nat → Nat} {und : Int} {hs ss : List Nat} {us : Int → Int} {N : Int → Int} {ef : Int} {op ln nm qu : Int → Int} {qd : Int} {bb d w : Int} (hw : wf N) (hb : isB N bb) (hd : 0 ≤ d ∧ d ≤ 3) (hnn : 0 ≤ nb N bb d) (hww : 0 ≤ w ∧ w ≤ 1) : zI (T := (Int × (Int → Int)) × (Int → Int) × (Int → Int) × (Int → Int) × Int) l yX6_changeLink (Cond.code yX6_changeLink cX6_changeLink 6 (some .int) :: wsL_law) ({ frames := 5, cells := 0, slots := 0, locals := 122 } : Room) Z [.ref (x 0), .int (iI bb), .int (iI d), .int (iI w)] (zf [soW Z a N (ins N) (mvF N) (N 3), gW Z a (N 4) (N 5) (bkL N), pW Z a (N 6) (pkF N 0) (pkF N 1) (pkF N 2) (pkF N 3) (pkF N 4) (pkF N 5) (pkF N 6) (pkF N 7) (pkF N 8) (pkF N 9), xW Z x (a 0) (b 0) (a3 0) (b4 0) (c 0) (e 0) und hs ss us, rW Z b ef op ln nm qu qd]) (fun u => zf [soW Z a (zu N (lkm N bb d) (1 - w)) (ins (zu N (lkm N bb d) (1 - w))) (mvF (zu N (lkm N bb d) (1 - w))) ((zu N (lkm N bb d) (1 - w)) 3), gW Z a ((zu N (lkm N bb d) (1 - w)) 4) ((zu N (lkm N bb d) (1 - w)) 5) (bkL (zu N (lkm N bb d) (1 - w))), pW Z a ((zu N (lkm N bb d) (1 - w)) 6) (pkF (zu N (lkm N bb d) (1 - w)) 0) (pkF (zu N (lkm N bb d) (1 - w)) 1) (pkF (zu N (lkm N bb d) (1 - w)) 2) (pkF (zu N (lkm N bb d) (1 - w)) 3) (pkF (zu N (lkm N bb d) (1 - w)) 4) (pkF (zu N (lkm N bb d) (1 - w)) 5) (pkF (zu N (lkm N bb d) (1 - w)) 6) (pkF (zu N (lkm N bb d) (1 - w)) 7) (pkF (zu N (lkm N bb d) (1 - w)) 8) (pkF (zu N (lkm N bb d) (1 - w)) 9), xW Z x (a 0) (b 0) (a3 0) (b4 0) (c 0) (e 0) und hs ss us, rW Z b u.1.1 u.1.2 u.2.1 u.2.2.1 u.2.2.2.1 u.2.2.2.2]) (fun ρ u => ρ = 1 - N (lkm N bb d) ∧ rOK (zu N (lkm N bb d) (1 - w)) u.1.1 u.1.2 u.2.1) := by
  refine zI_of (C := RX6) (by decide +kernel) rfl (Nat.le_of_ble_eq_true rfl) (fun _ => True) znI (fun X ok fin => ?_)
  have hcr := wf_cr hw
  have hlk := lkc_rng (b := bb) (d := d) hw hb hd
  have hb0 := id hb
  unfold isB at hb0
  have hl2 := lkm_rng hw hb0 hd hnn
  have hle := hlk.2.2.2 hnn
  have hbit := hw.2.2.2.2.2.2.1 _ hl2.1 hl2.2
  have hbx : N (10 + lkc N bb d) = N (lkm N bb d) := by rw [show 10 + lkc N bb d = lkm N bb d by omega]
  refine z_lsub ok (lv' := [(0, .ref (x 0)), (1, .int (iI bb)), (2, .int (iI d)), (3, .int (iI w))]) [0, 1, 2, 3] rfl ?_
  refine z_aload_n ok dX6_changeLink_0 rfl ?_
  refine z_get (v := .ref (a 0)) ok zc6 16 rfl 0 (by decide) qf_RX6_12 rfl rfl dX6_changeLink_1 ?_
  refine z_get (v := .ref (a 2)) ok zc5 0 rfl 1 (by decide) qf_RX6_88 rfl rfl dX6_changeLink_4 ?_
  refine z_iload_n ok dX6_changeLink_7 rfl ?_
  refine z_iload_n ok dX6_changeLink_8 rfl ?_
  refine z_callVif ok (fun l => c_X0_linkAt  (hw) (by omega) (by omega)) zm_X0_linkAt zv_X0_linkAt qm_RX6_261 dX6_changeLink_9 (by decide) (by decide) rfl rfl (Nat.le_of_ble_eq_true rfl) (q0 := 0) rfl rfl rfl (L := [soW Z a N (ins N) (mvF N) (N 3), gW Z a (N 4) (N 5) (bkL N), pW Z a (N 6) (pkF N 0) (pkF N 1) (pkF N 2) (pkF N 3) (pkF N 4) (pkF N 5) (pkF N 6) (pkF N 7) (pkF N 8) (pkF N 9), xW Z x (a 0) (b 0) (a3 0) (b4 0) (c 0) (e 0) und hs ss us, rW Z b ef op ln nm qu qd]) (Lr := [soW Z a N (ins N) (mvF N) (N 3), pW Z a (N 6) (pkF N 0) (pkF N 1) (pkF N 2) (pkF N 3) (pkF N 4) (pkF N 5) (pkF N 6) (pkF N 7) (pkF N 8) (pkF N 9), xW Z x (a 0) (b 0) (a3 0) (b4 0) (c 0) (e 0) und hs ss us, rW Z b ef op ln nm qu qd]) [1, 0, 2, 3, 4] [1, 0, 2, 3, 4] rfl rfl (fun _ => rfl) (fun ρ _ hρ => ?_)
  subst hρ
  refine z_eq (ws' := zf [soW Z a N (ins N) (mvF N) (N 3), gW Z a (N 4) (N 5) (bkL N), pW Z a (N 6) (pkF N 0) (pkF N 1) (pkF N 2) (pkF N 3) (pkF N 4) (pkF N 5) (pkF N 6) (pkF N 7) (pkF N 8) (pkF N 9), xW Z x (a 0) (b 0) (a3 0) (b4 0) (c 0) (e 0) und hs ss us, rW Z b ef op ln nm qu qd]) rfl ?_
  refine z_istore (lv' := [(4, .int (iI (lkc N bb d))), (0, .ref (x 0)), (1, .int (iI bb)), (2, .int (iI d)), (3, .int (iI w))]) ok dX6_changeLink_12 (by decide) rfl ?_
  refine z_aload_n ok dX6_changeLink_14 rfl ?_
  refine z_get (v := .ref (a 0)) ok zc6 16 rfl 0 (by decide) qf_RX6_12 rfl rfl dX6_changeLink_15 ?_
  refine z_get (v := .ref (a 2)) ok zc5 0 rfl 1 (by decide) qf_RX6_88 rfl rfl dX6_changeLink_18 ?_
  refine z_iload ok dX6_changeLink_21 rfl ?_
  refine z_callVif ok (fun l => c_X0_isWhole  (by omega) (by omega)) zm_X0_isWhole zv_X0_isWhole qm_RX6_264 dX6_changeLink_23 (by decide) (by decide) rfl rfl (Nat.le_of_ble_eq_true rfl) (q0 := 0) rfl rfl rfl (L := [soW Z a N (ins N) (mvF N) (N 3), gW Z a (N 4) (N 5) (bkL N), pW Z a (N 6) (pkF N 0) (pkF N 1) (pkF N 2) (pkF N 3) (pkF N 4) (pkF N 5) (pkF N 6) (pkF N 7) (pkF N 8) (pkF N 9), xW Z x (a 0) (b 0) (a3 0) (b4 0) (c 0) (e 0) und hs ss us, rW Z b ef op ln nm qu qd]) (Lr := [soW Z a N (ins N) (mvF N) (N 3), pW Z a (N 6) (pkF N 0) (pkF N 1) (pkF N 2) (pkF N 3) (pkF N 4) (pkF N 5) (pkF N 6) (pkF N 7) (pkF N 8) (pkF N 9), xW Z x (a 0) (b 0) (a3 0) (b4 0) (c 0) (e 0) und hs ss us, rW Z b ef op ln nm qu qd]) [1, 0, 2, 3, 4] [1, 0, 2, 3, 4] rfl rfl (fun _ => rfl) (fun ρ _ hρ => ?_)
  subst hρ
  refine z_eq (ws' := zf [soW Z a N (ins N) (mvF N) (N 3), gW Z a (N 4) (N 5) (bkL N), pW Z a (N 6) (pkF N 0) (pkF N 1) (pkF N 2) (pkF N 3) (pkF N 4) (pkF N 5) (pkF N 6) (pkF N 7) (pkF N 8) (pkF N 9), xW Z x (a 0) (b 0) (a3 0) (b4 0) (c 0) (e 0) und hs ss us, rW Z b ef op ln nm qu qd]) rfl ?_
  refine z_ifb_eq (tgt := 33) ok dX6_changeLink_26 (by decide) (fun c26 => ?_) (fun c26 => ?_)
  · -- t
    refine z_iconst ok dX6_changeLink_33 ?_
    refine z_istore (lv' := [(5, .int (iI 0)), (4, .int (iI (lkc N bb d))), (0, .ref (x 0)), (1, .int (iI bb)), (2, .int (iI d)), (3, .int (iI w))]) ok dX6_changeLink_34 (by decide) rfl ?_
    refine z_aload_n ok dX6_changeLink_36 rfl ?_
    refine z_get (v := .ref (a 0)) ok zc6 16 rfl 0 (by decide) qf_RX6_12 rfl rfl dX6_changeLink_37 ?_
    refine z_get (v := .ref (a 2)) ok zc5 0 rfl 1 (by decide) qf_RX6_88 rfl rfl dX6_changeLink_40 ?_
    refine z_iload ok dX6_changeLink_43 rfl ?_
    refine z_iload_n ok dX6_changeLink_45 rfl ?_
    refine z_iconst ok dX6_changeLink_46 ?_
    refine z_icmp_ne (tgt := 54) ok dX6_changeLink_47 (by decide) (by omega) (by omega) (fun c47 => ?_) (fun c47 => ?_)
    · -- t
      refine z_iconst ok dX6_changeLink_54 ?_
      refine z_callVvf ok (fun l => c_X0_makeWhole  (by omega) (by decide)) zm_X0_makeWhole zv_X0_makeWhole qm_RX6_267 dX6_changeLink_55 (by decide) (by decide) rfl rfl (Nat.le_of_ble_eq_true rfl) (q0 := 0) rfl rfl rfl (L := [soW Z a N (ins N) (mvF N) (N 3), gW Z a (N 4) (N 5) (bkL N), pW Z a (N 6) (pkF N 0) (pkF N 1) (pkF N 2) (pkF N 3) (pkF N 4) (pkF N 5) (pkF N 6) (pkF N 7) (pkF N 8) (pkF N 9), xW Z x (a 0) (b 0) (a3 0) (b4 0) (c 0) (e 0) und hs ss us, rW Z b ef op ln nm qu qd]) (Lr := [soW Z a N (ins N) (mvF N) (N 3), pW Z a (N 6) (pkF N 0) (pkF N 1) (pkF N 2) (pkF N 3) (pkF N 4) (pkF N 5) (pkF N 6) (pkF N 7) (pkF N 8) (pkF N 9), xW Z x (a 0) (b 0) (a3 0) (b4 0) (c 0) (e 0) und hs ss us, rW Z b ef op ln nm qu qd]) [1, 0, 2, 3, 4] [1, 0, 2, 3, 4] rfl rfl (fun _ => rfl) (fun u55 hp55 => ?_)
      obtain ⟨bo_55, rfl⟩ : ∃ z, z = u55 := ⟨_, rfl⟩
      try dsimp only at hp55
      refine z_eq (ws' := zf [soW Z a N (ins N) (mvF N) (N 3), gW Z a (N 4) (N 5) bo_55, pW Z a (N 6) (pkF N 0) (pkF N 1) (pkF N 2) (pkF N 3) (pkF N 4) (pkF N 5) (pkF N 6) (pkF N 7) (pkF N 8) (pkF N 9), xW Z x (a 0) (b 0) (a3 0) (b4 0) (c 0) (e 0) und hs ss us, rW Z b ef op ln nm qu qd]) rfl ?_
      have hbo := hp55.trans (congrArg bkL (show _ = zu N (lkm N bb d) (1 - w) by rw [show 10 + lkc N bb d = lkm N bb d by omega]; congr 1; omega))
      subst hbo
      refine z_lnk ok _ (by omega) ?_
      refine z_aload_n ok dX6_changeLink_58 rfl ?_
      refine z_callVv0 ok (fun l => c_X6_learnRoutes  (wf_lk hw hl2 (by omega))) zm_X6_learnRoutes zv_X6_learnRoutes qm_RX6_58 dX6_changeLink_59 (by decide) (by decide) rfl rfl (Nat.le_of_ble_eq_true rfl) (q0 := 16) rfl rfl rfl (fun u59 hp59 => ?_)
      obtain ⟨ro_59, ln_59, nm_59, qu_59, qd_59⟩ := u59
      try dsimp only at hp59
      refine z_eq (ws' := zf [soW Z a (zu N (lkm N bb d) (1 - w)) (ins (zu N (lkm N bb d) (1 - w))) (mvF (zu N (lkm N bb d) (1 - w))) ((zu N (lkm N bb d) (1 - w)) 3), gW Z a ((zu N (lkm N bb d) (1 - w)) 4) ((zu N (lkm N bb d) (1 - w)) 5) (bkL (zu N (lkm N bb d) (1 - w))), pW Z a ((zu N (lkm N bb d) (1 - w)) 6) (pkF (zu N (lkm N bb d) (1 - w)) 0) (pkF (zu N (lkm N bb d) (1 - w)) 1) (pkF (zu N (lkm N bb d) (1 - w)) 2) (pkF (zu N (lkm N bb d) (1 - w)) 3) (pkF (zu N (lkm N bb d) (1 - w)) 4) (pkF (zu N (lkm N bb d) (1 - w)) 5) (pkF (zu N (lkm N bb d) (1 - w)) 6) (pkF (zu N (lkm N bb d) (1 - w)) 7) (pkF (zu N (lkm N bb d) (1 - w)) 8) (pkF (zu N (lkm N bb d) (1 - w)) 9), xW Z x (a 0) (b 0) (a3 0) (b4 0) (c 0) (e 0) und hs ss us, rW Z b ro_59.1 ro_59.2 ln_59 nm_59 qu_59 qd_59]) rfl ?_
      refine z_iload ok dX6_changeLink_62 rfl ?_
      exact fin 0 ((ro_59.1, ro_59.2), ln_59, nm_59, qu_59, qd_59) 64 _ _ _ dX6_changeLink_64 (trivial) (⟨by rw [hbx] at c26; omega, hp59⟩) (by decide) (by decide)
    · -- f
      refine z_iconst ok dX6_changeLink_50 ?_
      refine z_goto (tgt := 55) ok dX6_changeLink_51 (by decide) ?_
      refine z_callVvf ok (fun l => c_X0_makeWhole  (by omega) (by decide)) zm_X0_makeWhole zv_X0_makeWhole qm_RX6_267 dX6_changeLink_55 (by decide) (by decide) rfl rfl (Nat.le_of_ble_eq_true rfl) (q0 := 0) rfl rfl rfl (L := [soW Z a N (ins N) (mvF N) (N 3), gW Z a (N 4) (N 5) (bkL N), pW Z a (N 6) (pkF N 0) (pkF N 1) (pkF N 2) (pkF N 3) (pkF N 4) (pkF N 5) (pkF N 6) (pkF N 7) (pkF N 8) (pkF N 9), xW Z x (a 0) (b 0) (a3 0) (b4 0) (c 0) (e 0) und hs ss us, rW Z b ef op ln nm qu qd]) (Lr := [soW Z a N (ins N) (mvF N) (N 3), pW Z a (N 6) (pkF N 0) (pkF N 1) (pkF N 2) (pkF N 3) (pkF N 4) (pkF N 5) (pkF N 6) (pkF N 7) (pkF N 8) (pkF N 9), xW Z x (a 0) (b 0) (a3 0) (b4 0) (c 0) (e 0) und hs ss us, rW Z b ef op ln nm qu qd]) [1, 0, 2, 3, 4] [1, 0, 2, 3, 4] rfl rfl (fun _ => rfl) (fun u55 hp55 => ?_)
      obtain ⟨bo_55, rfl⟩ : ∃ z, z = u55 := ⟨_, rfl⟩
      try dsimp only at hp55
      refine z_eq (ws' := zf [soW Z a N (ins N) (mvF N) (N 3), gW Z a (N 4) (N 5) bo_55, pW Z a (N 6) (pkF N 0) (pkF N 1) (pkF N 2) (pkF N 3) (pkF N 4) (pkF N 5) (pkF N 6) (pkF N 7) (pkF N 8) (pkF N 9), xW Z x (a 0) (b 0) (a3 0) (b4 0) (c 0) (e 0) und hs ss us, rW Z b ef op ln nm qu qd]) rfl ?_
      have hbo := hp55.trans (congrArg bkL (show _ = zu N (lkm N bb d) (1 - w) by rw [show 10 + lkc N bb d = lkm N bb d by omega]; congr 1; omega))
      subst hbo
      refine z_lnk ok _ (by omega) ?_
      refine z_aload_n ok dX6_changeLink_58 rfl ?_
      refine z_callVv0 ok (fun l => c_X6_learnRoutes  (wf_lk hw hl2 (by omega))) zm_X6_learnRoutes zv_X6_learnRoutes qm_RX6_58 dX6_changeLink_59 (by decide) (by decide) rfl rfl (Nat.le_of_ble_eq_true rfl) (q0 := 16) rfl rfl rfl (fun u59 hp59 => ?_)
      obtain ⟨ro_59, ln_59, nm_59, qu_59, qd_59⟩ := u59
      try dsimp only at hp59
      refine z_eq (ws' := zf [soW Z a (zu N (lkm N bb d) (1 - w)) (ins (zu N (lkm N bb d) (1 - w))) (mvF (zu N (lkm N bb d) (1 - w))) ((zu N (lkm N bb d) (1 - w)) 3), gW Z a ((zu N (lkm N bb d) (1 - w)) 4) ((zu N (lkm N bb d) (1 - w)) 5) (bkL (zu N (lkm N bb d) (1 - w))), pW Z a ((zu N (lkm N bb d) (1 - w)) 6) (pkF (zu N (lkm N bb d) (1 - w)) 0) (pkF (zu N (lkm N bb d) (1 - w)) 1) (pkF (zu N (lkm N bb d) (1 - w)) 2) (pkF (zu N (lkm N bb d) (1 - w)) 3) (pkF (zu N (lkm N bb d) (1 - w)) 4) (pkF (zu N (lkm N bb d) (1 - w)) 5) (pkF (zu N (lkm N bb d) (1 - w)) 6) (pkF (zu N (lkm N bb d) (1 - w)) 7) (pkF (zu N (lkm N bb d) (1 - w)) 8) (pkF (zu N (lkm N bb d) (1 - w)) 9), xW Z x (a 0) (b 0) (a3 0) (b4 0) (c 0) (e 0) und hs ss us, rW Z b ro_59.1 ro_59.2 ln_59 nm_59 qu_59 qd_59]) rfl ?_
      refine z_iload ok dX6_changeLink_62 rfl ?_
      exact fin 0 ((ro_59.1, ro_59.2), ln_59, nm_59, qu_59, qd_59) 64 _ _ _ dX6_changeLink_64 (trivial) (⟨by rw [hbx] at c26; omega, hp59⟩) (by decide) (by decide)
  · -- f
    refine z_iconst ok dX6_changeLink_29 ?_
    refine z_goto (tgt := 34) ok dX6_changeLink_30 (by decide) ?_
    refine z_istore (lv' := [(5, .int (iI 1)), (4, .int (iI (lkc N bb d))), (0, .ref (x 0)), (1, .int (iI bb)), (2, .int (iI d)), (3, .int (iI w))]) ok dX6_changeLink_34 (by decide) rfl ?_
    refine z_aload_n ok dX6_changeLink_36 rfl ?_
    refine z_get (v := .ref (a 0)) ok zc6 16 rfl 0 (by decide) qf_RX6_12 rfl rfl dX6_changeLink_37 ?_
    refine z_get (v := .ref (a 2)) ok zc5 0 rfl 1 (by decide) qf_RX6_88 rfl rfl dX6_changeLink_40 ?_
    refine z_iload ok dX6_changeLink_43 rfl ?_
    refine z_iload_n ok dX6_changeLink_45 rfl ?_
    refine z_iconst ok dX6_changeLink_46 ?_
    refine z_icmp_ne (tgt := 54) ok dX6_changeLink_47 (by decide) (by omega) (by omega) (fun c47 => ?_) (fun c47 => ?_)
    · -- t
      refine z_iconst ok dX6_changeLink_54 ?_
      refine z_callVvf ok (fun l => c_X0_makeWhole  (by omega) (by decide)) zm_X0_makeWhole zv_X0_makeWhole qm_RX6_267 dX6_changeLink_55 (by decide) (by decide) rfl rfl (Nat.le_of_ble_eq_true rfl) (q0 := 0) rfl rfl rfl (L := [soW Z a N (ins N) (mvF N) (N 3), gW Z a (N 4) (N 5) (bkL N), pW Z a (N 6) (pkF N 0) (pkF N 1) (pkF N 2) (pkF N 3) (pkF N 4) (pkF N 5) (pkF N 6) (pkF N 7) (pkF N 8) (pkF N 9), xW Z x (a 0) (b 0) (a3 0) (b4 0) (c 0) (e 0) und hs ss us, rW Z b ef op ln nm qu qd]) (Lr := [soW Z a N (ins N) (mvF N) (N 3), pW Z a (N 6) (pkF N 0) (pkF N 1) (pkF N 2) (pkF N 3) (pkF N 4) (pkF N 5) (pkF N 6) (pkF N 7) (pkF N 8) (pkF N 9), xW Z x (a 0) (b 0) (a3 0) (b4 0) (c 0) (e 0) und hs ss us, rW Z b ef op ln nm qu qd]) [1, 0, 2, 3, 4] [1, 0, 2, 3, 4] rfl rfl (fun _ => rfl) (fun u55 hp55 => ?_)
      obtain ⟨bo_55, rfl⟩ : ∃ z, z = u55 := ⟨_, rfl⟩
      try dsimp only at hp55
      refine z_eq (ws' := zf [soW Z a N (ins N) (mvF N) (N 3), gW Z a (N 4) (N 5) bo_55, pW Z a (N 6) (pkF N 0) (pkF N 1) (pkF N 2) (pkF N 3) (pkF N 4) (pkF N 5) (pkF N 6) (pkF N 7) (pkF N 8) (pkF N 9), xW Z x (a 0) (b 0) (a3 0) (b4 0) (c 0) (e 0) und hs ss us, rW Z b ef op ln nm qu qd]) rfl ?_
      have hbo := hp55.trans (congrArg bkL (show _ = zu N (lkm N bb d) (1 - w) by rw [show 10 + lkc N bb d = lkm N bb d by omega]; congr 1; omega))
      subst hbo
      refine z_lnk ok _ (by omega) ?_
      refine z_aload_n ok dX6_changeLink_58 rfl ?_
      refine z_callVv0 ok (fun l => c_X6_learnRoutes  (wf_lk hw hl2 (by omega))) zm_X6_learnRoutes zv_X6_learnRoutes qm_RX6_58 dX6_changeLink_59 (by decide) (by decide) rfl rfl (Nat.le_of_ble_eq_true rfl) (q0 := 16) rfl rfl rfl (fun u59 hp59 => ?_)
      obtain ⟨ro_59, ln_59, nm_59, qu_59, qd_59⟩ := u59
      try dsimp only at hp59
      refine z_eq (ws' := zf [soW Z a (zu N (lkm N bb d) (1 - w)) (ins (zu N (lkm N bb d) (1 - w))) (mvF (zu N (lkm N bb d) (1 - w))) ((zu N (lkm N bb d) (1 - w)) 3), gW Z a ((zu N (lkm N bb d) (1 - w)) 4) ((zu N (lkm N bb d) (1 - w)) 5) (bkL (zu N (lkm N bb d) (1 - w))), pW Z a ((zu N (lkm N bb d) (1 - w)) 6) (pkF (zu N (lkm N bb d) (1 - w)) 0) (pkF (zu N (lkm N bb d) (1 - w)) 1) (pkF (zu N (lkm N bb d) (1 - w)) 2) (pkF (zu N (lkm N bb d) (1 - w)) 3) (pkF (zu N (lkm N bb d) (1 - w)) 4) (pkF (zu N (lkm N bb d) (1 - w)) 5) (pkF (zu N (lkm N bb d) (1 - w)) 6) (pkF (zu N (lkm N bb d) (1 - w)) 7) (pkF (zu N (lkm N bb d) (1 - w)) 8) (pkF (zu N (lkm N bb d) (1 - w)) 9), xW Z x (a 0) (b 0) (a3 0) (b4 0) (c 0) (e 0) und hs ss us, rW Z b ro_59.1 ro_59.2 ln_59 nm_59 qu_59 qd_59]) rfl ?_
      refine z_iload ok dX6_changeLink_62 rfl ?_
      exact fin 1 ((ro_59.1, ro_59.2), ln_59, nm_59, qu_59, qd_59) 64 _ _ _ dX6_changeLink_64 (trivial) (⟨by rw [hbx] at c26; omega, hp59⟩) (by decide) (by decide)
    · -- f
      refine z_iconst ok dX6_changeLink_50 ?_
      refine z_goto (tgt := 55) ok dX6_changeLink_51 (by decide) ?_
      refine z_callVvf ok (fun l => c_X0_makeWhole  (by omega) (by decide)) zm_X0_makeWhole zv_X0_makeWhole qm_RX6_267 dX6_changeLink_55 (by decide) (by decide) rfl rfl (Nat.le_of_ble_eq_true rfl) (q0 := 0) rfl rfl rfl (L := [soW Z a N (ins N) (mvF N) (N 3), gW Z a (N 4) (N 5) (bkL N), pW Z a (N 6) (pkF N 0) (pkF N 1) (pkF N 2) (pkF N 3) (pkF N 4) (pkF N 5) (pkF N 6) (pkF N 7) (pkF N 8) (pkF N 9), xW Z x (a 0) (b 0) (a3 0) (b4 0) (c 0) (e 0) und hs ss us, rW Z b ef op ln nm qu qd]) (Lr := [soW Z a N (ins N) (mvF N) (N 3), pW Z a (N 6) (pkF N 0) (pkF N 1) (pkF N 2) (pkF N 3) (pkF N 4) (pkF N 5) (pkF N 6) (pkF N 7) (pkF N 8) (pkF N 9), xW Z x (a 0) (b 0) (a3 0) (b4 0) (c 0) (e 0) und hs ss us, rW Z b ef op ln nm qu qd]) [1, 0, 2, 3, 4] [1, 0, 2, 3, 4] rfl rfl (fun _ => rfl) (fun u55 hp55 => ?_)
      obtain ⟨bo_55, rfl⟩ : ∃ z, z = u55 := ⟨_, rfl⟩
      try dsimp only at hp55
      refine z_eq (ws' := zf [soW Z a N (ins N) (mvF N) (N 3), gW Z a (N 4) (N 5) bo_55, pW Z a (N 6) (pkF N 0) (pkF N 1) (pkF N 2) (pkF N 3) (pkF N 4) (pkF N 5) (pkF N 6) (pkF N 7) (pkF N 8) (pkF N 9), xW Z x (a 0) (b 0) (a3 0) (b4 0) (c 0) (e 0) und hs ss us, rW Z b ef op ln nm qu qd]) rfl ?_
      have hbo := hp55.trans (congrArg bkL (show _ = zu N (lkm N bb d) (1 - w) by rw [show 10 + lkc N bb d = lkm N bb d by omega]; congr 1; omega))
      subst hbo
      refine z_lnk ok _ (by omega) ?_
      refine z_aload_n ok dX6_changeLink_58 rfl ?_
      refine z_callVv0 ok (fun l => c_X6_learnRoutes  (wf_lk hw hl2 (by omega))) zm_X6_learnRoutes zv_X6_learnRoutes qm_RX6_58 dX6_changeLink_59 (by decide) (by decide) rfl rfl (Nat.le_of_ble_eq_true rfl) (q0 := 16) rfl rfl rfl (fun u59 hp59 => ?_)
      obtain ⟨ro_59, ln_59, nm_59, qu_59, qd_59⟩ := u59
      try dsimp only at hp59
      refine z_eq (ws' := zf [soW Z a (zu N (lkm N bb d) (1 - w)) (ins (zu N (lkm N bb d) (1 - w))) (mvF (zu N (lkm N bb d) (1 - w))) ((zu N (lkm N bb d) (1 - w)) 3), gW Z a ((zu N (lkm N bb d) (1 - w)) 4) ((zu N (lkm N bb d) (1 - w)) 5) (bkL (zu N (lkm N bb d) (1 - w))), pW Z a ((zu N (lkm N bb d) (1 - w)) 6) (pkF (zu N (lkm N bb d) (1 - w)) 0) (pkF (zu N (lkm N bb d) (1 - w)) 1) (pkF (zu N (lkm N bb d) (1 - w)) 2) (pkF (zu N (lkm N bb d) (1 - w)) 3) (pkF (zu N (lkm N bb d) (1 - w)) 4) (pkF (zu N (lkm N bb d) (1 - w)) 5) (pkF (zu N (lkm N bb d) (1 - w)) 6) (pkF (zu N (lkm N bb d) (1 - w)) 7) (pkF (zu N (lkm N bb d) (1 - w)) 8) (pkF (zu N (lkm N bb d) (1 - w)) 9), xW Z x (a 0) (b 0) (a3 0) (b4 0) (c 0) (e 0) und hs ss us, rW Z b ro_59.1 ro_59.2 ln_59 nm_59 qu_59 qd_59]) rfl ?_
      refine z_iload ok dX6_changeLink_62 rfl ?_
      exact fin 1 ((ro_59.1, ro_59.2), ln_59, nm_59, qu_59, qd_59) 64 _ _ _ dX6_changeLink_64 (trivial) (⟨by rw [hbx] at c26; omega, hp59⟩) (by decide) (by decide)
set_option maxRecDepth 20000 in
theorem c_X6_ofBox {l : Launch} {Z : zZ} {x a b a3 b4 c e : Nat → Nat} {und : Int} {hs ss : List Nat} {us : Int → Int} {N : Int → Int} {bb w : Int} (hw : wf N) (hbbr : -2147483648 ≤ bb ∧ bb < 2147483648) (hwr : -2147483648 ≤ w ∧ w < 2147483648) : zI (T := Unit) l yX6_ofBox (Cond.code yX6_ofBox cX6_ofBox 3 (some .int) :: wsL_law) ({ frames := 3, cells := 0, slots := 0, locals := 70 } : Room) Z [.ref (x 0), .int (iI bb), .int (iI w)] (zf [soW Z a N (ins N) (mvF N) (N 3), gW Z a (N 4) (N 5) (bkL N), pW Z a (N 6) (pkF N 0) (pkF N 1) (pkF N 2) (pkF N 3) (pkF N 4) (pkF N 5) (pkF N 6) (pkF N 7) (pkF N 8) (pkF N 9), xW Z x (a 0) (b 0) (a3 0) (b4 0) (c 0) (e 0) und hs ss us]) (fun _ => zf [soW Z a N (ins N) (mvF N) (N 3), gW Z a (N 4) (N 5) (bkL N), pW Z a (N 6) (pkF N 0) (pkF N 1) (pkF N 2) (pkF N 3) (pkF N 4) (pkF N 5) (pkF N 6) (pkF N 7) (pkF N 8) (pkF N 9), xW Z x (a 0) (b 0) (a3 0) (b4 0) (c 0) (e 0) und hs ss us]) (fun ρ _ => ρ = obR N bb w) := by
  refine zI_of (C := RX6) (by decide +kernel) rfl (Nat.le_of_ble_eq_true rfl) (fun _ => True) znI (fun X ok fin => ?_)
  obtain ⟨w0, w1, w2, hc, hr, w6, wl, wp⟩ := id hw
  have hcr := cr_rng hc hr
  refine z_lsub ok (lv' := [(0, .ref (x 0)), (1, .int (iI bb)), (2, .int (iI w))]) [0, 1, 2] rfl ?_
  refine z_aload_n ok dX6_ofBox_0 rfl ?_
  refine z_get (v := .ref (a 0)) ok zc6 16 rfl 0 (by decide) qf_RX6_12 rfl rfl dX6_ofBox_1 ?_
  refine z_get (v := .ref (a 2)) ok zc5 0 rfl 1 (by decide) qf_RX6_88 rfl rfl dX6_ofBox_4 ?_
  refine z_iload_n ok dX6_ofBox_7 rfl ?_
  refine z_callVif ok (fun l => c_X0_has  (by omega) (by omega) (by omega)) zm_X0_has zv_X0_has qm_RX6_171 dX6_ofBox_8 (by decide) (by decide) rfl rfl (Nat.le_of_ble_eq_true rfl) (q0 := 0) rfl rfl rfl (L := [soW Z a N (ins N) (mvF N) (N 3), gW Z a (N 4) (N 5) (bkL N), pW Z a (N 6) (pkF N 0) (pkF N 1) (pkF N 2) (pkF N 3) (pkF N 4) (pkF N 5) (pkF N 6) (pkF N 7) (pkF N 8) (pkF N 9), xW Z x (a 0) (b 0) (a3 0) (b4 0) (c 0) (e 0) und hs ss us]) (Lr := [soW Z a N (ins N) (mvF N) (N 3), pW Z a (N 6) (pkF N 0) (pkF N 1) (pkF N 2) (pkF N 3) (pkF N 4) (pkF N 5) (pkF N 6) (pkF N 7) (pkF N 8) (pkF N 9), xW Z x (a 0) (b 0) (a3 0) (b4 0) (c 0) (e 0) und hs ss us]) [1, 0, 2, 3] [1, 0, 2, 3] rfl rfl (fun _ => rfl) (fun ρ _ hρ => ?_)
  subst hρ
  refine z_eq (ws' := zf [soW Z a N (ins N) (mvF N) (N 3), gW Z a (N 4) (N 5) (bkL N), pW Z a (N 6) (pkF N 0) (pkF N 1) (pkF N 2) (pkF N 3) (pkF N 4) (pkF N 5) (pkF N 6) (pkF N 7) (pkF N 8) (pkF N 9), xW Z x (a 0) (b 0) (a3 0) (b4 0) (c 0) (e 0) und hs ss us]) rfl ?_
  refine z_ifb_ne (tgt := 16) ok dX6_ofBox_11 (by decide) (fun c11 => ?_) (fun c11 => ?_)
  · -- t
    refine z_iload_n ok dX6_ofBox_16 rfl ?_
    refine z_if_lt (tgt := 26) ok dX6_ofBox_17 (by decide) (by omega) (fun c17 => ?_) (fun c17 => ?_)
    · -- t
      refine z_bipush ok dX6_ofBox_26 (by decide) ?_
      exact fin (-2) () 28 _ _ _ dX6_ofBox_28 (trivial) (by unfold obR; rw [zif_t c11, if_neg (by omega), if_neg (by omega), if_neg (by omega), if_neg (by omega), if_neg (by omega)]) (by decide) (by decide)
    · -- f
      refine z_iload_n ok dX6_ofBox_20 rfl ?_
      refine z_bipush ok dX6_ofBox_21 (by decide) ?_
      refine z_icmp_le (tgt := 29) ok dX6_ofBox_23 (by decide) (by omega) (by omega) (fun c23 => ?_) (fun c23 => ?_)
      · -- t
        have hb0 := id c11
        unfold isB at hb0
        refine z_iload_n ok dX6_ofBox_29 rfl ?_
        rcases (show w < 0 ∨ 6 < w ∨ w = 0 ∨ w = 1 ∨ w = 2 ∨ w = 3 ∨ w = 4 ∨ w = 5 ∨ w = 6 by omega) with c30 | c30 | c30 | c30 | c30 | c30 | c30 | c30 | c30
        · -- switch
          refine z_tableOut (tgt := 120) ok dX6_ofBox_30 (by omega) (by omega) (by decide) ?_
          refine z_aload_n ok dX6_ofBox_120 rfl ?_
          refine z_get (v := .ref (a 0)) ok zc6 16 rfl 0 (by decide) qf_RX6_12 rfl rfl dX6_ofBox_121 ?_
          refine z_get (v := .ref (a 15)) ok zc5 0 rfl 4 (by decide) qf_RX6_178 rfl rfl dX6_ofBox_124 ?_
          refine z_iload_n ok dX6_ofBox_127 rfl ?_
          refine z_iconst ok dX6_ofBox_128 ?_
          refine z_imul ok dX6_ofBox_129 ?_
          refine z_iload_n ok dX6_ofBox_130 rfl ?_
          refine z_iadd ok dX6_ofBox_131 ?_
          refine z_bipush ok dX6_ofBox_132 (by decide) ?_
          refine z_isub ok dX6_ofBox_134 ?_
          refine z_iale (f := mvF N) (v := N (60 + (((bb * 4) + w) - 7))) ok 3 rfl rfl dX6_ofBox_135 (by omega) (by decide) ?_
          exact fin (N (60 + (((bb * 4) + w) - 7))) () 136 _ _ _ dX6_ofBox_136 (trivial) (by unfold obR; rw [zif_t c11, if_neg (by omega), if_pos (by omega)]; congr 1; omega) (by decide) (by decide)
        · -- switch
          refine z_tableOut (tgt := 120) ok dX6_ofBox_30 (by omega) (by omega) (by decide) ?_
          refine z_aload_n ok dX6_ofBox_120 rfl ?_
          refine z_get (v := .ref (a 0)) ok zc6 16 rfl 0 (by decide) qf_RX6_12 rfl rfl dX6_ofBox_121 ?_
          refine z_get (v := .ref (a 15)) ok zc5 0 rfl 4 (by decide) qf_RX6_178 rfl rfl dX6_ofBox_124 ?_
          refine z_iload_n ok dX6_ofBox_127 rfl ?_
          refine z_iconst ok dX6_ofBox_128 ?_
          refine z_imul ok dX6_ofBox_129 ?_
          refine z_iload_n ok dX6_ofBox_130 rfl ?_
          refine z_iadd ok dX6_ofBox_131 ?_
          refine z_bipush ok dX6_ofBox_132 (by decide) ?_
          refine z_isub ok dX6_ofBox_134 ?_
          refine z_iale (f := mvF N) (v := N (60 + (((bb * 4) + w) - 7))) ok 3 rfl rfl dX6_ofBox_135 (by omega) (by decide) ?_
          exact fin (N (60 + (((bb * 4) + w) - 7))) () 136 _ _ _ dX6_ofBox_136 (trivial) (by unfold obR; rw [zif_t c11, if_neg (by omega), if_pos (by omega)]; congr 1; omega) (by decide) (by decide)
        · -- switch
          refine z_tableIn (off := 42) (tgt := 72) ok dX6_ofBox_30 (by omega) (by omega) (by omega) (by rw [c30]; rfl) (by decide) ?_
          refine z_aload_n ok dX6_ofBox_72 rfl ?_
          refine z_get (v := .ref (a 0)) ok zc6 16 rfl 0 (by decide) qf_RX6_12 rfl rfl dX6_ofBox_73 ?_
          refine z_get (v := .ref (a 3)) ok zc5 0 rfl 2 (by decide) qf_RX6_79 rfl rfl dX6_ofBox_76 ?_
          refine z_iconst ok dX6_ofBox_79 ?_
          refine z_iload_n ok dX6_ofBox_80 rfl ?_
          refine z_callVif ok (fun l => c_X2_countAt  (hw) (by decide) (by omega)) zm_X2_countAt zv_X2_countAt qm_RX6_172 dX6_ofBox_81 (by decide) (by decide) rfl rfl (Nat.le_of_ble_eq_true rfl) (q0 := 0) rfl rfl rfl (L := [soW Z a N (ins N) (mvF N) (N 3), gW Z a (N 4) (N 5) (bkL N), pW Z a (N 6) (pkF N 0) (pkF N 1) (pkF N 2) (pkF N 3) (pkF N 4) (pkF N 5) (pkF N 6) (pkF N 7) (pkF N 8) (pkF N 9), xW Z x (a 0) (b 0) (a3 0) (b4 0) (c 0) (e 0) und hs ss us]) (Lr := [soW Z a N (ins N) (mvF N) (N 3), gW Z a (N 4) (N 5) (bkL N), xW Z x (a 0) (b 0) (a3 0) (b4 0) (c 0) (e 0) und hs ss us]) [2, 0, 1, 3] [1, 2, 0, 3] rfl rfl (fun _ => rfl) (fun ρ _ hρ => ?_)
          subst hρ
          refine z_eq (ws' := zf [soW Z a N (ins N) (mvF N) (N 3), gW Z a (N 4) (N 5) (bkL N), pW Z a (N 6) (pkF N 0) (pkF N 1) (pkF N 2) (pkF N 3) (pkF N 4) (pkF N 5) (pkF N 6) (pkF N 7) (pkF N 8) (pkF N 9), xW Z x (a 0) (b 0) (a3 0) (b4 0) (c 0) (e 0) und hs ss us]) rfl ?_
          exact fin (cnt N bb 1) () 84 _ _ _ dX6_ofBox_84 (trivial) (by unfold obR; rw [zif_t c11, if_neg (by omega), if_neg (by omega), if_pos (by omega)]) (by decide) (by decide)
        · -- switch
          refine z_tableIn (off := 55) (tgt := 85) ok dX6_ofBox_30 (by omega) (by omega) (by omega) (by rw [c30]; rfl) (by decide) ?_
          refine z_aload_n ok dX6_ofBox_85 rfl ?_
          refine z_get (v := .ref (a 0)) ok zc6 16 rfl 0 (by decide) qf_RX6_12 rfl rfl dX6_ofBox_86 ?_
          refine z_get (v := .ref (a 3)) ok zc5 0 rfl 2 (by decide) qf_RX6_79 rfl rfl dX6_ofBox_89 ?_
          refine z_iconst ok dX6_ofBox_92 ?_
          refine z_iload_n ok dX6_ofBox_93 rfl ?_
          refine z_callVif ok (fun l => c_X2_countAt  (hw) (by decide) (by omega)) zm_X2_countAt zv_X2_countAt qm_RX6_172 dX6_ofBox_94 (by decide) (by decide) rfl rfl (Nat.le_of_ble_eq_true rfl) (q0 := 0) rfl rfl rfl (L := [soW Z a N (ins N) (mvF N) (N 3), gW Z a (N 4) (N 5) (bkL N), pW Z a (N 6) (pkF N 0) (pkF N 1) (pkF N 2) (pkF N 3) (pkF N 4) (pkF N 5) (pkF N 6) (pkF N 7) (pkF N 8) (pkF N 9), xW Z x (a 0) (b 0) (a3 0) (b4 0) (c 0) (e 0) und hs ss us]) (Lr := [soW Z a N (ins N) (mvF N) (N 3), gW Z a (N 4) (N 5) (bkL N), xW Z x (a 0) (b 0) (a3 0) (b4 0) (c 0) (e 0) und hs ss us]) [2, 0, 1, 3] [1, 2, 0, 3] rfl rfl (fun _ => rfl) (fun ρ _ hρ => ?_)
          subst hρ
          refine z_eq (ws' := zf [soW Z a N (ins N) (mvF N) (N 3), gW Z a (N 4) (N 5) (bkL N), pW Z a (N 6) (pkF N 0) (pkF N 1) (pkF N 2) (pkF N 3) (pkF N 4) (pkF N 5) (pkF N 6) (pkF N 7) (pkF N 8) (pkF N 9), xW Z x (a 0) (b 0) (a3 0) (b4 0) (c 0) (e 0) und hs ss us]) rfl ?_
          exact fin (cnt N bb 0) () 97 _ _ _ dX6_ofBox_97 (trivial) (by unfold obR; rw [zif_t c11, if_neg (by omega), if_neg (by omega), if_neg (by omega), if_pos (by omega)]) (by decide) (by decide)
        · -- switch
          refine z_tableIn (off := 68) (tgt := 98) ok dX6_ofBox_30 (by omega) (by omega) (by omega) (by rw [c30]; rfl) (by decide) ?_
          refine z_aload_n ok dX6_ofBox_98 rfl ?_
          refine z_get (v := .ref (a 0)) ok zc6 16 rfl 0 (by decide) qf_RX6_12 rfl rfl dX6_ofBox_99 ?_
          refine z_get (v := .ref (a 3)) ok zc5 0 rfl 2 (by decide) qf_RX6_79 rfl rfl dX6_ofBox_102 ?_
          refine z_iconst ok dX6_ofBox_105 ?_
          refine z_iload_n ok dX6_ofBox_106 rfl ?_
          refine z_callVif ok (fun l => c_X2_countAt  (hw) (by decide) (by omega)) zm_X2_countAt zv_X2_countAt qm_RX6_172 dX6_ofBox_107 (by decide) (by decide) rfl rfl (Nat.le_of_ble_eq_true rfl) (q0 := 0) rfl rfl rfl (L := [soW Z a N (ins N) (mvF N) (N 3), gW Z a (N 4) (N 5) (bkL N), pW Z a (N 6) (pkF N 0) (pkF N 1) (pkF N 2) (pkF N 3) (pkF N 4) (pkF N 5) (pkF N 6) (pkF N 7) (pkF N 8) (pkF N 9), xW Z x (a 0) (b 0) (a3 0) (b4 0) (c 0) (e 0) und hs ss us]) (Lr := [soW Z a N (ins N) (mvF N) (N 3), gW Z a (N 4) (N 5) (bkL N), xW Z x (a 0) (b 0) (a3 0) (b4 0) (c 0) (e 0) und hs ss us]) [2, 0, 1, 3] [1, 2, 0, 3] rfl rfl (fun _ => rfl) (fun ρ _ hρ => ?_)
          subst hρ
          refine z_eq (ws' := zf [soW Z a N (ins N) (mvF N) (N 3), gW Z a (N 4) (N 5) (bkL N), pW Z a (N 6) (pkF N 0) (pkF N 1) (pkF N 2) (pkF N 3) (pkF N 4) (pkF N 5) (pkF N 6) (pkF N 7) (pkF N 8) (pkF N 9), xW Z x (a 0) (b 0) (a3 0) (b4 0) (c 0) (e 0) und hs ss us]) rfl ?_
          exact fin (cnt N bb 2) () 110 _ _ _ dX6_ofBox_110 (trivial) (by unfold obR; rw [zif_t c11, if_neg (by omega), if_neg (by omega), if_neg (by omega), if_neg (by omega), if_pos (by omega)]) (by decide) (by decide)
        · -- switch
          refine z_tableIn (off := 81) (tgt := 111) ok dX6_ofBox_30 (by omega) (by omega) (by omega) (by rw [c30]; rfl) (by decide) ?_
          refine z_aload_n ok dX6_ofBox_111 rfl ?_
          refine z_iload_n ok dX6_ofBox_112 rfl ?_
          refine z_iload_n ok dX6_ofBox_113 rfl ?_
          refine z_iconst ok dX6_ofBox_114 ?_
          refine z_isub ok dX6_ofBox_115 ?_
          refine z_callVi0 ok (fun l => c_X6_linkState  (hw) (c11) (by omega)) zm_X6_linkState zv_X6_linkState qm_RX6_175 dX6_ofBox_116 (by decide) (by decide) rfl rfl (Nat.le_of_ble_eq_true rfl) (q0 := 16) rfl rfl rfl (fun ρ _ hρ => ?_)
          subst hρ
          refine z_eq (ws' := zf [soW Z a N (ins N) (mvF N) (N 3), gW Z a (N 4) (N 5) (bkL N), pW Z a (N 6) (pkF N 0) (pkF N 1) (pkF N 2) (pkF N 3) (pkF N 4) (pkF N 5) (pkF N 6) (pkF N 7) (pkF N 8) (pkF N 9), xW Z x (a 0) (b 0) (a3 0) (b4 0) (c 0) (e 0) und hs ss us]) rfl ?_
          exact fin (if nb N bb (w - 3) < 0 then -6 else zb (opn N bb (w - 3))) () 119 _ _ _ dX6_ofBox_119 (trivial) (by unfold obR; rw [zif_t c11, if_pos (show 3 ≤ w ∧ w ≤ 6 by omega)]) (by decide) (by decide)
        · -- switch
          refine z_tableIn (off := 81) (tgt := 111) ok dX6_ofBox_30 (by omega) (by omega) (by omega) (by rw [c30]; rfl) (by decide) ?_
          refine z_aload_n ok dX6_ofBox_111 rfl ?_
          refine z_iload_n ok dX6_ofBox_112 rfl ?_
          refine z_iload_n ok dX6_ofBox_113 rfl ?_
          refine z_iconst ok dX6_ofBox_114 ?_
          refine z_isub ok dX6_ofBox_115 ?_
          refine z_callVi0 ok (fun l => c_X6_linkState  (hw) (c11) (by omega)) zm_X6_linkState zv_X6_linkState qm_RX6_175 dX6_ofBox_116 (by decide) (by decide) rfl rfl (Nat.le_of_ble_eq_true rfl) (q0 := 16) rfl rfl rfl (fun ρ _ hρ => ?_)
          subst hρ
          refine z_eq (ws' := zf [soW Z a N (ins N) (mvF N) (N 3), gW Z a (N 4) (N 5) (bkL N), pW Z a (N 6) (pkF N 0) (pkF N 1) (pkF N 2) (pkF N 3) (pkF N 4) (pkF N 5) (pkF N 6) (pkF N 7) (pkF N 8) (pkF N 9), xW Z x (a 0) (b 0) (a3 0) (b4 0) (c 0) (e 0) und hs ss us]) rfl ?_
          exact fin (if nb N bb (w - 3) < 0 then -6 else zb (opn N bb (w - 3))) () 119 _ _ _ dX6_ofBox_119 (trivial) (by unfold obR; rw [zif_t c11, if_pos (show 3 ≤ w ∧ w ≤ 6 by omega)]) (by decide) (by decide)
        · -- switch
          refine z_tableIn (off := 81) (tgt := 111) ok dX6_ofBox_30 (by omega) (by omega) (by omega) (by rw [c30]; rfl) (by decide) ?_
          refine z_aload_n ok dX6_ofBox_111 rfl ?_
          refine z_iload_n ok dX6_ofBox_112 rfl ?_
          refine z_iload_n ok dX6_ofBox_113 rfl ?_
          refine z_iconst ok dX6_ofBox_114 ?_
          refine z_isub ok dX6_ofBox_115 ?_
          refine z_callVi0 ok (fun l => c_X6_linkState  (hw) (c11) (by omega)) zm_X6_linkState zv_X6_linkState qm_RX6_175 dX6_ofBox_116 (by decide) (by decide) rfl rfl (Nat.le_of_ble_eq_true rfl) (q0 := 16) rfl rfl rfl (fun ρ _ hρ => ?_)
          subst hρ
          refine z_eq (ws' := zf [soW Z a N (ins N) (mvF N) (N 3), gW Z a (N 4) (N 5) (bkL N), pW Z a (N 6) (pkF N 0) (pkF N 1) (pkF N 2) (pkF N 3) (pkF N 4) (pkF N 5) (pkF N 6) (pkF N 7) (pkF N 8) (pkF N 9), xW Z x (a 0) (b 0) (a3 0) (b4 0) (c 0) (e 0) und hs ss us]) rfl ?_
          exact fin (if nb N bb (w - 3) < 0 then -6 else zb (opn N bb (w - 3))) () 119 _ _ _ dX6_ofBox_119 (trivial) (by unfold obR; rw [zif_t c11, if_pos (show 3 ≤ w ∧ w ≤ 6 by omega)]) (by decide) (by decide)
        · -- switch
          refine z_tableIn (off := 81) (tgt := 111) ok dX6_ofBox_30 (by omega) (by omega) (by omega) (by rw [c30]; rfl) (by decide) ?_
          refine z_aload_n ok dX6_ofBox_111 rfl ?_
          refine z_iload_n ok dX6_ofBox_112 rfl ?_
          refine z_iload_n ok dX6_ofBox_113 rfl ?_
          refine z_iconst ok dX6_ofBox_114 ?_
          refine z_isub ok dX6_ofBox_115 ?_
          refine z_callVi0 ok (fun l => c_X6_linkState  (hw) (c11) (by omega)) zm_X6_linkState zv_X6_linkState qm_RX6_175 dX6_ofBox_116 (by decide) (by decide) rfl rfl (Nat.le_of_ble_eq_true rfl) (q0 := 16) rfl rfl rfl (fun ρ _ hρ => ?_)
          subst hρ
          refine z_eq (ws' := zf [soW Z a N (ins N) (mvF N) (N 3), gW Z a (N 4) (N 5) (bkL N), pW Z a (N 6) (pkF N 0) (pkF N 1) (pkF N 2) (pkF N 3) (pkF N 4) (pkF N 5) (pkF N 6) (pkF N 7) (pkF N 8) (pkF N 9), xW Z x (a 0) (b 0) (a3 0) (b4 0) (c 0) (e 0) und hs ss us]) rfl ?_
          exact fin (if nb N bb (w - 3) < 0 then -6 else zb (opn N bb (w - 3))) () 119 _ _ _ dX6_ofBox_119 (trivial) (by unfold obR; rw [zif_t c11, if_pos (show 3 ≤ w ∧ w ≤ 6 by omega)]) (by decide) (by decide)
      · -- f
        refine z_bipush ok dX6_ofBox_26 (by decide) ?_
        exact fin (-2) () 28 _ _ _ dX6_ofBox_28 (trivial) (by unfold obR; rw [zif_t c11, if_neg (by omega), if_neg (by omega), if_neg (by omega), if_neg (by omega), if_neg (by omega)]) (by decide) (by decide)
  · -- f
    refine z_iconst ok dX6_ofBox_14 ?_
    exact fin (-1) () 15 _ _ _ dX6_ofBox_15 (trivial) (by unfold obR; exact (zif_f c11).symm) (by decide) (by decide)
set_option maxRecDepth 20000 in
theorem c_X6_leastWay {l : Launch} {Z : zZ} {x a b a3 b4 c e : Nat → Nat} {und : Int} {hs ss : List Nat} {us : Int → Int} {N : Int → Int} {ef : Int} {op ln nm qu : Int → Int} {qd : Int} {f t : Int} (hw : wf N) (hok : rOK N ef op ln) (hfr : -2147483648 ≤ f ∧ f < 2147483648) (htr : -2147483648 ≤ t ∧ t < 2147483648) : zI (T := Unit) l yX6_leastWay (Cond.code yX6_leastWay cX6_leastWay 3 (some .int) :: wsL_law) ({ frames := 3, cells := 0, slots := 0, locals := 69 } : Room) Z [.ref (x 0), .int (iI f), .int (iI t)] (zf [soW Z a N (ins N) (mvF N) (N 3), gW Z a (N 4) (N 5) (bkL N), pW Z a (N 6) (pkF N 0) (pkF N 1) (pkF N 2) (pkF N 3) (pkF N 4) (pkF N 5) (pkF N 6) (pkF N 7) (pkF N 8) (pkF N 9), xW Z x (a 0) (b 0) (a3 0) (b4 0) (c 0) (e 0) und hs ss us, rW Z b ef op ln nm qu qd]) (fun _ => zf [soW Z a N (ins N) (mvF N) (N 3), gW Z a (N 4) (N 5) (bkL N), pW Z a (N 6) (pkF N 0) (pkF N 1) (pkF N 2) (pkF N 3) (pkF N 4) (pkF N 5) (pkF N 6) (pkF N 7) (pkF N 8) (pkF N 9), xW Z x (a 0) (b 0) (a3 0) (b4 0) (c 0) (e 0) und hs ss us, rW Z b ef op ln nm qu qd]) (fun ρ _ => ρ = lwR N f t) := by
  refine zI_of (C := RX6) (by decide +kernel) rfl (Nat.le_of_ble_eq_true rfl) (fun _ => True) znI (fun X ok fin => ?_)
  obtain ⟨w0, w1, w2, hc, hr, w6, wl, wp⟩ := id hw
  have hcr := cr_rng hc hr
  refine z_lsub ok (lv' := [(0, .ref (x 0)), (1, .int (iI f)), (2, .int (iI t))]) [0, 1, 2] rfl ?_
  refine z_aload_n ok dX6_leastWay_0 rfl ?_
  refine z_get (v := .ref (a 0)) ok zc6 16 rfl 0 (by decide) qf_RX6_12 rfl rfl dX6_leastWay_1 ?_
  refine z_get (v := .ref (a 2)) ok zc5 0 rfl 1 (by decide) qf_RX6_88 rfl rfl dX6_leastWay_4 ?_
  refine z_iload_n ok dX6_leastWay_7 rfl ?_
  refine z_callVif ok (fun l => c_X0_has  (by omega) (by omega) (by omega)) zm_X0_has zv_X0_has qm_RX6_171 dX6_leastWay_8 (by decide) (by decide) rfl rfl (Nat.le_of_ble_eq_true rfl) (q0 := 0) rfl rfl rfl (L := [soW Z a N (ins N) (mvF N) (N 3), gW Z a (N 4) (N 5) (bkL N), pW Z a (N 6) (pkF N 0) (pkF N 1) (pkF N 2) (pkF N 3) (pkF N 4) (pkF N 5) (pkF N 6) (pkF N 7) (pkF N 8) (pkF N 9), xW Z x (a 0) (b 0) (a3 0) (b4 0) (c 0) (e 0) und hs ss us, rW Z b ef op ln nm qu qd]) (Lr := [soW Z a N (ins N) (mvF N) (N 3), pW Z a (N 6) (pkF N 0) (pkF N 1) (pkF N 2) (pkF N 3) (pkF N 4) (pkF N 5) (pkF N 6) (pkF N 7) (pkF N 8) (pkF N 9), xW Z x (a 0) (b 0) (a3 0) (b4 0) (c 0) (e 0) und hs ss us, rW Z b ef op ln nm qu qd]) [1, 0, 2, 3, 4] [1, 0, 2, 3, 4] rfl rfl (fun _ => rfl) (fun ρ _ hρ => ?_)
  subst hρ
  refine z_eq (ws' := zf [soW Z a N (ins N) (mvF N) (N 3), gW Z a (N 4) (N 5) (bkL N), pW Z a (N 6) (pkF N 0) (pkF N 1) (pkF N 2) (pkF N 3) (pkF N 4) (pkF N 5) (pkF N 6) (pkF N 7) (pkF N 8) (pkF N 9), xW Z x (a 0) (b 0) (a3 0) (b4 0) (c 0) (e 0) und hs ss us, rW Z b ef op ln nm qu qd]) rfl ?_
  refine z_ifb_eq (tgt := 28) ok dX6_leastWay_11 (by decide) (fun c11 => ?_) (fun c11 => ?_)
  · -- t
    refine z_iconst ok dX6_leastWay_28 ?_
    exact fin (-1) () 29 _ _ _ dX6_leastWay_29 (trivial) (by unfold lwR; exact (zif_f (fun z => by first | exact c11 z.1 | exact c25 z.2)).symm) (by decide) (by decide)
  · -- f
    refine z_aload_n ok dX6_leastWay_14 rfl ?_
    refine z_get (v := .ref (a 0)) ok zc6 16 rfl 0 (by decide) qf_RX6_12 rfl rfl dX6_leastWay_15 ?_
    refine z_get (v := .ref (a 2)) ok zc5 0 rfl 1 (by decide) qf_RX6_88 rfl rfl dX6_leastWay_18 ?_
    refine z_iload_n ok dX6_leastWay_21 rfl ?_
    refine z_callVif ok (fun l => c_X0_has  (by omega) (by omega) (by omega)) zm_X0_has zv_X0_has qm_RX6_171 dX6_leastWay_22 (by decide) (by decide) rfl rfl (Nat.le_of_ble_eq_true rfl) (q0 := 0) rfl rfl rfl (L := [soW Z a N (ins N) (mvF N) (N 3), gW Z a (N 4) (N 5) (bkL N), pW Z a (N 6) (pkF N 0) (pkF N 1) (pkF N 2) (pkF N 3) (pkF N 4) (pkF N 5) (pkF N 6) (pkF N 7) (pkF N 8) (pkF N 9), xW Z x (a 0) (b 0) (a3 0) (b4 0) (c 0) (e 0) und hs ss us, rW Z b ef op ln nm qu qd]) (Lr := [soW Z a N (ins N) (mvF N) (N 3), pW Z a (N 6) (pkF N 0) (pkF N 1) (pkF N 2) (pkF N 3) (pkF N 4) (pkF N 5) (pkF N 6) (pkF N 7) (pkF N 8) (pkF N 9), xW Z x (a 0) (b 0) (a3 0) (b4 0) (c 0) (e 0) und hs ss us, rW Z b ef op ln nm qu qd]) [1, 0, 2, 3, 4] [1, 0, 2, 3, 4] rfl rfl (fun _ => rfl) (fun ρ _ hρ => ?_)
    subst hρ
    refine z_eq (ws' := zf [soW Z a N (ins N) (mvF N) (N 3), gW Z a (N 4) (N 5) (bkL N), pW Z a (N 6) (pkF N 0) (pkF N 1) (pkF N 2) (pkF N 3) (pkF N 4) (pkF N 5) (pkF N 6) (pkF N 7) (pkF N 8) (pkF N 9), xW Z x (a 0) (b 0) (a3 0) (b4 0) (c 0) (e 0) und hs ss us, rW Z b ef op ln nm qu qd]) rfl ?_
    refine z_ifb_ne (tgt := 30) ok dX6_leastWay_25 (by decide) (fun c25 => ?_) (fun c25 => ?_)
    · -- t
      refine z_aload_n ok dX6_leastWay_30 rfl ?_
      refine z_get (v := .ref (a 0)) ok zc6 16 rfl 0 (by decide) qf_RX6_12 rfl rfl dX6_leastWay_31 ?_
      refine z_aload_n ok dX6_leastWay_34 rfl ?_
      refine z_get (v := .ref (b 0)) ok zc6 16 rfl 1 (by decide) qf_RX6_19 rfl rfl dX6_leastWay_35 ?_
      refine z_iload_n ok dX6_leastWay_38 rfl ?_
      refine z_iload_n ok dX6_leastWay_39 rfl ?_
      refine z_callVif ok (fun l => c_X5_wayLength  (hw) (hok) (c11) (c25)) zm_X5_wayLength zv_X5_wayLength qm_RX6_201 dX6_leastWay_40 (by decide) (by decide) rfl rfl (Nat.le_of_ble_eq_true rfl) (q0 := 0) rfl rfl rfl (L := [soW Z a N (ins N) (mvF N) (N 3), gW Z a (N 4) (N 5) (bkL N), pW Z a (N 6) (pkF N 0) (pkF N 1) (pkF N 2) (pkF N 3) (pkF N 4) (pkF N 5) (pkF N 6) (pkF N 7) (pkF N 8) (pkF N 9), xW Z x (a 0) (b 0) (a3 0) (b4 0) (c 0) (e 0) und hs ss us, rW Z b ef op ln nm qu qd]) (Lr := [pW Z a (N 6) (pkF N 0) (pkF N 1) (pkF N 2) (pkF N 3) (pkF N 4) (pkF N 5) (pkF N 6) (pkF N 7) (pkF N 8) (pkF N 9), xW Z x (a 0) (b 0) (a3 0) (b4 0) (c 0) (e 0) und hs ss us]) [0, 1, 4, 2, 3] [0, 1, 3, 4, 2] rfl rfl (fun _ => rfl) (fun ρ _ hρ => ?_)
      subst hρ
      refine z_eq (ws' := zf [soW Z a N (ins N) (mvF N) (N 3), gW Z a (N 4) (N 5) (bkL N), pW Z a (N 6) (pkF N 0) (pkF N 1) (pkF N 2) (pkF N 3) (pkF N 4) (pkF N 5) (pkF N 6) (pkF N 7) (pkF N 8) (pkF N 9), xW Z x (a 0) (b 0) (a3 0) (b4 0) (c 0) (e 0) und hs ss us, rW Z b ef op ln nm qu qd]) rfl ?_
      exact fin (fr N t (10 * f)) () 43 _ _ _ dX6_leastWay_43 (trivial) (by unfold lwR; exact (zif_t ⟨c11, c25⟩).symm) (by decide) (by decide)
    · -- f
      refine z_iconst ok dX6_leastWay_28 ?_
      exact fin (-1) () 29 _ _ _ dX6_leastWay_29 (trivial) (by unfold lwR; exact (zif_f (fun z => by first | exact c11 z.1 | exact c25 z.2)).symm) (by decide) (by decide)
set_option maxRecDepth 20000 in
theorem c_X6_ways {l : Launch} {Z : zZ} {x a b a3 b4 c e : Nat → Nat} {und : Int} {hs ss : List Nat} {us : Int → Int} {N : Int → Int} {ef : Int} {op ln nm qu : Int → Int} {qd : Int} {f t : Int} (hw : wf N) (hok : rOK N ef op ln) (hfr : -2147483648 ≤ f ∧ f < 2147483648) (htr : -2147483648 ≤ t ∧ t < 2147483648) : zI (T := (Int → Int) × (Int → Int) × (Int → Int) × Int) l yX6_ways (Cond.code yX6_ways cX6_ways 3 (some .int) :: wsL_law) ({ frames := 4, cells := 0, slots := 0, locals := 97 } : Room) Z [.ref (x 0), .int (iI f), .int (iI t)] (zf [soW Z a N (ins N) (mvF N) (N 3), gW Z a (N 4) (N 5) (bkL N), pW Z a (N 6) (pkF N 0) (pkF N 1) (pkF N 2) (pkF N 3) (pkF N 4) (pkF N 5) (pkF N 6) (pkF N 7) (pkF N 8) (pkF N 9), xW Z x (a 0) (b 0) (a3 0) (b4 0) (c 0) (e 0) und hs ss us, rW Z b ef op ln nm qu qd]) (fun u => zf [soW Z a N (ins N) (mvF N) (N 3), gW Z a (N 4) (N 5) (bkL N), pW Z a (N 6) (pkF N 0) (pkF N 1) (pkF N 2) (pkF N 3) (pkF N 4) (pkF N 5) (pkF N 6) (pkF N 7) (pkF N 8) (pkF N 9), xW Z x (a 0) (b 0) (a3 0) (b4 0) (c 0) (e 0) und hs ss us, rW Z b ef op u.1 u.2.1 u.2.2.1 u.2.2.2]) (fun ρ u => ρ = wyR N f t ∧ rOK N ef op u.1) := by
  refine zI_of (C := RX6) (by decide +kernel) rfl (Nat.le_of_ble_eq_true rfl) (fun _ => True) znI (fun X ok fin => ?_)
  obtain ⟨w0, w1, w2, hc, hr, w6, wl, wp⟩ := id hw
  have hcr := cr_rng hc hr
  refine z_lsub ok (lv' := [(0, .ref (x 0)), (1, .int (iI f)), (2, .int (iI t))]) [0, 1, 2] rfl ?_
  refine z_aload_n ok dX6_ways_0 rfl ?_
  refine z_get (v := .ref (a 0)) ok zc6 16 rfl 0 (by decide) qf_RX6_12 rfl rfl dX6_ways_1 ?_
  refine z_get (v := .ref (a 2)) ok zc5 0 rfl 1 (by decide) qf_RX6_88 rfl rfl dX6_ways_4 ?_
  refine z_iload_n ok dX6_ways_7 rfl ?_
  refine z_callVif ok (fun l => c_X0_has  (by omega) (by omega) (by omega)) zm_X0_has zv_X0_has qm_RX6_171 dX6_ways_8 (by decide) (by decide) rfl rfl (Nat.le_of_ble_eq_true rfl) (q0 := 0) rfl rfl rfl (L := [soW Z a N (ins N) (mvF N) (N 3), gW Z a (N 4) (N 5) (bkL N), pW Z a (N 6) (pkF N 0) (pkF N 1) (pkF N 2) (pkF N 3) (pkF N 4) (pkF N 5) (pkF N 6) (pkF N 7) (pkF N 8) (pkF N 9), xW Z x (a 0) (b 0) (a3 0) (b4 0) (c 0) (e 0) und hs ss us, rW Z b ef op ln nm qu qd]) (Lr := [soW Z a N (ins N) (mvF N) (N 3), pW Z a (N 6) (pkF N 0) (pkF N 1) (pkF N 2) (pkF N 3) (pkF N 4) (pkF N 5) (pkF N 6) (pkF N 7) (pkF N 8) (pkF N 9), xW Z x (a 0) (b 0) (a3 0) (b4 0) (c 0) (e 0) und hs ss us, rW Z b ef op ln nm qu qd]) [1, 0, 2, 3, 4] [1, 0, 2, 3, 4] rfl rfl (fun _ => rfl) (fun ρ _ hρ => ?_)
  subst hρ
  refine z_eq (ws' := zf [soW Z a N (ins N) (mvF N) (N 3), gW Z a (N 4) (N 5) (bkL N), pW Z a (N 6) (pkF N 0) (pkF N 1) (pkF N 2) (pkF N 3) (pkF N 4) (pkF N 5) (pkF N 6) (pkF N 7) (pkF N 8) (pkF N 9), xW Z x (a 0) (b 0) (a3 0) (b4 0) (c 0) (e 0) und hs ss us, rW Z b ef op ln nm qu qd]) rfl ?_
  refine z_ifb_eq (tgt := 28) ok dX6_ways_11 (by decide) (fun c11 => ?_) (fun c11 => ?_)
  · -- t
    refine z_iconst ok dX6_ways_28 ?_
    exact fin (-1) (ln, nm, qu, qd) 29 _ _ _ dX6_ways_29 (trivial) (⟨by unfold wyR; exact (zif_f (fun z => by first | exact c11 z.1 | exact c25 z.2)).symm, hok⟩) (by decide) (by decide)
  · -- f
    refine z_aload_n ok dX6_ways_14 rfl ?_
    refine z_get (v := .ref (a 0)) ok zc6 16 rfl 0 (by decide) qf_RX6_12 rfl rfl dX6_ways_15 ?_
    refine z_get (v := .ref (a 2)) ok zc5 0 rfl 1 (by decide) qf_RX6_88 rfl rfl dX6_ways_18 ?_
    refine z_iload_n ok dX6_ways_21 rfl ?_
    refine z_callVif ok (fun l => c_X0_has  (by omega) (by omega) (by omega)) zm_X0_has zv_X0_has qm_RX6_171 dX6_ways_22 (by decide) (by decide) rfl rfl (Nat.le_of_ble_eq_true rfl) (q0 := 0) rfl rfl rfl (L := [soW Z a N (ins N) (mvF N) (N 3), gW Z a (N 4) (N 5) (bkL N), pW Z a (N 6) (pkF N 0) (pkF N 1) (pkF N 2) (pkF N 3) (pkF N 4) (pkF N 5) (pkF N 6) (pkF N 7) (pkF N 8) (pkF N 9), xW Z x (a 0) (b 0) (a3 0) (b4 0) (c 0) (e 0) und hs ss us, rW Z b ef op ln nm qu qd]) (Lr := [soW Z a N (ins N) (mvF N) (N 3), pW Z a (N 6) (pkF N 0) (pkF N 1) (pkF N 2) (pkF N 3) (pkF N 4) (pkF N 5) (pkF N 6) (pkF N 7) (pkF N 8) (pkF N 9), xW Z x (a 0) (b 0) (a3 0) (b4 0) (c 0) (e 0) und hs ss us, rW Z b ef op ln nm qu qd]) [1, 0, 2, 3, 4] [1, 0, 2, 3, 4] rfl rfl (fun _ => rfl) (fun ρ _ hρ => ?_)
    subst hρ
    refine z_eq (ws' := zf [soW Z a N (ins N) (mvF N) (N 3), gW Z a (N 4) (N 5) (bkL N), pW Z a (N 6) (pkF N 0) (pkF N 1) (pkF N 2) (pkF N 3) (pkF N 4) (pkF N 5) (pkF N 6) (pkF N 7) (pkF N 8) (pkF N 9), xW Z x (a 0) (b 0) (a3 0) (b4 0) (c 0) (e 0) und hs ss us, rW Z b ef op ln nm qu qd]) rfl ?_
    refine z_ifb_ne (tgt := 30) ok dX6_ways_25 (by decide) (fun c25 => ?_) (fun c25 => ?_)
    · -- t
      have hwy := wys hw hok c11 c25
      have hcb := c11
      have hcb2 := c25
      unfold isB at hcb hcb2
      have hfr := fr_rng (to := t) (s := 10 * f) hw (by omega) (by omega)
      refine z_aload_n ok dX6_ways_30 rfl ?_
      refine z_get (v := .ref (a 0)) ok zc6 16 rfl 0 (by decide) qf_RX6_12 rfl rfl dX6_ways_31 ?_
      refine z_aload_n ok dX6_ways_34 rfl ?_
      refine z_get (v := .ref (b 0)) ok zc6 16 rfl 1 (by decide) qf_RX6_19 rfl rfl dX6_ways_35 ?_
      refine z_iload_n ok dX6_ways_38 rfl ?_
      refine z_iload_n ok dX6_ways_39 rfl ?_
      refine z_callVif ok (fun l => c_X5_wayLength  (hw) (hok) (c11) (c25)) zm_X5_wayLength zv_X5_wayLength qm_RX6_201 dX6_ways_40 (by decide) (by decide) rfl rfl (Nat.le_of_ble_eq_true rfl) (q0 := 0) rfl rfl rfl (L := [soW Z a N (ins N) (mvF N) (N 3), gW Z a (N 4) (N 5) (bkL N), pW Z a (N 6) (pkF N 0) (pkF N 1) (pkF N 2) (pkF N 3) (pkF N 4) (pkF N 5) (pkF N 6) (pkF N 7) (pkF N 8) (pkF N 9), xW Z x (a 0) (b 0) (a3 0) (b4 0) (c 0) (e 0) und hs ss us, rW Z b ef op ln nm qu qd]) (Lr := [pW Z a (N 6) (pkF N 0) (pkF N 1) (pkF N 2) (pkF N 3) (pkF N 4) (pkF N 5) (pkF N 6) (pkF N 7) (pkF N 8) (pkF N 9), xW Z x (a 0) (b 0) (a3 0) (b4 0) (c 0) (e 0) und hs ss us]) [0, 1, 4, 2, 3] [0, 1, 3, 4, 2] rfl rfl (fun _ => rfl) (fun ρ _ hρ => ?_)
      subst hρ
      refine z_eq (ws' := zf [soW Z a N (ins N) (mvF N) (N 3), gW Z a (N 4) (N 5) (bkL N), pW Z a (N 6) (pkF N 0) (pkF N 1) (pkF N 2) (pkF N 3) (pkF N 4) (pkF N 5) (pkF N 6) (pkF N 7) (pkF N 8) (pkF N 9), xW Z x (a 0) (b 0) (a3 0) (b4 0) (c 0) (e 0) und hs ss us, rW Z b ef op ln nm qu qd]) rfl ?_
      refine z_bipush ok dX6_ways_43 (by decide) ?_
      refine z_icmp_ne (tgt := 50) ok dX6_ways_45 (by decide) (by omega) (by omega) (fun c45 => ?_) (fun c45 => ?_)
      · -- t
        refine z_aload_n ok dX6_ways_50 rfl ?_
        refine z_get (v := .ref (b 0)) ok zc6 16 rfl 1 (by decide) qf_RX6_19 rfl rfl dX6_ways_51 ?_
        refine z_iload_n ok dX6_ways_54 rfl ?_
        refine z_iload_n ok dX6_ways_55 rfl ?_
        refine z_callVif ok (fun l => c_X4_shortestWays  (hw) (c25) (c11) (hok) ((hwy.2 c45).1)) zm_X4_shortestWays zv_X4_shortestWays qm_RX6_205 dX6_ways_56 (by decide) (by decide) rfl rfl (Nat.le_of_ble_eq_true rfl) (q0 := 0) rfl rfl rfl (L := [soW Z a N (ins N) (mvF N) (N 3), gW Z a (N 4) (N 5) (bkL N), pW Z a (N 6) (pkF N 0) (pkF N 1) (pkF N 2) (pkF N 3) (pkF N 4) (pkF N 5) (pkF N 6) (pkF N 7) (pkF N 8) (pkF N 9), xW Z x (a 0) (b 0) (a3 0) (b4 0) (c 0) (e 0) und hs ss us, rW Z b ef op ln nm qu qd]) (Lr := [soW Z a N (ins N) (mvF N) (N 3), gW Z a (N 4) (N 5) (bkL N), pW Z a (N 6) (pkF N 0) (pkF N 1) (pkF N 2) (pkF N 3) (pkF N 4) (pkF N 5) (pkF N 6) (pkF N 7) (pkF N 8) (pkF N 9), xW Z x (a 0) (b 0) (a3 0) (b4 0) (c 0) (e 0) und hs ss us]) [4, 0, 1, 2, 3] [1, 2, 3, 4, 0] rfl rfl (fun _ => rfl) (fun r56 u56 hp56 => ?_)
        obtain ⟨ln_56, nm_56, qu_56, qd_56⟩ := u56
        try dsimp only at hp56
        obtain ⟨rfl, hrk56⟩ := hp56
        refine z_eq (ws' := zf [soW Z a N (ins N) (mvF N) (N 3), gW Z a (N 4) (N 5) (bkL N), pW Z a (N 6) (pkF N 0) (pkF N 1) (pkF N 2) (pkF N 3) (pkF N 4) (pkF N 5) (pkF N 6) (pkF N 7) (pkF N 8) (pkF N 9), xW Z x (a 0) (b 0) (a3 0) (b4 0) (c 0) (e 0) und hs ss us, rW Z b ef op ln_56 nm_56 qu_56 qd_56]) rfl ?_
        exact fin (wq N t (ln (t * 50 + f)).toNat f) (ln_56, nm_56, qu_56, qd_56) 59 _ _ _ dX6_ways_59 (trivial) (⟨by unfold wyR; rw [zif_t ⟨c11, c25⟩]; exact (hwy.2 c45).2.symm, hrk56⟩) (by decide) (by decide)
      · -- f
        refine z_iconst ok dX6_ways_48 ?_
        exact fin 0 (ln, nm, qu, qd) 49 _ _ _ dX6_ways_49 (trivial) (⟨by unfold wyR; rw [zif_t ⟨c11, c25⟩]; exact (hwy.1 (by omega)).symm, hok⟩) (by decide) (by decide)
    · -- f
      refine z_iconst ok dX6_ways_28 ?_
      exact fin (-1) (ln, nm, qu, qd) 29 _ _ _ dX6_ways_29 (trivial) (⟨by unfold wyR; exact (zif_f (fun z => by first | exact c11 z.1 | exact c25 z.2)).symm, hok⟩) (by decide) (by decide)
set_option maxRecDepth 20000 in
theorem c_X6_pairs {l : Launch} {Z : zZ} {x a b a3 b4 c e : Nat → Nat} {und : Int} {hs ss : List Nat} {us : Int → Int} {N : Int → Int} {ef : Int} {op ln nm qu : Int → Int} {qd : Int} (hw : wf N) (hok : rOK N ef op ln) : zI (T := Unit) l yX6_pairs (Cond.code yX6_pairs cX6_pairs 1 (some .int) :: wsL_law) ({ frames := 4, cells := 0, slots := 0, locals := 94 } : Room) Z [.ref (x 0)] (zf [soW Z a N (ins N) (mvF N) (N 3), gW Z a (N 4) (N 5) (bkL N), pW Z a (N 6) (pkF N 0) (pkF N 1) (pkF N 2) (pkF N 3) (pkF N 4) (pkF N 5) (pkF N 6) (pkF N 7) (pkF N 8) (pkF N 9), xW Z x (a 0) (b 0) (a3 0) (b4 0) (c 0) (e 0) und hs ss us, rW Z b ef op ln nm qu qd]) (fun _ => zf [soW Z a N (ins N) (mvF N) (N 3), gW Z a (N 4) (N 5) (bkL N), pW Z a (N 6) (pkF N 0) (pkF N 1) (pkF N 2) (pkF N 3) (pkF N 4) (pkF N 5) (pkF N 6) (pkF N 7) (pkF N 8) (pkF N 9), xW Z x (a 0) (b 0) (a3 0) (b4 0) (c 0) (e 0) und hs ss us, rW Z b ef op ln nm qu qd]) (fun ρ _ => ρ = prs N) := by
  refine zI_of (C := RX6) (by decide +kernel) rfl (Nat.le_of_ble_eq_true rfl) (fun _ => True) znI (fun X ok fin => ?_)
  refine z_lsub ok (lv' := [(0, .ref (x 0))]) [0] rfl ?_
  refine z_aload_n ok dX6_pairs_0 rfl ?_
  refine z_get (v := .ref (a 0)) ok zc6 16 rfl 0 (by decide) qf_RX6_12 rfl rfl dX6_pairs_1 ?_
  refine z_aload_n ok dX6_pairs_4 rfl ?_
  refine z_get (v := .ref (b 0)) ok zc6 16 rfl 1 (by decide) qf_RX6_19 rfl rfl dX6_pairs_5 ?_
  refine z_callVif ok (fun l => c_X5_connectedPairs  (hw) (hok)) zm_X5_connectedPairs zv_X5_connectedPairs qm_RX6_208 dX6_pairs_8 (by decide) (by decide) rfl rfl (Nat.le_of_ble_eq_true rfl) (q0 := 0) rfl rfl rfl (L := [soW Z a N (ins N) (mvF N) (N 3), gW Z a (N 4) (N 5) (bkL N), pW Z a (N 6) (pkF N 0) (pkF N 1) (pkF N 2) (pkF N 3) (pkF N 4) (pkF N 5) (pkF N 6) (pkF N 7) (pkF N 8) (pkF N 9), xW Z x (a 0) (b 0) (a3 0) (b4 0) (c 0) (e 0) und hs ss us, rW Z b ef op ln nm qu qd]) (Lr := [pW Z a (N 6) (pkF N 0) (pkF N 1) (pkF N 2) (pkF N 3) (pkF N 4) (pkF N 5) (pkF N 6) (pkF N 7) (pkF N 8) (pkF N 9), xW Z x (a 0) (b 0) (a3 0) (b4 0) (c 0) (e 0) und hs ss us]) [0, 1, 4, 2, 3] [0, 1, 3, 4, 2] rfl rfl (fun _ => rfl) (fun ρ _ hρ => ?_)
  subst hρ
  refine z_eq (ws' := zf [soW Z a N (ins N) (mvF N) (N 3), gW Z a (N 4) (N 5) (bkL N), pW Z a (N 6) (pkF N 0) (pkF N 1) (pkF N 2) (pkF N 3) (pkF N 4) (pkF N 5) (pkF N 6) (pkF N 7) (pkF N 8) (pkF N 9), xW Z x (a 0) (b 0) (a3 0) (b4 0) (c 0) (e 0) und hs ss us, rW Z b ef op ln nm qu qd]) rfl ?_
  exact fin (prs N) () 11 _ _ _ dX6_pairs_11 (trivial) (rfl) (by decide) (by decide)
