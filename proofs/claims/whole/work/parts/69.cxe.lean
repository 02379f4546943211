set_option maxHeartbeats 4000000 in
set_option maxRecDepth 20000 in
theorem c_X6_obey {l : Launch} {Z : zZ} {x a b a3 b4 c e : Nat → Nat} {und : Int} {hs ss : List Nat} {us : Int → Int} {N : Int → Int} {ef : Int} {op ln nm qu : Int → Int} {qd : Int} {P : Int → Int} {ln0 od : Int} {k1 f1 s1 : Int → Int} {pl : Int} {i : Int} (hw : wf N) (hok : rOK N ef op ln) (hi : 0 ≤ i ∧ i < od) (hod : od ≤ 27) (h3 : 0 ≤ N 3) (hk : k1 i = 115 ∨ k1 i = 98 ∨ k1 i = 109 ∨ k1 i = 116) (hf : 0 ≤ f1 i ∧ f1 i ≤ 99) (hs1 : ¬ k1 i = 116 → -2147483648 ≤ s1 i ∧ s1 i < 2147483648) : zI (T := (Int → Int) × (Int × (Int → Int)) × (Int → Int) × (Int → Int) × (Int → Int) × Int) l yX6_obey (Cond.code yX6_obey cX6_obey 4 (some .boolean) :: wsL_law) ({ frames := 6, cells := 0, slots := 0, locals := 150 } : Room) Z [.ref (x 0), .int (iI i)] (zf [soW Z a N (ins N) (mvF N) (N 3), gW Z a (N 4) (N 5) (bkL N), pW Z a (N 6) (pkF N 0) (pkF N 1) (pkF N 2) (pkF N 3) (pkF N 4) (pkF N 5) (pkF N 6) (pkF N 7) (pkF N 8) (pkF N 9), xW Z x (a 0) (b 0) (a3 0) (b4 0) (c 0) (e 0) und hs ss us, rW Z b ef op ln nm qu qd, dW Z e P ln0 od k1 f1 s1 pl]) (fun u => zf [soW Z a u.1 (ins u.1) (mvF u.1) (u.1 3), gW Z a (u.1 4) (u.1 5) (bkL u.1), pW Z a (u.1 6) (pkF u.1 0) (pkF u.1 1) (pkF u.1 2) (pkF u.1 3) (pkF u.1 4) (pkF u.1 5) (pkF u.1 6) (pkF u.1 7) (pkF u.1 8) (pkF u.1 9), xW Z x (a 0) (b 0) (a3 0) (b4 0) (c 0) (e 0) und hs ss us, rW Z b u.2.1.1 u.2.1.2 u.2.2.1 u.2.2.2.1 u.2.2.2.2.1 u.2.2.2.2.2, dW Z e P ln0 od k1 f1 s1 pl]) (fun ρ u => ρ = zb (0 ≤ ordR N (k1 i) (f1 i) (s1 i)) ∧ u.1 = ordM N (k1 i) (f1 i) (s1 i) ∧ rOK u.1 u.2.1.1 u.2.1.2 u.2.2.1) := by
  refine zI_of (C := RX6) (by decide +kernel) rfl (Nat.le_of_ble_eq_true rfl) (fun ρ => ρ = 0 ∨ ρ = 1) znZ (fun X ok fin => ?_)
  obtain ⟨w0, w1, w2, hc, hr, w6, wl, wp⟩ := id hw
  have hcr := cr_rng hc hr
  refine z_lsub ok (lv' := [(0, .ref (x 0)), (1, .int (iI i))]) [0, 1] rfl ?_
  refine z_iload_n ok dX6_obey_0 rfl ?_
  refine z_if_lt (tgt := 15) ok dX6_obey_1 (by decide) (by omega) (fun c1 => ?_) (fun c1 => ?_)
  · -- t
    exact absurd c1 (by omega)
  · -- f
    refine z_iload_n ok dX6_obey_4 rfl ?_
    refine z_aload_n ok dX6_obey_5 rfl ?_
    refine z_get (v := .ref (e 0)) ok zc6 16 rfl 5 (by decide) qf_RX6_39 rfl rfl dX6_obey_6 ?_
    refine z_get (v := .int (iI od)) ok zc3 25 rfl 2 (by decide) qf_RX6_242 rfl rfl dX6_obey_9 ?_
    refine z_icmp_lt (tgt := 17) ok dX6_obey_12 (by decide) (by omega) (by omega) (fun c12 => ?_) (fun c12 => ?_)
    · -- t
      refine z_aload_n ok dX6_obey_17 rfl ?_
      refine z_get (v := .ref (e 0)) ok zc6 16 rfl 5 (by decide) qf_RX6_39 rfl rfl dX6_obey_18 ?_
      refine z_get (v := .ref (e 3)) ok zc3 25 rfl 4 (by decide) qf_RX6_271 rfl rfl dX6_obey_21 ?_
      refine z_iload_n ok dX6_obey_24 rfl ?_
      refine z_iald (f := f1) ok 28 rfl dX6_obey_25 (by omega) (by decide) ?_
      refine z_istore_n (lv' := [(2, .int (iI (f1 i))), (0, .ref (x 0)), (1, .int (iI i))]) ok dX6_obey_26 (by decide) rfl ?_
      refine z_aload_n ok dX6_obey_27 rfl ?_
      refine z_get (v := .ref (e 0)) ok zc6 16 rfl 5 (by decide) qf_RX6_39 rfl rfl dX6_obey_28 ?_
      refine z_get (v := .ref (e 4)) ok zc3 25 rfl 5 (by decide) qf_RX6_274 rfl rfl dX6_obey_31 ?_
      refine z_iload_n ok dX6_obey_34 rfl ?_
      refine z_iald (f := s1) ok 29 rfl dX6_obey_35 (by omega) (by decide) ?_
      refine z_istore_n (lv' := [(3, .int (iI (s1 i))), (2, .int (iI (f1 i))), (0, .ref (x 0)), (1, .int (iI i))]) ok dX6_obey_36 (by decide) rfl ?_
      refine z_aload_n ok dX6_obey_37 rfl ?_
      refine z_get (v := .ref (e 0)) ok zc6 16 rfl 5 (by decide) qf_RX6_39 rfl rfl dX6_obey_38 ?_
      refine z_get (v := .ref (e 2)) ok zc3 25 rfl 3 (by decide) qf_RX6_277 rfl rfl dX6_obey_41 ?_
      refine z_iload_n ok dX6_obey_44 rfl ?_
      refine z_iald (f := k1) ok 27 rfl dX6_obey_45 (by omega) (by decide) ?_
      rcases (show ((k1 i) ≠ 98 ∧ (k1 i) ≠ 109 ∧ (k1 i) ≠ 115) ∨ (k1 i) = 98 ∨ (k1 i) = 109 ∨ (k1 i) = 115 by omega) with c46 | c46 | c46 | c46
      · -- switch
        refine z_lookup (off := 123) (tgt := 169) ok dX6_obey_46 (by omega) (by decide) (zlk_no (by simp; omega)) (by decide) ?_
        refine z_iload_n ok dX6_obey_169 rfl ?_
        refine z_callSie ok (fun l => c_X6_isTicks  (by omega)) zm_X6_isTicks qt_X6_isTicks qm_RX6_119 dX6_obey_170 (by decide) (by decide) rfl rfl (Nat.le_of_ble_eq_true rfl) (fun ρ _ hρ => ?_)
        subst hρ
        refine z_ifb_ne (tgt := 178) ok dX6_obey_173 (by decide) (fun c173 => ?_) (fun c173 => ?_)
        · -- t
          refine z_aload_n ok dX6_obey_178 rfl ?_
          refine z_get (v := .ref (a 0)) ok zc6 16 rfl 0 (by decide) qf_RX6_12 rfl rfl dX6_obey_179 ?_
          refine z_aload_n ok dX6_obey_182 rfl ?_
          refine z_get (v := .ref (b 0)) ok zc6 16 rfl 1 (by decide) qf_RX6_19 rfl rfl dX6_obey_183 ?_
          refine z_iload_n ok dX6_obey_186 rfl ?_
          refine z_callVvf ok (fun l => c_X5_passTicks  (hw) (hok) (by omega)) zm_X5_passTicks zv_X5_passTicks qm_RX6_122 dX6_obey_187 (by decide) (by decide) rfl rfl (Nat.le_of_ble_eq_true rfl) (q0 := 0) rfl rfl rfl (L := [soW Z a N (ins N) (mvF N) (N 3), gW Z a (N 4) (N 5) (bkL N), pW Z a (N 6) (pkF N 0) (pkF N 1) (pkF N 2) (pkF N 3) (pkF N 4) (pkF N 5) (pkF N 6) (pkF N 7) (pkF N 8) (pkF N 9), xW Z x (a 0) (b 0) (a3 0) (b4 0) (c 0) (e 0) und hs ss us, rW Z b ef op ln nm qu qd, dW Z e P ln0 od k1 f1 s1 pl]) (Lr := [xW Z x (a 0) (b 0) (a3 0) (b4 0) (c 0) (e 0) und hs ss us, dW Z e P ln0 od k1 f1 s1 pl]) [0, 1, 2, 4, 3, 5] [0, 1, 2, 4, 3, 5] rfl rfl (fun _ => rfl) (fun _ hp187 => ?_)
          refine z_eq (ws' := zf [soW Z a (tkN N (f1 i).toNat) (ins (tkN N (f1 i).toNat)) (mvF (tkN N (f1 i).toNat)) ((tkN N (f1 i).toNat) 3), gW Z a ((tkN N (f1 i).toNat) 4) ((tkN N (f1 i).toNat) 5) (bkL (tkN N (f1 i).toNat)), pW Z a ((tkN N (f1 i).toNat) 6) (pkF (tkN N (f1 i).toNat) 0) (pkF (tkN N (f1 i).toNat) 1) (pkF (tkN N (f1 i).toNat) 2) (pkF (tkN N (f1 i).toNat) 3) (pkF (tkN N (f1 i).toNat) 4) (pkF (tkN N (f1 i).toNat) 5) (pkF (tkN N (f1 i).toNat) 6) (pkF (tkN N (f1 i).toNat) 7) (pkF (tkN N (f1 i).toNat) 8) (pkF (tkN N (f1 i).toNat) 9), xW Z x (a 0) (b 0) (a3 0) (b4 0) (c 0) (e 0) und hs ss us, rW Z b ef op ln nm qu qd, dW Z e P ln0 od k1 f1 s1 pl]) rfl ?_
          refine z_iconst ok dX6_obey_190 ?_
          have he1 := ord_t1 (N := N) (k := k1 i) (a := f1 i) (b := s1 i) (by omega) c173
          exact fin 1 (tkN N (f1 i).toNat, (ef, op), ln, nm, qu, qd) 191 _ _ _ dX6_obey_191 (by first | decide | exact zb_01 _ | omega) (⟨(zb_t (by rw [he1.1]; omega)).symm, he1.2.symm, rOK_same hw (tks_same hw (f1 i).toNat) hok⟩) (by decide) (by decide)
        · -- f
          refine z_iconst ok dX6_obey_176 ?_
          have he0 := ord_t0 (N := N) (k := k1 i) (a := f1 i) (b := s1 i) (by omega) c173
          exact fin 0 (N, (ef, op), ln, nm, qu, qd) 177 _ _ _ dX6_obey_177 (by first | decide | exact zb_01 _ | omega) (⟨(zb_f (by have := he0.1; omega)).symm, he0.2.symm, hok⟩) (by decide) (by decide)
      · -- switch
        refine z_lookup (off := 71) (tgt := 117) ok dX6_obey_46 (by omega) (by decide) (by rw [c46]; rfl) (by decide) ?_
        refine z_aload_n ok dX6_obey_117 rfl ?_
        refine z_iload_n ok dX6_obey_118 rfl ?_
        refine z_iload_n ok dX6_obey_119 rfl ?_
        refine z_iconst ok dX6_obey_120 ?_
        refine z_callVif ok (fun l => c_X6_linkError  (hw) (by omega) (hs1 (by omega)) (by decide)) zm_X6_linkError zv_X6_linkError qm_RX6_102 dX6_obey_121 (by decide) (by decide) rfl rfl (Nat.le_of_ble_eq_true rfl) (q0 := 5) rfl rfl rfl (L := [soW Z a N (ins N) (mvF N) (N 3), gW Z a (N 4) (N 5) (bkL N), pW Z a (N 6) (pkF N 0) (pkF N 1) (pkF N 2) (pkF N 3) (pkF N 4) (pkF N 5) (pkF N 6) (pkF N 7) (pkF N 8) (pkF N 9), xW Z x (a 0) (b 0) (a3 0) (b4 0) (c 0) (e 0) und hs ss us, rW Z b ef op ln nm qu qd, dW Z e P ln0 od k1 f1 s1 pl]) (Lr := [pW Z a (N 6) (pkF N 0) (pkF N 1) (pkF N 2) (pkF N 3) (pkF N 4) (pkF N 5) (pkF N 6) (pkF N 7) (pkF N 8) (pkF N 9), rW Z b ef op ln nm qu qd, dW Z e P ln0 od k1 f1 s1 pl]) [0, 1, 3, 2, 4, 5] [0, 1, 3, 2, 4, 5] rfl rfl (fun _ => rfl) (fun ρ _ hρ => ?_)
        subst hρ
        refine z_eq (ws' := zf [soW Z a N (ins N) (mvF N) (N 3), gW Z a (N 4) (N 5) (bkL N), pW Z a (N 6) (pkF N 0) (pkF N 1) (pkF N 2) (pkF N 3) (pkF N 4) (pkF N 5) (pkF N 6) (pkF N 7) (pkF N 8) (pkF N 9), xW Z x (a 0) (b 0) (a3 0) (b4 0) (c 0) (e 0) und hs ss us, rW Z b ef op ln nm qu qd, dW Z e P ln0 od k1 f1 s1 pl]) rfl ?_
        have hl0 := lkE_0 (N := N) (b := f1 i) (d := s1 i) (w := 0)
        have hlr : lkE N (f1 i) (s1 i) 0 = 0 ∨ lkE N (f1 i) (s1 i) 0 = -1 ∨ lkE N (f1 i) (s1 i) 0 = -2 := lkE_c _ _ _ _
        refine z_if_ne (tgt := 141) ok dX6_obey_124 (by decide) (by omega) (fun c124 => ?_) (fun c124 => ?_)
        · -- t
          refine z_iconst ok dX6_obey_141 ?_
          have he1 := fun h => ord_l1 (N := N) (k := k1 i) (a := f1 i) (b := s1 i) (w := 0) (by omega) h
          have he0 := fun h => ord_l0 (N := N) (k := k1 i) (a := f1 i) (b := s1 i) (w := 0) (by omega) h
          exact fin 0 (N, (ef, op), ln, nm, qu, qd) 142 _ _ _ dX6_obey_142 (by first | decide | exact zb_01 _ | omega) (by first | exact ⟨(zb_t (by rw [(he1 hq).1]; omega)).symm, (he1 hq).2.symm, hk131⟩ | exact ⟨(zb_f (by have := (he0 (fun z => c124 (hl0.1.mpr z))).1; omega)).symm, (he0 (fun z => c124 (hl0.1.mpr z))).2.symm, hok⟩) (by decide) (by decide)
        · -- f
          have hq := lkE_0.1.mp (show lkE N (f1 i) (s1 i) 0 = 0 from by omega)
          have hbn := bad_not hq.2.1 hq.1
          have hl2 := lkm_rng hw hbn.1 hq.2.1 hbn.2
          have hbit := wl _ hl2.1 hl2.2
          refine z_aload_n ok dX6_obey_127 rfl ?_
          refine z_iload_n ok dX6_obey_128 rfl ?_
          refine z_iload_n ok dX6_obey_129 rfl ?_
          refine z_iconst ok dX6_obey_130 ?_
          refine z_callVif ok (fun l => c_X6_changeLink  (hw) (hbn.1) (hq.2.1) (hbn.2) (by decide)) zm_X6_changeLink zv_X6_changeLink qm_RX6_106 dX6_obey_131 (by decide) (by decide) rfl rfl (Nat.le_of_ble_eq_true rfl) (q0 := 16) rfl rfl rfl (L := [soW Z a N (ins N) (mvF N) (N 3), gW Z a (N 4) (N 5) (bkL N), pW Z a (N 6) (pkF N 0) (pkF N 1) (pkF N 2) (pkF N 3) (pkF N 4) (pkF N 5) (pkF N 6) (pkF N 7) (pkF N 8) (pkF N 9), xW Z x (a 0) (b 0) (a3 0) (b4 0) (c 0) (e 0) und hs ss us, rW Z b ef op ln nm qu qd, dW Z e P ln0 od k1 f1 s1 pl]) (Lr := [dW Z e P ln0 od k1 f1 s1 pl]) [0, 1, 2, 3, 4, 5] [0, 1, 2, 3, 4, 5] rfl rfl (fun _ => rfl) (fun r131 u131 hp131 => ?_)
          obtain ⟨ro_131, ln_131, nm_131, qu_131, qd_131⟩ := u131
          try dsimp only at hp131
          obtain ⟨rfl, hk131⟩ := hp131
          refine z_eq (ws' := zf [soW Z a (zu N (lkm N (f1 i) (s1 i)) (1 - 0)) (ins (zu N (lkm N (f1 i) (s1 i)) (1 - 0))) (mvF (zu N (lkm N (f1 i) (s1 i)) (1 - 0))) ((zu N (lkm N (f1 i) (s1 i)) (1 - 0)) 3), gW Z a ((zu N (lkm N (f1 i) (s1 i)) (1 - 0)) 4) ((zu N (lkm N (f1 i) (s1 i)) (1 - 0)) 5) (bkL (zu N (lkm N (f1 i) (s1 i)) (1 - 0))), pW Z a ((zu N (lkm N (f1 i) (s1 i)) (1 - 0)) 6) (pkF (zu N (lkm N (f1 i) (s1 i)) (1 - 0)) 0) (pkF (zu N (lkm N (f1 i) (s1 i)) (1 - 0)) 1) (pkF (zu N (lkm N (f1 i) (s1 i)) (1 - 0)) 2) (pkF (zu N (lkm N (f1 i) (s1 i)) (1 - 0)) 3) (pkF (zu N (lkm N (f1 i) (s1 i)) (1 - 0)) 4) (pkF (zu N (lkm N (f1 i) (s1 i)) (1 - 0)) 5) (pkF (zu N (lkm N (f1 i) (s1 i)) (1 - 0)) 6) (pkF (zu N (lkm N (f1 i) (s1 i)) (1 - 0)) 7) (pkF (zu N (lkm N (f1 i) (s1 i)) (1 - 0)) 8) (pkF (zu N (lkm N (f1 i) (s1 i)) (1 - 0)) 9), xW Z x (a 0) (b 0) (a3 0) (b4 0) (c 0) (e 0) und hs ss us, rW Z b ro_131.1 ro_131.2 ln_131 nm_131 qu_131 qd_131, dW Z e P ln0 od k1 f1 s1 pl]) rfl ?_
          refine z_if_lt (tgt := 141) ok dX6_obey_134 (by decide) (by omega) (fun c134 => ?_) (fun c134 => ?_)
          · -- t
            exact absurd c134 (by omega)
          · -- f
            refine z_iconst ok dX6_obey_137 ?_
            refine z_goto (tgt := 142) ok dX6_obey_138 (by decide) ?_
            have he1 := fun h => ord_l1 (N := N) (k := k1 i) (a := f1 i) (b := s1 i) (w := 0) (by omega) h
            have he0 := fun h => ord_l0 (N := N) (k := k1 i) (a := f1 i) (b := s1 i) (w := 0) (by omega) h
            exact fin 1 (zu N (lkm N (f1 i) (s1 i)) (1 - 0), (ro_131.1, ro_131.2), ln_131, nm_131, qu_131, qd_131) 142 _ _ _ dX6_obey_142 (by first | decide | exact zb_01 _ | omega) (by first | exact ⟨(zb_t (by rw [(he1 hq).1]; omega)).symm, (he1 hq).2.symm, hk131⟩ | exact ⟨(zb_f (by have := (he0 (fun z => c124 (hl0.1.mpr z))).1; omega)).symm, (he0 (fun z => c124 (hl0.1.mpr z))).2.symm, hok⟩) (by decide) (by decide)
      · -- switch
        refine z_lookup (off := 97) (tgt := 143) ok dX6_obey_46 (by omega) (by decide) (by rw [c46]; rfl) (by decide) ?_
        refine z_aload_n ok dX6_obey_143 rfl ?_
        refine z_iload_n ok dX6_obey_144 rfl ?_
        refine z_iload_n ok dX6_obey_145 rfl ?_
        refine z_iconst ok dX6_obey_146 ?_
        refine z_callVif ok (fun l => c_X6_linkError  (hw) (by omega) (hs1 (by omega)) (by decide)) zm_X6_linkError zv_X6_linkError qm_RX6_102 dX6_obey_147 (by decide) (by decide) rfl rfl (Nat.le_of_ble_eq_true rfl) (q0 := 5) rfl rfl rfl (L := [soW Z a N (ins N) (mvF N) (N 3), gW Z a (N 4) (N 5) (bkL N), pW Z a (N 6) (pkF N 0) (pkF N 1) (pkF N 2) (pkF N 3) (pkF N 4) (pkF N 5) (pkF N 6) (pkF N 7) (pkF N 8) (pkF N 9), xW Z x (a 0) (b 0) (a3 0) (b4 0) (c 0) (e 0) und hs ss us, rW Z b ef op ln nm qu qd, dW Z e P ln0 od k1 f1 s1 pl]) (Lr := [pW Z a (N 6) (pkF N 0) (pkF N 1) (pkF N 2) (pkF N 3) (pkF N 4) (pkF N 5) (pkF N 6) (pkF N 7) (pkF N 8) (pkF N 9), rW Z b ef op ln nm qu qd, dW Z e P ln0 od k1 f1 s1 pl]) [0, 1, 3, 2, 4, 5] [0, 1, 3, 2, 4, 5] rfl rfl (fun _ => rfl) (fun ρ _ hρ => ?_)
        subst hρ
        refine z_eq (ws' := zf [soW Z a N (ins N) (mvF N) (N 3), gW Z a (N 4) (N 5) (bkL N), pW Z a (N 6) (pkF N 0) (pkF N 1) (pkF N 2) (pkF N 3) (pkF N 4) (pkF N 5) (pkF N 6) (pkF N 7) (pkF N 8) (pkF N 9), xW Z x (a 0) (b 0) (a3 0) (b4 0) (c 0) (e 0) und hs ss us, rW Z b ef op ln nm qu qd, dW Z e P ln0 od k1 f1 s1 pl]) rfl ?_
        have hl0 := lkE_0 (N := N) (b := f1 i) (d := s1 i) (w := 1)
        have hlr : lkE N (f1 i) (s1 i) 1 = 0 ∨ lkE N (f1 i) (s1 i) 1 = -1 ∨ lkE N (f1 i) (s1 i) 1 = -2 := lkE_c _ _ _ _
        refine z_if_ne (tgt := 167) ok dX6_obey_150 (by decide) (by omega) (fun c150 => ?_) (fun c150 => ?_)
        · -- t
          refine z_iconst ok dX6_obey_167 ?_
          have he1 := fun h => ord_l1 (N := N) (k := k1 i) (a := f1 i) (b := s1 i) (w := 1) (by omega) h
          have he0 := fun h => ord_l0 (N := N) (k := k1 i) (a := f1 i) (b := s1 i) (w := 1) (by omega) h
          exact fin 0 (N, (ef, op), ln, nm, qu, qd) 168 _ _ _ dX6_obey_168 (by first | decide | exact zb_01 _ | omega) (by first | exact ⟨(zb_t (by rw [(he1 hq).1]; omega)).symm, (he1 hq).2.symm, hk157⟩ | exact ⟨(zb_f (by have := (he0 (fun z => c150 (hl0.1.mpr z))).1; omega)).symm, (he0 (fun z => c150 (hl0.1.mpr z))).2.symm, hok⟩) (by decide) (by decide)
        · -- f
          have hq := lkE_0.1.mp (show lkE N (f1 i) (s1 i) 1 = 0 from by omega)
          have hbn := bad_not hq.2.1 hq.1
          have hl2 := lkm_rng hw hbn.1 hq.2.1 hbn.2
          have hbit := wl _ hl2.1 hl2.2
          refine z_aload_n ok dX6_obey_153 rfl ?_
          refine z_iload_n ok dX6_obey_154 rfl ?_
          refine z_iload_n ok dX6_obey_155 rfl ?_
          refine z_iconst ok dX6_obey_156 ?_
          refine z_callVif ok (fun l => c_X6_changeLink  (hw) (hbn.1) (hq.2.1) (hbn.2) (by decide)) zm_X6_changeLink zv_X6_changeLink qm_RX6_106 dX6_obey_157 (by decide) (by decide) rfl rfl (Nat.le_of_ble_eq_true rfl) (q0 := 16) rfl rfl rfl (L := [soW Z a N (ins N) (mvF N) (N 3), gW Z a (N 4) (N 5) (bkL N), pW Z a (N 6) (pkF N 0) (pkF N 1) (pkF N 2) (pkF N 3) (pkF N 4) (pkF N 5) (pkF N 6) (pkF N 7) (pkF N 8) (pkF N 9), xW Z x (a 0) (b 0) (a3 0) (b4 0) (c 0) (e 0) und hs ss us, rW Z b ef op ln nm qu qd, dW Z e P ln0 od k1 f1 s1 pl]) (Lr := [dW Z e P ln0 od k1 f1 s1 pl]) [0, 1, 2, 3, 4, 5] [0, 1, 2, 3, 4, 5] rfl rfl (fun _ => rfl) (fun r157 u157 hp157 => ?_)
          obtain ⟨ro_157, ln_157, nm_157, qu_157, qd_157⟩ := u157
          try dsimp only at hp157
          obtain ⟨rfl, hk157⟩ := hp157
          refine z_eq (ws' := zf [soW Z a (zu N (lkm N (f1 i) (s1 i)) (1 - 1)) (ins (zu N (lkm N (f1 i) (s1 i)) (1 - 1))) (mvF (zu N (lkm N (f1 i) (s1 i)) (1 - 1))) ((zu N (lkm N (f1 i) (s1 i)) (1 - 1)) 3), gW Z a ((zu N (lkm N (f1 i) (s1 i)) (1 - 1)) 4) ((zu N (lkm N (f1 i) (s1 i)) (1 - 1)) 5) (bkL (zu N (lkm N (f1 i) (s1 i)) (1 - 1))), pW Z a ((zu N (lkm N (f1 i) (s1 i)) (1 - 1)) 6) (pkF (zu N (lkm N (f1 i) (s1 i)) (1 - 1)) 0) (pkF (zu N (lkm N (f1 i) (s1 i)) (1 - 1)) 1) (pkF (zu N (lkm N (f1 i) (s1 i)) (1 - 1)) 2) (pkF (zu N (lkm N (f1 i) (s1 i)) (1 - 1)) 3) (pkF (zu N (lkm N (f1 i) (s1 i)) (1 - 1)) 4) (pkF (zu N (lkm N (f1 i) (s1 i)) (1 - 1)) 5) (pkF (zu N (lkm N (f1 i) (s1 i)) (1 - 1)) 6) (pkF (zu N (lkm N (f1 i) (s1 i)) (1 - 1)) 7) (pkF (zu N (lkm N (f1 i) (s1 i)) (1 - 1)) 8) (pkF (zu N (lkm N (f1 i) (s1 i)) (1 - 1)) 9), xW Z x (a 0) (b 0) (a3 0) (b4 0) (c 0) (e 0) und hs ss us, rW Z b ro_157.1 ro_157.2 ln_157 nm_157 qu_157 qd_157, dW Z e P ln0 od k1 f1 s1 pl]) rfl ?_
          refine z_if_lt (tgt := 167) ok dX6_obey_160 (by decide) (by omega) (fun c160 => ?_) (fun c160 => ?_)
          · -- t
            exact absurd c160 (by omega)
          · -- f
            refine z_iconst ok dX6_obey_163 ?_
            refine z_goto (tgt := 168) ok dX6_obey_164 (by decide) ?_
            have he1 := fun h => ord_l1 (N := N) (k := k1 i) (a := f1 i) (b := s1 i) (w := 1) (by omega) h
            have he0 := fun h => ord_l0 (N := N) (k := k1 i) (a := f1 i) (b := s1 i) (w := 1) (by omega) h
            exact fin 1 (zu N (lkm N (f1 i) (s1 i)) (1 - 1), (ro_157.1, ro_157.2), ln_157, nm_157, qu_157, qd_157) 168 _ _ _ dX6_obey_168 (by first | decide | exact zb_01 _ | omega) (by first | exact ⟨(zb_t (by rw [(he1 hq).1]; omega)).symm, (he1 hq).2.symm, hk157⟩ | exact ⟨(zb_f (by have := (he0 (fun z => c150 (hl0.1.mpr z))).1; omega)).symm, (he0 (fun z => c150 (hl0.1.mpr z))).2.symm, hok⟩) (by decide) (by decide)
      · -- switch
        refine z_lookup (off := 34) (tgt := 80) ok dX6_obey_46 (by omega) (by decide) (by rw [c46]; rfl) (by decide) ?_
        refine z_aload_n ok dX6_obey_80 rfl ?_
        refine z_iload_n ok dX6_obey_81 rfl ?_
        refine z_iload_n ok dX6_obey_82 rfl ?_
        refine z_callVif ok (fun l => c_X6_sendError  (hw) (hok) (by omega) (hs1 (by omega))) zm_X6_sendError zv_X6_sendError qm_RX6_109 dX6_obey_83 (by decide) (by decide) rfl rfl (Nat.le_of_ble_eq_true rfl) (q0 := 16) rfl rfl rfl (L := [soW Z a N (ins N) (mvF N) (N 3), gW Z a (N 4) (N 5) (bkL N), pW Z a (N 6) (pkF N 0) (pkF N 1) (pkF N 2) (pkF N 3) (pkF N 4) (pkF N 5) (pkF N 6) (pkF N 7) (pkF N 8) (pkF N 9), xW Z x (a 0) (b 0) (a3 0) (b4 0) (c 0) (e 0) und hs ss us, rW Z b ef op ln nm qu qd, dW Z e P ln0 od k1 f1 s1 pl]) (Lr := [dW Z e P ln0 od k1 f1 s1 pl]) [0, 1, 2, 3, 4, 5] [0, 1, 2, 3, 4, 5] rfl rfl (fun _ => rfl) (fun ρ _ hρ => ?_)
        subst hρ
        refine z_eq (ws' := zf [soW Z a N (ins N) (mvF N) (N 3), gW Z a (N 4) (N 5) (bkL N), pW Z a (N 6) (pkF N 0) (pkF N 1) (pkF N 2) (pkF N 3) (pkF N 4) (pkF N 5) (pkF N 6) (pkF N 7) (pkF N 8) (pkF N 9), xW Z x (a 0) (b 0) (a3 0) (b4 0) (c 0) (e 0) und hs ss us, rW Z b ef op ln nm qu qd, dW Z e P ln0 od k1 f1 s1 pl]) rfl ?_
        have hse := sndE_cases N (f1 i) (s1 i)
        refine z_if_ne (tgt := 115) ok dX6_obey_86 (by decide) (by omega) (fun c86 => ?_) (fun c86 => ?_)
        · -- t
          refine z_iconst ok dX6_obey_115 ?_
          have he1 := fun h => ord_s1 (N := N) (k := k1 i) (a := f1 i) (b := s1 i) (by omega) h
          have he0 := fun h => ord_s0 (N := N) (k := k1 i) (a := f1 i) (b := s1 i) (by omega) h
          exact fin 0 (N, (ef, op), ln, nm, qu, qd) 116 _ _ _ dX6_obey_116 (by first | decide | exact zb_01 _ | omega) (by first | exact ⟨(zb_t (by rw [(he1 c86).1]; omega)).symm, (he1 c86).2.symm, rOK_same hw (snd_same w6.1) hok⟩ | exact ⟨(zb_f (by have := (he0 c86).1; omega)).symm, (he0 c86).2.symm, hok⟩) (by decide) (by decide)
        · -- f
          have hso := sndE_ok c86
          refine z_aload_n ok dX6_obey_89 rfl ?_
          refine z_get (v := .ref (a 0)) ok zc6 16 rfl 0 (by decide) qf_RX6_12 rfl rfl dX6_obey_90 ?_
          refine z_get (v := .ref (a 3)) ok zc5 0 rfl 2 (by decide) qf_RX6_79 rfl rfl dX6_obey_93 ?_
          refine z_iload_n ok dX6_obey_96 rfl ?_
          refine z_iload_n ok dX6_obey_97 rfl ?_
          refine z_aload_n ok dX6_obey_98 rfl ?_
          refine z_get (v := .ref (a 0)) ok zc6 16 rfl 0 (by decide) qf_RX6_12 rfl rfl dX6_obey_99 ?_
          refine z_get (v := .int (iI (N 3))) ok zc5 0 rfl 5 (by decide) qf_RX6_113 rfl rfl dX6_obey_102 ?_
          refine z_callVif ok (fun l => c_X2_add  (by omega)) zm_X2_add zv_X2_add qm_RX6_116 dX6_obey_105 (by decide) (by decide) rfl rfl (Nat.le_of_ble_eq_true rfl) (q0 := 0) rfl rfl rfl (L := [soW Z a N (ins N) (mvF N) (N 3), gW Z a (N 4) (N 5) (bkL N), pW Z a (N 6) (pkF N 0) (pkF N 1) (pkF N 2) (pkF N 3) (pkF N 4) (pkF N 5) (pkF N 6) (pkF N 7) (pkF N 8) (pkF N 9), xW Z x (a 0) (b 0) (a3 0) (b4 0) (c 0) (e 0) und hs ss us, rW Z b ef op ln nm qu qd, dW Z e P ln0 od k1 f1 s1 pl]) (Lr := [soW Z a N (ins N) (mvF N) (N 3), gW Z a (N 4) (N 5) (bkL N), xW Z x (a 0) (b 0) (a3 0) (b4 0) (c 0) (e 0) und hs ss us, rW Z b ef op ln nm qu qd, dW Z e P ln0 od k1 f1 s1 pl]) [2, 0, 1, 3, 4, 5] [1, 2, 0, 3, 4, 5] rfl rfl (fun _ => rfl) (fun ρ _ hρ => ?_)
          subst hρ
          refine z_eq (ws' := zf [soW Z a N (ins N) (mvF N) (N 3), gW Z a (N 4) (N 5) (bkL N), pW Z a (N 6 + 1) (zu (pkF N 0) (N 6) (f1 i)) (zu (pkF N 1) (N 6) (s1 i)) (zu (pkF N 2) (N 6) 0) (zu (pkF N 3) (N 6) (f1 i)) (zu (pkF N 4) (N 6) 0) (zu (pkF N 5) (N 6) 0) (zu (pkF N 6) (N 6) 0) (zu (pkF N 7) (N 6) (N 3)) (zu (pkF N 8) (N 6) (-6)) (zu (pkF N 9) (N 6) 0), xW Z x (a 0) (b 0) (a3 0) (b4 0) (c 0) (e 0) und hs ss us, rW Z b ef op ln nm qu qd, dW Z e P ln0 od k1 f1 s1 pl]) rfl ?_
          refine z_if_lt (tgt := 115) ok dX6_obey_108 (by decide) (by omega) (fun c108 => ?_) (fun c108 => ?_)
          · -- t
            exact absurd c108 (by omega)
          · -- f
            refine z_snd ok _ (by omega) ?_
            refine z_iconst ok dX6_obey_111 ?_
            refine z_goto (tgt := 116) ok dX6_obey_112 (by decide) ?_
            have he1 := fun h => ord_s1 (N := N) (k := k1 i) (a := f1 i) (b := s1 i) (by omega) h
            have he0 := fun h => ord_s0 (N := N) (k := k1 i) (a := f1 i) (b := s1 i) (by omega) h
            exact fin 1 (sndN N (f1 i) (s1 i), (ef, op), ln, nm, qu, qd) 116 _ _ _ dX6_obey_116 (by first | decide | exact zb_01 _ | omega) (by first | exact ⟨(zb_t (by rw [(he1 c86).1]; omega)).symm, (he1 c86).2.symm, rOK_same hw (snd_same w6.1) hok⟩ | exact ⟨(zb_f (by have := (he0 c86).1; omega)).symm, (he0 c86).2.symm, hok⟩) (by decide) (by decide)
    · -- f
      exact absurd hi.2 (by omega)
