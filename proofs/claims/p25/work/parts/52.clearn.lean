set_option maxRecDepth 20000 in
theorem c_X4_learn {l : Launch} {Z : zZ} {b : Nat → Nat} {ef : Int} {op ln nm qu : Int → Int} {qd : Int} {a : Nat → Nat} {N : Int → Int} (hw : wf N) : zN (T := (Int × (Int → Int)) × (Int → Int) × (Int → Int) × (Int → Int) × Int) l yX4_learn (Cond.code yX4_learn cX4_learn 8 none :: wsL_law) ({ frames := 3, cells := 0, slots := 0, locals := 75 } : Room) Z [.ref (b 0), .ref (a 2), .int (iI (N 0))] (zf [rW Z b ef op ln nm qu qd, gW Z a (N 4) (N 5) (bkL N)]) (fun u => zf [rW Z b u.1.1 u.1.2 u.2.1 u.2.2.1 u.2.2.2.1 u.2.2.2.2, gW Z a (N 4) (N 5) (bkL N)]) (fun u => rOK N u.1.1 u.1.2 u.2.1) := by
  refine zN_of (C := RX4) (by decide +kernel) rfl (Nat.le_of_ble_eq_true rfl) (fun X ok fin => ?_)
  obtain ⟨w0, w1, w2, hc, hr, w6, wl, wp⟩ := id hw
  have hcr := cr_rng hc hr
  refine z_lsub ok (lv' := [(0, .ref (b 0)), (1, .ref (a 2)), (2, .int (iI (N 0)))]) [0, 1, 2] rfl ?_
  refine z_aload_n ok dX4_learn_0 rfl ?_
  refine z_callVif ok (fun l => c_X0_boxes  ) zm_X0_boxes zv_X0_boxes qm_RX4_32 dX4_learn_1 (by decide) (by decide) rfl rfl (Nat.le_of_ble_eq_true rfl) (q0 := 0) rfl rfl rfl (L := [rW Z b ef op ln nm qu qd, gW Z a (N 4) (N 5) (bkL N)]) (Lr := [rW Z b ef op ln nm qu qd]) [1, 0] [1, 0] rfl rfl (fun _ => rfl) (fun ρ _ hρ => ?_)
  subst hρ
  refine z_eq (ws' := zf [rW Z b ef op ln nm qu qd, gW Z a (N 4) (N 5) (bkL N)]) rfl ?_
  refine z_istore_n (lv' := [(3, .int (iI (N 4 * N 5))), (0, .ref (b 0)), (1, .ref (a 2)), (2, .int (iI (N 0)))]) ok dX4_learn_4 (by decide) rfl ?_
  have L19 : ∀ (ef1 : Int), (0 ≤ ef1 ∧ ef1 ≤ 1 ∧ (ef1 = 1 ↔ N 0 = 1)) → zV X 0 0 (zf [rW Z b ef1 op ln nm qu qd, gW Z a (N 4) (N 5) (bkL N)]) 19 [(0, .ref (b 0)), (1, .ref (a 2)), (2, .int (iI (N 0))), (3, .int (iI (N 4 * N 5)))] [] := by
    intro ef1 h19_0
    refine z_iconst ok dX4_learn_19 ?_
    refine z_istore (lv' := [(4, .int (iI 0)), (0, .ref (b 0)), (1, .ref (a 2)), (2, .int (iI (N 0))), (3, .int (iI (N 4 * N 5)))]) ok dX4_learn_20 (by decide) rfl ?_
    have L22 : ∀ (fuel : Nat) (bx : Int) (o1 : Int → Int), (0 ≤ bx) → (bx ≤ N 4 * N 5) → (opF N bx 0 o1) → (N 4 * N 5 - bx).toNat < fuel → zV X 0 0 (zf [rW Z b ef1 o1 ln nm qu qd, gW Z a (N 4) (N 5) (bkL N)]) 22 [(0, .ref (b 0)), (1, .ref (a 2)), (2, .int (iI (N 0))), (3, .int (iI (N 4 * N 5))), (4, .int (iI bx))] [] := by
      intro fuel
      induction fuel with
      | zero => intro bx o1 h22_0 h22_1 h22_2 hf; exact absurd hf (Nat.not_lt_zero _)
      | succ fuel ih22 =>
        intro bx o1 h22_0 h22_1 h22_2 hf
        refine z_iload ok dX4_learn_22 rfl ?_
        refine z_iload_n ok dX4_learn_24 rfl ?_
        refine z_icmp_ge (tgt := 110) ok dX4_learn_25 (by decide) (by omega) (by omega) (fun c25 => ?_) (fun c25 => ?_)
        · -- t
          have hbx : bx = N 4 * N 5 := by omega
          subst hbx
          have hOP : opK N ef1 o1 := ⟨h19_0, opF_all h22_2⟩
          refine z_iconst ok dX4_learn_110 ?_
          refine z_istore (lv' := [(4, .int (iI 0)), (0, .ref (b 0)), (1, .ref (a 2)), (2, .int (iI (N 0))), (3, .int (iI (N 4 * N 5)))]) ok dX4_learn_111 (by decide) rfl ?_
          have L113 : ∀ (fuel : Nat) (to : Int) (l1 n1 q1 : Int → Int) (d1 : Int), (0 ≤ to) → (to ≤ N 4 * N 5) → (∀ t x : Int, 0 ≤ t → t < to → vsp N x → lqo N t x (l1 (t * 50 + x))) → (N 4 * N 5 - to).toNat < fuel → zV X 0 0 (zf [rW Z b ef1 o1 l1 n1 q1 d1, gW Z a (N 4) (N 5) (bkL N)]) 113 [(0, .ref (b 0)), (1, .ref (a 2)), (2, .int (iI (N 0))), (3, .int (iI (N 4 * N 5))), (4, .int (iI to))] [] := by
            intro fuel
            induction fuel with
            | zero => intro to l1 n1 q1 d1 h113_0 h113_1 h113_2 hf; exact absurd hf (Nat.not_lt_zero _)
            | succ fuel ih113 =>
              intro to l1 n1 q1 d1 h113_0 h113_1 h113_2 hf
              refine z_iload ok dX4_learn_113 rfl ?_
              refine z_iload_n ok dX4_learn_115 rfl ?_
              refine z_icmp_ge (tgt := 131) ok dX4_learn_116 (by decide) (by omega) (by omega) (fun c116 => ?_) (fun c116 => ?_)
              · -- t
                exact fin ((ef1, o1), l1, n1, q1, d1) 131 _ _ _ dX4_learn_131 (⟨hOP, fun t x h0 h1 hx => h113_2 t x h0 (by omega) hx⟩) (by decide) (by decide)
              · -- f
                refine z_aload_n ok dX4_learn_119 rfl ?_
                refine z_iload ok dX4_learn_120 rfl ?_
                refine z_callVvf ok (fun l => c_X4_search  (hw) (by omega) (hOP)) zm_X4_search zv_X4_search qm_RX4_49 dX4_learn_122 (by decide) (by decide) rfl rfl (Nat.le_of_ble_eq_true rfl) (q0 := 0) rfl rfl rfl (L := [rW Z b ef1 o1 l1 n1 q1 d1, gW Z a (N 4) (N 5) (bkL N)]) (Lr := [gW Z a (N 4) (N 5) (bkL N)]) [0, 1] [0, 1] rfl rfl (fun _ => rfl) (fun u122 hp122 => ?_)
                obtain ⟨ln_122, nm_122, qu_122, qd_122⟩ := u122
                try dsimp only at hp122
                refine z_eq (ws' := zf [rW Z b ef1 o1 ln_122 nm_122 qu_122 qd_122, gW Z a (N 4) (N 5) (bkL N)]) rfl ?_
                have hln113 : ∀ t x : Int, 0 ≤ t → t < to + 1 → vsp N x → lqo N t x (ln_122 (t * 50 + x)) := fun t x h0 h1 hx => by
                    by_cases e : t = to
                    · subst e; exact (hp122.1 x hx).1
                    · rw [hp122.2 _ (by have := hx.1; have := hx.2.1; omega)]; exact h113_2 t x h0 (by omega) hx
                refine z_iinc (lv' := [(4, .int (iI (to + 1))), (0, .ref (b 0)), (1, .ref (a 2)), (2, .int (iI (N 0))), (3, .int (iI (N 4 * N 5)))]) ok dX4_learn_125 4 rfl (by decide) rfl ?_
                refine z_goto (tgt := 113) ok dX4_learn_128 (by decide) ?_
                refine z_lsub ok (lv' := [(0, .ref (b 0)), (1, .ref (a 2)), (2, .int (iI (N 0))), (3, .int (iI (N 4 * N 5))), (4, .int (iI (to + 1)))]) [1, 2, 3, 4, 0] rfl ?_
                exact ih113 _ _ _ _ _ (by omega) (by omega) (hln113) (by omega)
          refine z_lsub ok (lv' := [(0, .ref (b 0)), (1, .ref (a 2)), (2, .int (iI (N 0))), (3, .int (iI (N 4 * N 5))), (4, .int (iI 0))]) [1, 2, 3, 4, 0] rfl ?_
          exact L113 _ _ _ _ _ _ (by omega) (by omega) (fun t x h0 h1 => absurd h1 (by omega)) (Nat.lt_succ_self _)
        · -- f
          refine z_iconst ok dX4_learn_28 ?_
          refine z_istore (lv' := [(5, .int (iI 0)), (0, .ref (b 0)), (1, .ref (a 2)), (2, .int (iI (N 0))), (3, .int (iI (N 4 * N 5))), (4, .int (iI bx))]) ok dX4_learn_29 (by decide) rfl ?_
          have L31 : ∀ (fuel : Nat) (sd : Int) (o1 : Int → Int), (0 ≤ sd) → (sd ≤ 4) → (opF N bx sd o1) → (4 - sd).toNat < fuel → zV X 0 0 (zf [rW Z b ef1 o1 ln nm qu qd, gW Z a (N 4) (N 5) (bkL N)]) 31 [(0, .ref (b 0)), (1, .ref (a 2)), (2, .int (iI (N 0))), (3, .int (iI (N 4 * N 5))), (4, .int (iI bx)), (5, .int (iI sd))] [] := by
            intro fuel
            induction fuel with
            | zero => intro sd o1 h31_0 h31_1 h31_2 hf; exact absurd hf (Nat.not_lt_zero _)
            | succ fuel ih31 =>
              intro sd o1 h31_0 h31_1 h31_2 hf
              refine z_iload ok dX4_learn_31 rfl ?_
              refine z_iconst ok dX4_learn_33 ?_
              refine z_icmp_ge (tgt := 104) ok dX4_learn_34 (by decide) (by omega) (by omega) (fun c34 => ?_) (fun c34 => ?_)
              · -- t
                refine z_iinc (lv' := [(4, .int (iI (bx + 1))), (0, .ref (b 0)), (1, .ref (a 2)), (2, .int (iI (N 0))), (3, .int (iI (N 4 * N 5))), (5, .int (iI sd))]) ok dX4_learn_104 4 rfl (by decide) rfl ?_
                refine z_goto (tgt := 22) ok dX4_learn_107 (by decide) ?_
                refine z_lsub ok (lv' := [(0, .ref (b 0)), (1, .ref (a 2)), (2, .int (iI (N 0))), (3, .int (iI (N 4 * N 5))), (4, .int (iI (bx + 1)))]) [1, 2, 3, 4, 0] rfl ?_
                exact ih22 _ _ (by omega) (by omega) (opF_up (by omega) h31_2) (by omega)
              · -- f
                have hlk := lkc_rng (b := bx) (d := sd) hw (by omega) (by omega)
                refine z_aload_n ok dX4_learn_37 rfl ?_
                refine z_iload ok dX4_learn_38 rfl ?_
                refine z_iload ok dX4_learn_40 rfl ?_
                refine z_callVif ok (fun l => c_X0_linkAt  (hw) (by omega) (by omega)) zm_X0_linkAt zv_X0_linkAt qm_RX4_38 dX4_learn_42 (by decide) (by decide) rfl rfl (Nat.le_of_ble_eq_true rfl) (q0 := 0) rfl rfl rfl (L := [rW Z b ef1 o1 ln nm qu qd, gW Z a (N 4) (N 5) (bkL N)]) (Lr := [rW Z b ef1 o1 ln nm qu qd]) [1, 0] [1, 0] rfl rfl (fun _ => rfl) (fun ρ _ hρ => ?_)
                subst hρ
                refine z_eq (ws' := zf [rW Z b ef1 o1 ln nm qu qd, gW Z a (N 4) (N 5) (bkL N)]) rfl ?_
                refine z_istore (lv' := [(6, .int (iI (lkc N bx sd))), (0, .ref (b 0)), (1, .ref (a 2)), (2, .int (iI (N 0))), (3, .int (iI (N 4 * N 5))), (4, .int (iI bx)), (5, .int (iI sd))]) ok dX4_learn_45 (by decide) rfl ?_
                refine z_iload ok dX4_learn_47 rfl ?_
                refine z_iconst ok dX4_learn_49 ?_
                refine z_icmp_eq (tgt := 66) ok dX4_learn_50 (by decide) (by omega) (by omega) (fun c50 => ?_) (fun c50 => ?_)
                · -- t
                  have hv31 := oq_f (N := N) (b := bx) (d := sd) (fun g => by have := g.1; omega)
                  refine z_iconst ok dX4_learn_66 ?_
                  refine z_istore (lv' := [(7, .int (iI 0)), (6, .int (iI (lkc N bx sd))), (0, .ref (b 0)), (1, .ref (a 2)), (2, .int (iI (N 0))), (3, .int (iI (N 4 * N 5))), (4, .int (iI bx)), (5, .int (iI sd))]) ok dX4_learn_67 (by decide) rfl ?_
                  refine z_aload_n ok dX4_learn_69 rfl ?_
                  refine z_get (v := .ref (b 1)) ok zc4 0 rfl 1 (by decide) qf_RX4_15 rfl rfl dX4_learn_70 ?_
                  refine z_iload ok dX4_learn_73 rfl ?_
                  refine z_iconst ok dX4_learn_75 ?_
                  refine z_imul ok dX4_learn_76 ?_
                  refine z_iload ok dX4_learn_77 rfl ?_
                  refine z_iadd ok dX4_learn_79 ?_
                  refine z_iload ok dX4_learn_80 rfl ?_
                  refine z_if_eq (tgt := 96) ok dX4_learn_82 (by decide) (by omega) (fun c82 => ?_) (fun c82 => ?_)
                  · -- t
                    refine z_iconst ok dX4_learn_96 ?_
                    refine z_iast (f := o1) (v := (-1)) (ws' := zf [rW Z b ef1 (zu o1 ((bx * 4) + sd) (-1)) ln nm qu qd, gW Z a (N 4) (N 5) (bkL N)]) ok 1 rfl dX4_learn_97 (by omega) (by decide) rfl ?_
                    refine z_iinc (lv' := [(5, .int (iI (sd + 1))), (7, .int (iI 0)), (6, .int (iI (lkc N bx sd))), (0, .ref (b 0)), (1, .ref (a 2)), (2, .int (iI (N 0))), (3, .int (iI (N 4 * N 5))), (4, .int (iI bx))]) ok dX4_learn_98 7 rfl (by decide) rfl ?_
                    refine z_goto (tgt := 31) ok dX4_learn_101 (by decide) ?_
                    refine z_lsub ok (lv' := [(0, .ref (b 0)), (1, .ref (a 2)), (2, .int (iI (N 0))), (3, .int (iI (N 4 * N 5))), (4, .int (iI bx)), (5, .int (iI (sd + 1)))]) [3, 4, 5, 6, 7, 0] rfl ?_
                    exact ih31 _ _ (by omega) (by omega) (opF_st h31_2 hv31 (by omega) (by omega)) (by omega)
                  · -- f
                    exact absurd c82 (by decide)
                · -- f
                  have hlr : 0 ≤ nb N bx sd := by omega
                  have hlv := hlk.2.2.2 hlr
                  have hl2 := lkm_rng (b := bx) (d := sd) hw (by omega) (by omega) hlr
                  have hbit := wl _ hl2.1 hl2.2
                  refine z_aload_n ok dX4_learn_53 rfl ?_
                  refine z_iload ok dX4_learn_54 rfl ?_
                  refine z_callVif ok (fun l => c_X0_isWhole  (by omega) (by rw [show 10 + lkc N bx sd = lkm N bx sd by omega]; omega)) zm_X0_isWhole zv_X0_isWhole qm_RX4_42 dX4_learn_56 (by decide) (by decide) rfl rfl (Nat.le_of_ble_eq_true rfl) (q0 := 0) rfl rfl rfl (L := [rW Z b ef1 o1 ln nm qu qd, gW Z a (N 4) (N 5) (bkL N)]) (Lr := [rW Z b ef1 o1 ln nm qu qd]) [1, 0] [1, 0] rfl rfl (fun _ => rfl) (fun ρ _ hρ => ?_)
                  subst hρ
                  refine z_eq (ws' := zf [rW Z b ef1 o1 ln nm qu qd, gW Z a (N 4) (N 5) (bkL N)]) rfl ?_
                  refine z_ifb_eq (tgt := 66) ok dX4_learn_59 (by decide) (fun c59 => ?_) (fun c59 => ?_)
                  · -- t
                    have hv31 := oq_f (N := N) (b := bx) (d := sd) (fun g => c59 (by rw [show 10 + lkc N bx sd = lkm N bx sd by omega]; exact g.2))
                    refine z_iconst ok dX4_learn_66 ?_
                    refine z_istore (lv' := [(7, .int (iI 0)), (6, .int (iI (lkc N bx sd))), (0, .ref (b 0)), (1, .ref (a 2)), (2, .int (iI (N 0))), (3, .int (iI (N 4 * N 5))), (4, .int (iI bx)), (5, .int (iI sd))]) ok dX4_learn_67 (by decide) rfl ?_
                    refine z_aload_n ok dX4_learn_69 rfl ?_
                    refine z_get (v := .ref (b 1)) ok zc4 0 rfl 1 (by decide) qf_RX4_15 rfl rfl dX4_learn_70 ?_
                    refine z_iload ok dX4_learn_73 rfl ?_
                    refine z_iconst ok dX4_learn_75 ?_
                    refine z_imul ok dX4_learn_76 ?_
                    refine z_iload ok dX4_learn_77 rfl ?_
                    refine z_iadd ok dX4_learn_79 ?_
                    refine z_iload ok dX4_learn_80 rfl ?_
                    refine z_if_eq (tgt := 96) ok dX4_learn_82 (by decide) (by omega) (fun c82 => ?_) (fun c82 => ?_)
                    · -- t
                      refine z_iconst ok dX4_learn_96 ?_
                      refine z_iast (f := o1) (v := (-1)) (ws' := zf [rW Z b ef1 (zu o1 ((bx * 4) + sd) (-1)) ln nm qu qd, gW Z a (N 4) (N 5) (bkL N)]) ok 1 rfl dX4_learn_97 (by omega) (by decide) rfl ?_
                      refine z_iinc (lv' := [(5, .int (iI (sd + 1))), (7, .int (iI 0)), (6, .int (iI (lkc N bx sd))), (0, .ref (b 0)), (1, .ref (a 2)), (2, .int (iI (N 0))), (3, .int (iI (N 4 * N 5))), (4, .int (iI bx))]) ok dX4_learn_98 7 rfl (by decide) rfl ?_
                      refine z_goto (tgt := 31) ok dX4_learn_101 (by decide) ?_
                      refine z_lsub ok (lv' := [(0, .ref (b 0)), (1, .ref (a 2)), (2, .int (iI (N 0))), (3, .int (iI (N 4 * N 5))), (4, .int (iI bx)), (5, .int (iI (sd + 1)))]) [3, 4, 5, 6, 7, 0] rfl ?_
                      exact ih31 _ _ (by omega) (by omega) (opF_st h31_2 hv31 (by omega) (by omega)) (by omega)
                    · -- f
                      exact absurd c82 (by decide)
                  · -- f
                    have hv31 := oq_t (N := N) (b := bx) (d := sd) ⟨hlr, by rw [show lkm N bx sd = 10 + lkc N bx sd by omega]; exact c59⟩
                    refine z_iconst ok dX4_learn_62 ?_
                    refine z_goto (tgt := 67) ok dX4_learn_63 (by decide) ?_
                    refine z_istore (lv' := [(7, .int (iI 1)), (6, .int (iI (lkc N bx sd))), (0, .ref (b 0)), (1, .ref (a 2)), (2, .int (iI (N 0))), (3, .int (iI (N 4 * N 5))), (4, .int (iI bx)), (5, .int (iI sd))]) ok dX4_learn_67 (by decide) rfl ?_
                    refine z_aload_n ok dX4_learn_69 rfl ?_
                    refine z_get (v := .ref (b 1)) ok zc4 0 rfl 1 (by decide) qf_RX4_15 rfl rfl dX4_learn_70 ?_
                    refine z_iload ok dX4_learn_73 rfl ?_
                    refine z_iconst ok dX4_learn_75 ?_
                    refine z_imul ok dX4_learn_76 ?_
                    refine z_iload ok dX4_learn_77 rfl ?_
                    refine z_iadd ok dX4_learn_79 ?_
                    refine z_iload ok dX4_learn_80 rfl ?_
                    refine z_if_eq (tgt := 96) ok dX4_learn_82 (by decide) (by omega) (fun c82 => ?_) (fun c82 => ?_)
                    · -- t
                      exact absurd c82 (by decide)
                    · -- f
                      refine z_aload_n ok dX4_learn_85 rfl ?_
                      refine z_iload ok dX4_learn_86 rfl ?_
                      refine z_iload ok dX4_learn_88 rfl ?_
                      refine z_callVif ok (fun l => c_X0_beside  (by omega) (by omega) (by omega) (by omega)) zm_X0_beside zv_X0_beside qm_RX4_46 dX4_learn_90 (by decide) (by decide) rfl rfl (Nat.le_of_ble_eq_true rfl) (q0 := 0) rfl rfl rfl (L := [rW Z b ef1 o1 ln nm qu qd, gW Z a (N 4) (N 5) (bkL N)]) (Lr := [rW Z b ef1 o1 ln nm qu qd]) [1, 0] [1, 0] rfl rfl (fun _ => rfl) (fun ρ _ hρ => ?_)
                      subst hρ
                      refine z_eq (ws' := zf [rW Z b ef1 o1 ln nm qu qd, gW Z a (N 4) (N 5) (bkL N)]) rfl ?_
                      refine z_goto (tgt := 97) ok dX4_learn_93 (by decide) ?_
                      refine z_iast (f := o1) (v := nb N bx sd) (ws' := zf [rW Z b ef1 (zu o1 ((bx * 4) + sd) (nb N bx sd)) ln nm qu qd, gW Z a (N 4) (N 5) (bkL N)]) ok 1 rfl dX4_learn_97 (by omega) (by decide) rfl ?_
                      refine z_iinc (lv' := [(5, .int (iI (sd + 1))), (7, .int (iI 1)), (6, .int (iI (lkc N bx sd))), (0, .ref (b 0)), (1, .ref (a 2)), (2, .int (iI (N 0))), (3, .int (iI (N 4 * N 5))), (4, .int (iI bx))]) ok dX4_learn_98 7 rfl (by decide) rfl ?_
                      refine z_goto (tgt := 31) ok dX4_learn_101 (by decide) ?_
                      refine z_lsub ok (lv' := [(0, .ref (b 0)), (1, .ref (a 2)), (2, .int (iI (N 0))), (3, .int (iI (N 4 * N 5))), (4, .int (iI bx)), (5, .int (iI (sd + 1)))]) [3, 4, 5, 6, 7, 0] rfl ?_
                      exact ih31 _ _ (by omega) (by omega) (opF_st h31_2 hv31 (by omega) (by omega)) (by omega)
          refine z_lsub ok (lv' := [(0, .ref (b 0)), (1, .ref (a 2)), (2, .int (iI (N 0))), (3, .int (iI (N 4 * N 5))), (4, .int (iI bx)), (5, .int (iI 0))]) [1, 2, 3, 4, 5, 0] rfl ?_
          exact L31 _ _ _ (by omega) (by omega) (h22_2) (Nat.lt_succ_self _)
    refine z_lsub ok (lv' := [(0, .ref (b 0)), (1, .ref (a 2)), (2, .int (iI (N 0))), (3, .int (iI (N 4 * N 5))), (4, .int (iI 0))]) [1, 2, 3, 4, 0] rfl ?_
    exact L22 _ _ _ (by omega) (by omega) (opF_0) (Nat.lt_succ_self _)
  refine z_aload_n ok dX4_learn_5 rfl ?_
  refine z_iload_n ok dX4_learn_6 rfl ?_
  refine z_iconst ok dX4_learn_7 ?_
  refine z_icmp_ne (tgt := 15) ok dX4_learn_8 (by decide) (by omega) (by omega) (fun c8 => ?_) (fun c8 => ?_)
  · -- t
    refine z_iconst ok dX4_learn_15 ?_
    refine z_put (ws' := zf [rW Z b 0 op ln nm qu qd, gW Z a (N 4) (N 5) (bkL N)]) ok zc4 0 rfl 0 (by decide) qf_RX4_9 rfl rfl (znZ _ (by first | decide | exact zb_01 _ | omega)) (zfZ _ (by first | decide | exact zb_01 _ | omega)) (Nat.le_of_ble_eq_true rfl) dX4_learn_16 rfl ?_
    refine z_lsub ok (lv' := [(0, .ref (b 0)), (1, .ref (a 2)), (2, .int (iI (N 0))), (3, .int (iI (N 4 * N 5)))]) [1, 2, 3, 0] rfl ?_
    exact L19 _ (by omega)
  · -- f
    refine z_iconst ok dX4_learn_11 ?_
    refine z_goto (tgt := 16) ok dX4_learn_12 (by decide) ?_
    refine z_put (ws' := zf [rW Z b 1 op ln nm qu qd, gW Z a (N 4) (N 5) (bkL N)]) ok zc4 0 rfl 0 (by decide) qf_RX4_9 rfl rfl (znZ _ (by first | decide | exact zb_01 _ | omega)) (zfZ _ (by first | decide | exact zb_01 _ | omega)) (Nat.le_of_ble_eq_true rfl) dX4_learn_16 rfl ?_
    refine z_lsub ok (lv' := [(0, .ref (b 0)), (1, .ref (a 2)), (2, .int (iI (N 0))), (3, .int (iI (N 4 * N 5)))]) [1, 2, 3, 0] rfl ?_
    exact L19 _ (by omega)
set_option maxRecDepth 20000 in
theorem c_X4_shortestWays {l : Launch} {Z : zZ} {b : Nat → Nat} {ef : Int} {op ln nm qu : Int → Int} {qd : Int} {N : Int → Int} {x to : Int} (hw : wf N) (hto : 0 ≤ to ∧ to < N 4 * N 5) (hx : 0 ≤ x ∧ x < N 4 * N 5) (hok : rOK N ef op ln) (hfar : ln (to * 50 + x) ≠ 1000) : zI (T := (Int → Int) × (Int → Int) × (Int → Int) × Int) l yX4_shortestWays (Cond.code yX4_shortestWays cX4_shortestWays 3 (some .int) :: wsL_law) ({ frames := 3, cells := 0, slots := 0, locals := 75 } : Room) Z [.ref (b 0), .int (iI x), .int (iI to)] (zf [rW Z b ef op ln nm qu qd]) (fun u => zf [rW Z b ef op u.1 u.2.1 u.2.2.1 u.2.2.2]) (fun ρ u => ρ = wq N to (ln (to * 50 + x)).toNat x ∧ rOK N ef op u.1) := by
  refine zI_of (C := RX4) (by decide +kernel) rfl (Nat.le_of_ble_eq_true rfl) (fun _ => True) znI (fun X ok fin => ?_)
  have hcr := wf_cr hw
  have hop := hok.1
  refine z_lsub ok (lv' := [(0, .ref (b 0)), (1, .int (iI x)), (2, .int (iI to))]) [0, 1, 2] rfl ?_
  refine z_aload_n ok dX4_shortestWays_0 rfl ?_
  refine z_iload_n ok dX4_shortestWays_1 rfl ?_
  refine z_callVv0 ok (fun l => c_X4_search  (hw) (hto) (hop)) zm_X4_search zv_X4_search qm_RX4_49 dX4_shortestWays_2 (by decide) (by decide) rfl rfl (Nat.le_of_ble_eq_true rfl) (q0 := 0) rfl rfl rfl (fun u2 hp2 => ?_)
  obtain ⟨ln_2, nm_2, qu_2, qd_2⟩ := u2
  try dsimp only at hp2
  refine z_eq (ws' := zf [rW Z b ef op ln_2 nm_2 qu_2 qd_2]) rfl ?_
  have hvx : vsp N x := ⟨by omega, by omega, by omega⟩
  have hn := hp2.1 x hvx
  have hs := lqo_u hn.1 (hok.2 to x hto.1 hto.2 hvx)
  refine z_aload_n ok dX4_shortestWays_5 rfl ?_
  refine z_get (v := .ref (b 3)) ok zc4 0 rfl 3 (by decide) qf_RX4_22 rfl rfl dX4_shortestWays_6 ?_
  refine z_iload_n ok dX4_shortestWays_9 rfl ?_
  refine z_iconst ok dX4_shortestWays_10 ?_
  refine z_callSie ok (fun l => c_X4_spot  ) zm_X4_spot qt_X4_spot qm_RX4_53 dX4_shortestWays_11 (by decide) (by decide) rfl rfl (Nat.le_of_ble_eq_true rfl) (fun ρ _ hρ => ?_)
  subst hρ
  refine z_iald (f := nm_2) ok 3 rfl dX4_shortestWays_14 (by omega) (by decide) ?_
  have e0 : 0 * 25 + x = x := by omega
  have hl2 : lof ln_2 to x = ln (to * 50 + x) := hs
  exact fin (nm_2 (0 * 25 + x)) (ln_2, nm_2, qu_2, qd_2) 15 _ _ _ dX4_shortestWays_15 (trivial) (⟨by rw [e0, hn.2 (by rw [hl2]; exact hfar), hl2], hop, fun t z h0 h1 hz => by
      by_cases e : t = to
      · subst e; exact (hp2.1 z hz).1
      · show lqo N t z (ln_2 (t * 50 + z)); rw [hp2.2 _ (by have := hz.1; have := hz.2.1; omega)]; exact hok.2 t z h0 h1 hz⟩) (by decide) (by decide)
