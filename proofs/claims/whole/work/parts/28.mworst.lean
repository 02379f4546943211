set_option maxHeartbeats 4000000 in
set_option maxRecDepth 20000 in
theorem c_X7_worstLink {l : Launch} {Z : zZ} {q : Nat → Nat} {now kept hist : Int → Int} {und : Int} {sav isv pad : Int → Int} {sg it : Int} {far many laid sides stuck ord : Int → Int} {rd pl wr : Int} {x : Int} (hw : wf now) (hx : -2147483648 ≤ x ∧ x < 2147483648) (hca : cacheOK now laid far many) : zI (T := (Int → Int) × (Int → Int) × (Int → Int)) l yX7_worstLink (Cond.code yX7_worstLink cX7_worstLink 7 (some .int) :: wsL_law) ({ frames := 8, cells := 0, slots := 0, locals := 194 } : Room) Z [.ref (q 0), .int (iI x)] (mW Z q now kept hist und sav isv pad sg it far many laid sides stuck ord rd pl wr) (fun u => mW Z q now kept hist und sav isv pad sg it u.1 u.2.1 u.2.2 sides stuck ord rd pl wr) (fun ρ u => ρ = wlR now x ∧ cacheOK now u.2.2 u.1 u.2.1) := by
  refine zI_of (C := RX7) (by decide +kernel) rfl (Nat.le_of_ble_eq_true rfl) (fun _ => True) znI (fun X ok fin => ?_)
  obtain ⟨w0, w1, w2, hc, hr, w6, wl, wp⟩ := id hw
  have hcr := cr_rng hc hr
  refine z_lsub ok (lv' := [(0, .ref (q 0)), (1, .int (iI x))]) [0, 1] rfl ?_
  refine z_iload_n ok dX7_worstLink_0 rfl ?_
  refine z_iconst ok dX7_worstLink_1 ?_
  refine z_iconst ok dX7_worstLink_2 ?_
  refine z_callSie ok (fun l => c_X7_in  (by omega) (by omega) (by omega)) zm_X7_in qt_X7_in qm_RX7_59 dX7_worstLink_3 (by decide) (by decide) rfl rfl (Nat.le_of_ble_eq_true rfl) (fun ρ _ hρ => ?_)
  subst hρ
  refine z_ifb_ne (tgt := 12) ok dX7_worstLink_6 (by decide) (fun c6 => ?_) (fun c6 => ?_)
  · -- t
    refine z_bipush ok dX7_worstLink_12 (by decide) ?_
    refine z_istore_n (lv' := [(2, .int (iI (-6))), (0, .ref (q 0)), (1, .int (iI x))]) ok dX7_worstLink_14 (by decide) rfl ?_
    refine z_iconst ok dX7_worstLink_15 ?_
    refine z_istore_n (lv' := [(3, .int (iI 0)), (2, .int (iI (-6))), (0, .ref (q 0)), (1, .int (iI x))]) ok dX7_worstLink_16 (by decide) rfl ?_
    refine z_iconst ok dX7_worstLink_17 ?_
    refine z_istore (lv' := [(4, .int (iI 0)), (3, .int (iI 0)), (2, .int (iI (-6))), (0, .ref (q 0)), (1, .int (iI x))]) ok dX7_worstLink_18 (by decide) rfl ?_
    have L20 : ∀ (fuel : Nat) (b : Int) (wv : Int × Int) (f m ld : Int → Int), (0 ≤ b) → (b ≤ now 4 * now 5) → (wv = wlF now (2 * b).toNat) → (cacheOK now ld f m) → (now 4 * now 5 - b).toNat < fuel → zV X 0 0 (mW Z q now kept hist und sav isv pad sg it f m ld sides stuck ord rd pl wr) 20 [(0, .ref (q 0)), (1, .int (iI x)), (2, .int (iI (fwm wv.1))), (3, .int (iI wv.2)), (4, .int (iI b))] [] := by
      intro fuel
      induction fuel with
      | zero => intro b wv f m ld h20_0 h20_1 h20_2 h20_3 hf; exact absurd hf (Nat.not_lt_zero _)
      | succ fuel ih20 =>
        intro b wv f m ld h20_0 h20_1 h20_2 h20_3 hf
        have hwr := wlF_rng hw (2 * b).toNat (by omega)
        rw [← h20_2] at hwr
        refine z_iload ok dX7_worstLink_20 rfl ?_
        refine z_aload_n ok dX7_worstLink_22 rfl ?_
        refine z_callVi0 ok (fun l => c_X7_boxes  ) zm_X7_boxes zv_X7_boxes qm_RX7_55 dX7_worstLink_23 (by decide) (by decide) rfl rfl (Nat.le_of_ble_eq_true rfl) (q0 := 0) rfl rfl rfl (fun ρ _ hρ => ?_)
        subst hρ
        refine z_eq (ws' := mW Z q now kept hist und sav isv pad sg it f m ld sides stuck ord rd pl wr) rfl ?_
        refine z_icmp_ge (tgt := 124) ok dX7_worstLink_26 (by decide) (by omega) (by omega) (fun c26 => ?_) (fun c26 => ?_)
        · -- t
          have hb : b = now 4 * now 5 := by omega
          rw [hb] at h20_2
          have hfr := fwm_rng (w := wv.1) (by omega)
          refine z_iload_n ok dX7_worstLink_124 rfl ?_
          refine z_if_ge (tgt := 133) ok dX7_worstLink_125 (by decide) (by omega) (fun c125 => ?_) (fun c125 => ?_)
          · -- t
            refine z_iload_n ok dX7_worstLink_133 rfl ?_
            refine z_if_ne (tgt := 143) ok dX7_worstLink_134 (by decide) (by omega) (fun c134 => ?_) (fun c134 => ?_)
            · -- t
              refine z_iload_n ok dX7_worstLink_143 rfl ?_
              refine z_iconst ok dX7_worstLink_144 ?_
              refine z_icmp_ne (tgt := 154) ok dX7_worstLink_145 (by decide) (by omega) (by omega) (fun c145 => ?_) (fun c145 => ?_)
              · -- t
                refine z_iload_n ok dX7_worstLink_154 rfl ?_
                exact fin wv.2 (f, m, ld) 155 _ _ _ dX7_worstLink_155 (trivial) (⟨by unfold wlR; rw [if_neg (by omega), ← h20_2]; first | (rw [if_pos (by omega)]; done) | (rw [if_neg (by omega), if_pos (by omega)]; exact (hfr.2.2.2 (by omega)).1) | (rw [if_neg (by omega), if_neg (by omega), if_pos (by omega)]; exact (hfr.2.2.2 (by omega)).2) | (rw [if_neg (by omega), if_neg (by omega), if_neg (by omega)]), h20_3⟩) (by decide) (by decide)
              · -- f
                refine z_iload_n ok dX7_worstLink_148 rfl ?_
                refine z_iconst ok dX7_worstLink_149 ?_
                refine z_irem ok dX7_worstLink_150 (by omega) (by omega) ?_
                refine z_goto (tgt := 155) ok dX7_worstLink_151 (by decide) ?_
                exact fin ((fwm wv.1) % 4) (f, m, ld) 155 _ _ _ dX7_worstLink_155 (trivial) (⟨by unfold wlR; rw [if_neg (by omega), ← h20_2]; first | (rw [if_pos (by omega)]; done) | (rw [if_neg (by omega), if_pos (by omega)]; exact (hfr.2.2.2 (by omega)).1) | (rw [if_neg (by omega), if_neg (by omega), if_pos (by omega)]; exact (hfr.2.2.2 (by omega)).2) | (rw [if_neg (by omega), if_neg (by omega), if_neg (by omega)]), h20_3⟩) (by decide) (by decide)
            · -- f
              refine z_iload_n ok dX7_worstLink_137 rfl ?_
              refine z_iconst ok dX7_worstLink_138 ?_
              refine z_idiv ok dX7_worstLink_139 (by omega) (by omega) ?_
              refine z_goto (tgt := 155) ok dX7_worstLink_140 (by decide) ?_
              exact fin ((fwm wv.1) / 4) (f, m, ld) 155 _ _ _ dX7_worstLink_155 (trivial) (⟨by unfold wlR; rw [if_neg (by omega), ← h20_2]; first | (rw [if_pos (by omega)]; done) | (rw [if_neg (by omega), if_pos (by omega)]; exact (hfr.2.2.2 (by omega)).1) | (rw [if_neg (by omega), if_neg (by omega), if_pos (by omega)]; exact (hfr.2.2.2 (by omega)).2) | (rw [if_neg (by omega), if_neg (by omega), if_neg (by omega)]), h20_3⟩) (by decide) (by decide)
          · -- f
            refine z_bipush ok dX7_worstLink_128 (by decide) ?_
            refine z_goto (tgt := 155) ok dX7_worstLink_130 (by decide) ?_
            exact fin (-6) (f, m, ld) 155 _ _ _ dX7_worstLink_155 (trivial) (⟨by unfold wlR; rw [if_neg (by omega), ← h20_2]; first | (rw [if_pos (by omega)]; done) | (rw [if_neg (by omega), if_pos (by omega)]; exact (hfr.2.2.2 (by omega)).1) | (rw [if_neg (by omega), if_neg (by omega), if_pos (by omega)]; exact (hfr.2.2.2 (by omega)).2) | (rw [if_neg (by omega), if_neg (by omega), if_neg (by omega)]), h20_3⟩) (by decide) (by decide)
        · -- f
          refine z_iconst ok dX7_worstLink_29 ?_
          refine z_istore (lv' := [(5, .int (iI 0)), (0, .ref (q 0)), (1, .int (iI x)), (2, .int (iI (fwm wv.1))), (3, .int (iI wv.2)), (4, .int (iI b))]) ok dX7_worstLink_30 (by decide) rfl ?_
          have L32 : ∀ (fuel : Nat) (sd : Int) (w2 : Int × Int) (f2 m2 ld2 : Int → Int), (0 ≤ sd) → (sd ≤ 4) → (sd % 2 = 0) → (w2 = wlF now (2 * b + sd / 2).toNat) → (cacheOK now ld2 f2 m2) → (4 - sd).toNat < fuel → zV X 0 0 (mW Z q now kept hist und sav isv pad sg it f2 m2 ld2 sides stuck ord rd pl wr) 32 [(0, .ref (q 0)), (1, .int (iI x)), (2, .int (iI (fwm w2.1))), (3, .int (iI w2.2)), (4, .int (iI b)), (5, .int (iI sd))] [] := by
            intro fuel
            induction fuel with
            | zero => intro sd w2 f2 m2 ld2 h32_0 h32_1 h32_2 h32_3 h32_4 hf; exact absurd hf (Nat.not_lt_zero _)
            | succ fuel ih32 =>
              intro sd w2 f2 m2 ld2 h32_0 h32_1 h32_2 h32_3 h32_4 hf
              have hwr2 := wlF_rng hw (2 * b + sd / 2).toNat (by omega)
              rw [← h32_3] at hwr2
              refine z_iload ok dX7_worstLink_32 rfl ?_
              refine z_iconst ok dX7_worstLink_34 ?_
              refine z_icmp_gt (tgt := 118) ok dX7_worstLink_35 (by decide) (by omega) (by omega) (fun c35 => ?_) (fun c35 => ?_)
              · -- t
                refine z_iinc (lv' := [(4, .int (iI (b + 1))), (0, .ref (q 0)), (1, .int (iI x)), (2, .int (iI (fwm w2.1))), (3, .int (iI w2.2)), (5, .int (iI sd))]) ok dX7_worstLink_118 4 rfl (by decide) rfl ?_
                refine z_goto (tgt := 20) ok dX7_worstLink_121 (by decide) ?_
                refine z_lsub ok (lv' := [(0, .ref (q 0)), (1, .int (iI x)), (2, .int (iI (fwm w2.1))), (3, .int (iI w2.2)), (4, .int (iI (b + 1)))]) [1, 2, 3, 4, 0] rfl ?_
                have hsd : sd = 4 := by omega
                exact ih20 _ _ _ _ _ (by omega) (by omega) (by rw [h32_3, hsd]; congr 1; omega) (h32_4) (by omega)
              · -- f
                have hbb : 0 ≤ b ∧ b < now 4 * now 5 := ⟨by omega, by omega⟩
                have hstep : wlF now (2 * b + (sd + 2) / 2).toNat = wlS now (2 * b + sd / 2) w2 := by rw [show 2 * b + (sd + 2) / 2 = (2 * b + sd / 2) + 1 by omega, wlF_s (by omega), ← h32_3]
                have hj : opn now ((2 * b + sd / 2) / 2) (2 * ((2 * b + sd / 2) % 2)) = opn now b sd := by rw [show (2 * b + sd / 2) / 2 = b by omega, show 2 * ((2 * b + sd / 2) % 2) = sd by omega]
                have hfr2 := fwm_rng (w := w2.1) (by omega)
                refine z_aload_n ok dX7_worstLink_38 rfl ?_
                refine z_iload ok dX7_worstLink_39 rfl ?_
                refine z_iload ok dX7_worstLink_41 rfl ?_
                refine z_callVi0 ok (fun l => c_X7_isWhole  (hw) (hbb) (by omega)) zm_X7_isWhole zv_X7_isWhole qm_RX7_83 dX7_worstLink_43 (by decide) (by decide) rfl rfl (Nat.le_of_ble_eq_true rfl) (q0 := 0) rfl rfl rfl (fun ρ _ hρ => ?_)
                subst hρ
                refine z_eq (ws' := mW Z q now kept hist und sav isv pad sg it f2 m2 ld2 sides stuck ord rd pl wr) rfl ?_
                refine z_ifb_eq (tgt := 112) ok dX7_worstLink_46 (by decide) (fun c46 => ?_) (fun c46 => ?_)
                · -- t
                  refine z_iinc (lv' := [(5, .int (iI (sd + 2))), (0, .ref (q 0)), (1, .int (iI x)), (2, .int (iI (fwm w2.1))), (3, .int (iI w2.2)), (4, .int (iI b))]) ok dX7_worstLink_112 5 rfl (by decide) rfl ?_
                  refine z_goto (tgt := 32) ok dX7_worstLink_115 (by decide) ?_
                  refine z_lsub ok (lv' := [(0, .ref (q 0)), (1, .int (iI x)), (2, .int (iI (fwm w2.1))), (3, .int (iI w2.2)), (4, .int (iI b)), (5, .int (iI (sd + 2)))]) [1, 2, 3, 4, 5, 0] rfl ?_
                  first | rw [hfn, hfl] | skip
                  exact ih32 _ w2 _ _ _ (by omega) (by omega) (by omega) (by rw [hstep]; first | rw [wlS_no (by rw [hj]; exact c46)] | rw [wlS_yes (by rw [hj]; exact c46), if_neg (by omega)]) (h32_4) (by omega)
                · -- f
                  have hlk := lkm_rng hw hbb (by omega) c46.1
                  have hlke : lkm now b sd = 10 + (2 * b + sd / 2) := by unfold lkm; split <;> split <;> omega
                  have hwz := wf_lk hw hlk (v := 1) (by omega)
                  have hpr := prs_rng hwz
                  have hpb : prs (zu now (lkm now b sd) 1) = prB now (2 * b + sd / 2) := by unfold prB; rw [← hlke]
                  refine z_aload_n ok dX7_worstLink_49 rfl ?_
                  refine z_get (v := .ref (q 1)) ok zc7 0 rfl 0 (by decide) qf_RX7_7 rfl rfl dX7_worstLink_50 ?_
                  refine z_aload_n ok dX7_worstLink_53 rfl ?_
                  refine z_iload ok dX7_worstLink_54 rfl ?_
                  refine z_iload ok dX7_worstLink_56 rfl ?_
                  refine z_callVi0 ok (fun l => c_X7_linkOf  (by omega) (by omega) (by omega) (by omega)) zm_X7_linkOf zv_X7_linkOf qm_RX7_67 dX7_worstLink_58 (by decide) (by decide) rfl rfl (Nat.le_of_ble_eq_true rfl) (q0 := 0) rfl rfl rfl (fun ρ _ hρ => ?_)
                  subst hρ
                  refine z_eq (ws' := mW Z q now kept hist und sav isv pad sg it f2 m2 ld2 sides stuck ord rd pl wr) rfl ?_
                  refine z_iconst ok dX7_worstLink_61 ?_
                  refine z_iast (f := now) (v := 1) (ws' := mW Z q (zu now (lkm now b sd) 1) kept hist und sav isv pad sg it f2 m2 ld2 sides stuck ord rd pl wr) ok 1 rfl dX7_worstLink_62 (by omega) (by decide) rfl ?_
                  refine z_aload_n ok dX7_worstLink_63 rfl ?_
                  refine z_callVv0 ok (fun l => c_X7_forget  ) zm_X7_forget zv_X7_forget qm_RX7_73 dX7_worstLink_64 (by decide) (by decide) rfl rfl (Nat.le_of_ble_eq_true rfl) (q0 := 0) rfl rfl rfl (fun _ hp64 => ?_)
                  refine z_eq (ws' := mW Z q (zu now (lkm now b sd) 1) kept hist und sav isv pad sg it f2 m2 (zcp ld2 (fun _ => 0) 0 25) sides stuck ord rd pl wr) rfl ?_
                  refine z_aload_n ok dX7_worstLink_67 rfl ?_
                  refine z_callVi0 ok (fun l => c_X7_pairsNow  (hwz) (cache_forget)) zm_X7_pairsNow zv_X7_pairsNow qm_RX7_155 dX7_worstLink_68 (by decide) (by decide) rfl rfl (Nat.le_of_ble_eq_true rfl) (q0 := 0) rfl rfl rfl (fun r68 u68 hp68 => ?_)
                  obtain ⟨far_68, many_68, laid_68⟩ := u68
                  try dsimp only at hp68
                  obtain ⟨rfl, hc68⟩ := hp68
                  refine z_eq (ws' := mW Z q (zu now (lkm now b sd) 1) kept hist und sav isv pad sg it far_68 many_68 laid_68 sides stuck ord rd pl wr) rfl ?_
                  refine z_istore (lv' := [(6, .int (iI (prs (zu now (lkm now b sd) 1)))), (0, .ref (q 0)), (1, .int (iI x)), (2, .int (iI (fwm w2.1))), (3, .int (iI w2.2)), (4, .int (iI b)), (5, .int (iI sd))]) ok dX7_worstLink_71 (by decide) rfl ?_
                  refine z_aload_n ok dX7_worstLink_73 rfl ?_
                  refine z_get (v := .ref (q 1)) ok zc7 0 rfl 0 (by decide) qf_RX7_7 rfl rfl dX7_worstLink_74 ?_
                  refine z_aload_n ok dX7_worstLink_77 rfl ?_
                  refine z_iload ok dX7_worstLink_78 rfl ?_
                  refine z_iload ok dX7_worstLink_80 rfl ?_
                  refine z_callVi0 ok (fun l => c_X7_linkOf  (by rw [zu_n (by omega)]; exact hc) (by rw [zu_n (by omega)]; exact hr) (by rw [zu_n (by omega), zu_n (by omega)]; exact hbb) (by omega)) zm_X7_linkOf zv_X7_linkOf qm_RX7_67 dX7_worstLink_82 (by decide) (by decide) rfl rfl (Nat.le_of_ble_eq_true rfl) (q0 := 0) rfl rfl rfl (fun ρ _ hρ => ?_)
                  subst hρ
                  refine z_eq (ws' := mW Z q (zu now (lkm now b sd) 1) kept hist und sav isv pad sg it far_68 many_68 laid_68 sides stuck ord rd pl wr) rfl ?_
                  rw [lkm_zu hlk.1]
                  refine z_iconst ok dX7_worstLink_85 ?_
                  refine z_iast (f := zu now (lkm now b sd) 1) (v := 0) (ws' := mW Z q (zu (zu now (lkm now b sd) 1) (lkm now b sd) 0) kept hist und sav isv pad sg it far_68 many_68 laid_68 sides stuck ord rd pl wr) ok 1 rfl dX7_worstLink_86 (by omega) (by decide) rfl ?_
                  refine z_eq (ws' := mW Z q now kept hist und sav isv pad sg it far_68 many_68 laid_68 sides stuck ord rd pl wr) (by rw [zu_zu, zu_id c46.2]) ?_
                  refine z_aload_n ok dX7_worstLink_87 rfl ?_
                  refine z_callVv0 ok (fun l => c_X7_forget  ) zm_X7_forget zv_X7_forget qm_RX7_73 dX7_worstLink_88 (by decide) (by decide) rfl rfl (Nat.le_of_ble_eq_true rfl) (q0 := 0) rfl rfl rfl (fun _ hp88 => ?_)
                  refine z_eq (ws' := mW Z q now kept hist und sav isv pad sg it far_68 many_68 (zcp laid_68 (fun _ => 0) 0 25) sides stuck ord rd pl wr) rfl ?_
                  refine z_iload_n ok dX7_worstLink_91 rfl ?_
                  refine z_if_lt (tgt := 101) ok dX7_worstLink_92 (by decide) (by omega) (fun c92 => ?_) (fun c92 => ?_)
                  · -- t
                    have hfn : 4 * b + sd = fwm ((2 * b + sd / 2, prB now (2 * b + sd / 2)) : Int × Int).1 := by show 4 * b + sd = fwm (2 * b + sd / 2); unfold fwm; split <;> omega
                    have hfl : prs (zu now (lkm now b sd) 1) = ((2 * b + sd / 2, prB now (2 * b + sd / 2)) : Int × Int).2 := hpb
                    refine z_iconst ok dX7_worstLink_101 ?_
                    refine z_iload ok dX7_worstLink_102 rfl ?_
                    refine z_imul ok dX7_worstLink_104 ?_
                    refine z_iload ok dX7_worstLink_105 rfl ?_
                    refine z_iadd ok dX7_worstLink_107 ?_
                    refine z_istore_n (lv' := [(2, .int (iI ((4 * b) + sd))), (6, .int (iI (prs (zu now (lkm now b sd) 1)))), (0, .ref (q 0)), (1, .int (iI x)), (3, .int (iI w2.2)), (4, .int (iI b)), (5, .int (iI sd))]) ok dX7_worstLink_108 (by decide) rfl ?_
                    refine z_iload ok dX7_worstLink_109 rfl ?_
                    refine z_istore_n (lv' := [(3, .int (iI (prs (zu now (lkm now b sd) 1)))), (2, .int (iI ((4 * b) + sd))), (6, .int (iI (prs (zu now (lkm now b sd) 1)))), (0, .ref (q 0)), (1, .int (iI x)), (4, .int (iI b)), (5, .int (iI sd))]) ok dX7_worstLink_111 (by decide) rfl ?_
                    refine z_iinc (lv' := [(5, .int (iI (sd + 2))), (3, .int (iI (prs (zu now (lkm now b sd) 1)))), (2, .int (iI ((4 * b) + sd))), (6, .int (iI (prs (zu now (lkm now b sd) 1)))), (0, .ref (q 0)), (1, .int (iI x)), (4, .int (iI b))]) ok dX7_worstLink_112 6 rfl (by decide) rfl ?_
                    refine z_goto (tgt := 32) ok dX7_worstLink_115 (by decide) ?_
                    refine z_lsub ok (lv' := [(0, .ref (q 0)), (1, .int (iI x)), (2, .int (iI ((4 * b) + sd))), (3, .int (iI (prs (zu now (lkm now b sd) 1)))), (4, .int (iI b)), (5, .int (iI (sd + 2)))]) [4, 5, 2, 1, 6, 0] rfl ?_
                    first | rw [hfn, hfl] | skip
                    exact ih32 _ (2 * b + sd / 2, prB now (2 * b + sd / 2)) _ _ _ (by omega) (by omega) (by omega) (by rw [hstep, wlS_yes (by rw [hj]; exact c46), if_pos (by omega)]) (cache_forget) (by omega)
                  · -- f
                    refine z_iload ok dX7_worstLink_95 rfl ?_
                    refine z_iload_n ok dX7_worstLink_97 rfl ?_
                    refine z_icmp_ge (tgt := 112) ok dX7_worstLink_98 (by decide) (by omega) (by omega) (fun c98 => ?_) (fun c98 => ?_)
                    · -- t
                      refine z_iinc (lv' := [(5, .int (iI (sd + 2))), (6, .int (iI (prs (zu now (lkm now b sd) 1)))), (0, .ref (q 0)), (1, .int (iI x)), (2, .int (iI (fwm w2.1))), (3, .int (iI w2.2)), (4, .int (iI b))]) ok dX7_worstLink_112 6 rfl (by decide) rfl ?_
                      refine z_goto (tgt := 32) ok dX7_worstLink_115 (by decide) ?_
                      refine z_lsub ok (lv' := [(0, .ref (q 0)), (1, .int (iI x)), (2, .int (iI (fwm w2.1))), (3, .int (iI w2.2)), (4, .int (iI b)), (5, .int (iI (sd + 2)))]) [2, 3, 4, 5, 6, 0] rfl ?_
                      first | rw [hfn, hfl] | skip
                      exact ih32 _ w2 _ _ _ (by omega) (by omega) (by omega) (by rw [hstep]; first | rw [wlS_no (by rw [hj]; exact c46)] | rw [wlS_yes (by rw [hj]; exact c46), if_neg (by omega)]) (cache_forget) (by omega)
                    · -- f
                      have hfn : 4 * b + sd = fwm ((2 * b + sd / 2, prB now (2 * b + sd / 2)) : Int × Int).1 := by show 4 * b + sd = fwm (2 * b + sd / 2); unfold fwm; split <;> omega
                      have hfl : prs (zu now (lkm now b sd) 1) = ((2 * b + sd / 2, prB now (2 * b + sd / 2)) : Int × Int).2 := hpb
                      refine z_iconst ok dX7_worstLink_101 ?_
                      refine z_iload ok dX7_worstLink_102 rfl ?_
                      refine z_imul ok dX7_worstLink_104 ?_
                      refine z_iload ok dX7_worstLink_105 rfl ?_
                      refine z_iadd ok dX7_worstLink_107 ?_
                      refine z_istore_n (lv' := [(2, .int (iI ((4 * b) + sd))), (6, .int (iI (prs (zu now (lkm now b sd) 1)))), (0, .ref (q 0)), (1, .int (iI x)), (3, .int (iI w2.2)), (4, .int (iI b)), (5, .int (iI sd))]) ok dX7_worstLink_108 (by decide) rfl ?_
                      refine z_iload ok dX7_worstLink_109 rfl ?_
                      refine z_istore_n (lv' := [(3, .int (iI (prs (zu now (lkm now b sd) 1)))), (2, .int (iI ((4 * b) + sd))), (6, .int (iI (prs (zu now (lkm now b sd) 1)))), (0, .ref (q 0)), (1, .int (iI x)), (4, .int (iI b)), (5, .int (iI sd))]) ok dX7_worstLink_111 (by decide) rfl ?_
                      refine z_iinc (lv' := [(5, .int (iI (sd + 2))), (3, .int (iI (prs (zu now (lkm now b sd) 1)))), (2, .int (iI ((4 * b) + sd))), (6, .int (iI (prs (zu now (lkm now b sd) 1)))), (0, .ref (q 0)), (1, .int (iI x)), (4, .int (iI b))]) ok dX7_worstLink_112 6 rfl (by decide) rfl ?_
                      refine z_goto (tgt := 32) ok dX7_worstLink_115 (by decide) ?_
                      refine z_lsub ok (lv' := [(0, .ref (q 0)), (1, .int (iI x)), (2, .int (iI ((4 * b) + sd))), (3, .int (iI (prs (zu now (lkm now b sd) 1)))), (4, .int (iI b)), (5, .int (iI (sd + 2)))]) [4, 5, 2, 1, 6, 0] rfl ?_
                      first | rw [hfn, hfl] | skip
                      exact ih32 _ (2 * b + sd / 2, prB now (2 * b + sd / 2)) _ _ _ (by omega) (by omega) (by omega) (by rw [hstep, wlS_yes (by rw [hj]; exact c46), if_pos (by omega)]) (cache_forget) (by omega)
          refine z_lsub ok (lv' := [(0, .ref (q 0)), (1, .int (iI x)), (2, .int (iI (fwm wv.1))), (3, .int (iI wv.2)), (4, .int (iI b)), (5, .int (iI 0))]) [1, 2, 3, 4, 5, 0] rfl ?_
          exact L32 _ _ _ _ _ _ (by omega) (by omega) (by omega) (by rw [h20_2]; congr 1; omega) (h20_3) (Nat.lt_succ_self _)
    refine z_lsub ok (lv' := [(0, .ref (q 0)), (1, .int (iI x)), (2, .int (iI (-6))), (3, .int (iI 0)), (4, .int (iI 0))]) [3, 4, 2, 1, 0] rfl ?_
    rw [show (-6 : Int) = fwm ((-1 : Int), (0 : Int)).1 from rfl, show iI (0 : Int) = iI ((-1 : Int), (0 : Int)).2 from rfl]
    exact L20 _ 0 ((-1 : Int), (0 : Int)) _ _ _ (by omega) (by omega) (rfl) (hca) (Nat.lt_succ_self _)
  · -- f
    refine z_bipush ok dX7_worstLink_9 (by decide) ?_
    exact fin (-2) (far, many, laid) 11 _ _ _ dX7_worstLink_11 (trivial) (⟨by unfold wlR; rw [if_pos (by omega)], hca⟩) (by decide) (by decide)
