set_option maxHeartbeats 4000000 in
set_option maxRecDepth 20000 in
theorem c_X7_layStuck {l : Launch} {Z : zZ} {q : Nat → Nat} {now kept hist : Int → Int} {und : Int} {sav isv pad : Int → Int} {sg it : Int} {far many laid sides stuck ord : Int → Int} {rd pl wr : Int} (hw : wf now) (hca : cacheOK now laid far many) : zI (T := (Int → Int) × (Int → Int) × (Int → Int) × (Int → Int) × (Int → Int)) l yX7_layStuck (Cond.code yX7_layStuck cX7_layStuck 4 (some .int) :: wsL_law) ({ frames := 9, cells := 0, slots := 0, locals := 224 } : Room) Z [.ref (q 0)] (mW Z q now kept hist und sav isv pad sg it far many laid sides stuck ord rd pl wr) (fun u => mW Z q now kept hist und sav isv pad sg it u.2.2.1 u.2.2.2.1 u.2.2.2.2 u.2.1 u.1 ord rd pl wr) (fun ρ u => ρ = stkC now ∧ (∀ x : Int, 0 ≤ x → x < now 6 → u.1 x = zb (stk now x)) ∧ cacheOK now u.2.2.2.2 u.2.2.1 u.2.2.2.1) := by
  refine zI_of (C := RX7) (by decide +kernel) rfl (Nat.le_of_ble_eq_true rfl) (fun _ => True) znI (fun X ok fin => ?_)
  obtain ⟨w0, w1, w2, hc, hr, w6, wl, wp⟩ := id hw
  have hcr := cr_rng hc hr
  refine z_lsub ok (lv' := [(0, .ref (q 0))]) [0] rfl ?_
  refine z_iconst ok dX7_layStuck_0 ?_
  refine z_istore_n (lv' := [(1, .int (iI 0)), (0, .ref (q 0))]) ok dX7_layStuck_1 (by decide) rfl ?_
  have L2 : ∀ (fuel : Nat) (i : Int) (sk : Int → Int), (0 ≤ i) → (i ≤ 40) → (∀ j : Int, 0 ≤ j → j < i → sk j = zb (j < now 6 ∧ pk now j 2 = 1)) → (40 - i).toNat < fuel → zV X 0 0 (mW Z q now kept hist und sav isv pad sg it far many laid sides sk ord rd pl wr) 2 [(0, .ref (q 0)), (1, .int (iI i))] [] := by
    intro fuel
    induction fuel with
    | zero => intro i sk h2_0 h2_1 h2_2 hf; exact absurd hf (Nat.not_lt_zero _)
    | succ fuel ih2 =>
      intro i sk h2_0 h2_1 h2_2 hf
      refine z_iload_n ok dX7_layStuck_2 rfl ?_
      refine z_bipush ok dX7_layStuck_3 (by decide) ?_
      refine z_icmp_ge (tgt := 46) ok dX7_layStuck_5 (by decide) (by omega) (by omega) (fun c5 => ?_) (fun c5 => ?_)
      · -- t
        refine z_iconst ok dX7_layStuck_46 ?_
        refine z_istore_n (lv' := [(1, .int (iI 1)), (0, .ref (q 0))]) ok dX7_layStuck_47 (by decide) rfl ?_
        have L48 : ∀ (fuel : Nat) (mo : Int) (sk sd f m ld : Int → Int), (mo = 0 ∨ mo = 1) → (∀ x : Int, 0 ≤ x → x < 40 → sk x = 0 ∨ sk x = 1) → (∀ x : Int, 0 ≤ x → x < now 6 → sk x = 1 → pk now x 2 = 1) → (∀ x : Int, stk now x → sk x = 1) → (mo = 0 → closed now (stS now sk)) → (cacheOK now ld f m) → (2 * zS sk (now 6).toNat + mo).toNat < fuel → zV X 0 0 (mW Z q now kept hist und sav isv pad sg it f m ld sd sk ord rd pl wr) 48 [(0, .ref (q 0)), (1, .int (iI mo))] [] := by
          intro fuel
          induction fuel with
          | zero => intro mo sk sd f m ld h48_0 h48_1 h48_2 h48_3 h48_4 h48_5 hf; exact absurd hf (Nat.not_lt_zero _)
          | succ fuel ih48 =>
            intro mo sk sd f m ld h48_0 h48_1 h48_2 h48_3 h48_4 h48_5 hf
            refine z_iload_n ok dX7_layStuck_48 rfl ?_
            refine z_if_eq (tgt := 102) ok dX7_layStuck_49 (by decide) (by omega) (fun c49 => ?_) (fun c49 => ?_)
            · -- t
              have hcl := h48_4 c49
              have hst2 : ∀ x : Int, 0 ≤ x → x < now 6 → sk x = zb (stk now x) := fun x h0 h1 => (h48_1 x h0 (by omega)).elim (fun z => by rw [z]; exact (zb_f (fun y => by have := h48_3 x y; omega)).symm) (fun z => by rw [z]; exact (zb_t ⟨_, hcl, ⟨h0, h1, z⟩⟩).symm)
              refine z_iconst ok dX7_layStuck_102 ?_
              refine z_istore_n (lv' := [(2, .int (iI 0)), (0, .ref (q 0)), (1, .int (iI mo))]) ok dX7_layStuck_103 (by decide) rfl ?_
              refine z_iconst ok dX7_layStuck_104 ?_
              refine z_istore_n (lv' := [(3, .int (iI 0)), (2, .int (iI 0)), (0, .ref (q 0)), (1, .int (iI mo))]) ok dX7_layStuck_105 (by decide) rfl ?_
              have L106 : ∀ (fuel : Nat) (i n : Int), (0 ≤ i) → (i ≤ now 6) → (n = zS (fun x => zb (stk now x)) i.toNat) → (now 6 - i).toNat < fuel → zV X 0 0 (mW Z q now kept hist und sav isv pad sg it f m ld sd sk ord rd pl wr) 106 [(0, .ref (q 0)), (1, .int (iI mo)), (2, .int (iI n)), (3, .int (iI i))] [] := by
                intro fuel
                induction fuel with
                | zero => intro i n h106_0 h106_1 h106_2 hf; exact absurd hf (Nat.not_lt_zero _)
                | succ fuel ih106 =>
                  intro i n h106_0 h106_1 h106_2 hf
                  refine z_iload_n ok dX7_layStuck_106 rfl ?_
                  refine z_aload_n ok dX7_layStuck_107 rfl ?_
                  refine z_get (v := .ref (q 1)) ok zc7 0 rfl 0 (by decide) qf_RX7_7 rfl rfl dX7_layStuck_108 ?_
                  refine z_bipush ok dX7_layStuck_111 (by decide) ?_
                  refine z_iald (f := now) ok 1 rfl dX7_layStuck_113 (by omega) (by decide) ?_
                  refine z_icmp_ge (tgt := 140) ok dX7_layStuck_114 (by decide) (by omega) (by omega) (fun c114 => ?_) (fun c114 => ?_)
                  · -- t
                    refine z_iload_n ok dX7_layStuck_140 rfl ?_
                    exact fin n (sk, sd, f, m, ld) 141 _ _ _ dX7_layStuck_141 (trivial) (⟨by rw [h106_2, show i = now 6 by omega]; rfl, hst2, h48_5⟩) (by decide) (by decide)
                  · -- f
                    have h1i := h48_1 i (by omega) (by omega)
                    refine z_iload_n ok dX7_layStuck_117 rfl ?_
                    refine z_aload_n ok dX7_layStuck_118 rfl ?_
                    refine z_get (v := .ref (q 11)) ok zc7 0 rfl 13 (by decide) qf_RX7_41 rfl rfl dX7_layStuck_119 ?_
                    refine z_iload_n ok dX7_layStuck_122 rfl ?_
                    refine z_zald (f := sk) ok 11 rfl dX7_layStuck_123 (by omega) (by decide) ?_
                    refine z_if_eq (tgt := 131) ok dX7_layStuck_124 (by decide) (by omega) (fun c124 => ?_) (fun c124 => ?_)
                    · -- t
                      refine z_iconst ok dX7_layStuck_131 ?_
                      refine z_iadd ok dX7_layStuck_132 ?_
                      refine z_istore_n (lv' := [(2, .int (iI (n + 0))), (0, .ref (q 0)), (1, .int (iI mo)), (3, .int (iI i))]) ok dX7_layStuck_133 (by decide) rfl ?_
                      refine z_iinc (lv' := [(3, .int (iI (i + 1))), (2, .int (iI (n + 0))), (0, .ref (q 0)), (1, .int (iI mo))]) ok dX7_layStuck_134 3 rfl (by decide) rfl ?_
                      refine z_goto (tgt := 106) ok dX7_layStuck_137 (by decide) ?_
                      refine z_lsub ok (lv' := [(0, .ref (q 0)), (1, .int (iI mo)), (2, .int (iI (n + 0))), (3, .int (iI (i + 1)))]) [2, 3, 1, 0] rfl ?_
                      exact ih106 _ _ (by omega) (by omega) (by rw [zS_s (by omega), h106_2, ← hst2 i (by omega) (by omega)]; omega) (by omega)
                    · -- f
                      refine z_iconst ok dX7_layStuck_127 ?_
                      refine z_goto (tgt := 132) ok dX7_layStuck_128 (by decide) ?_
                      refine z_iadd ok dX7_layStuck_132 ?_
                      refine z_istore_n (lv' := [(2, .int (iI (n + 1))), (0, .ref (q 0)), (1, .int (iI mo)), (3, .int (iI i))]) ok dX7_layStuck_133 (by decide) rfl ?_
                      refine z_iinc (lv' := [(3, .int (iI (i + 1))), (2, .int (iI (n + 1))), (0, .ref (q 0)), (1, .int (iI mo))]) ok dX7_layStuck_134 3 rfl (by decide) rfl ?_
                      refine z_goto (tgt := 106) ok dX7_layStuck_137 (by decide) ?_
                      refine z_lsub ok (lv' := [(0, .ref (q 0)), (1, .int (iI mo)), (2, .int (iI (n + 1))), (3, .int (iI (i + 1)))]) [2, 3, 1, 0] rfl ?_
                      exact ih106 _ _ (by omega) (by omega) (by rw [zS_s (by omega), h106_2, ← hst2 i (by omega) (by omega)]; omega) (by omega)
              refine z_lsub ok (lv' := [(0, .ref (q 0)), (1, .int (iI mo)), (2, .int (iI 0)), (3, .int (iI 0))]) [2, 3, 1, 0] rfl ?_
              exact L106 _ _ _ (by omega) (by omega) (rfl) (Nat.lt_succ_self _)
            · -- f
              have hq3 := zS_nn (f := sk) (n := (now 6).toNat) (fun x h0 h1 => by have := h48_1 x h0 (by omega); omega)
              refine z_iconst ok dX7_layStuck_52 ?_
              refine z_istore_n (lv' := [(1, .int (iI 0)), (0, .ref (q 0))]) ok dX7_layStuck_53 (by decide) rfl ?_
              refine z_iconst ok dX7_layStuck_54 ?_
              refine z_istore_n (lv' := [(2, .int (iI 0)), (1, .int (iI 0)), (0, .ref (q 0))]) ok dX7_layStuck_55 (by decide) rfl ?_
              have L56 : ∀ (fuel : Nat) (i mo2 : Int) (sk2 sd2 f2 m2 ld2 : Int → Int), (0 ≤ i) → (i ≤ now 6) → (mo2 = 0 ∨ mo2 = 1) → (∀ x : Int, 0 ≤ x → x < 40 → sk2 x = 0 ∨ sk2 x = 1) → (∀ x : Int, 0 ≤ x → x < now 6 → sk2 x = 1 → pk now x 2 = 1) → (∀ x : Int, stk now x → sk2 x = 1) → (mo2 = 0 → sk2 = sk ∧ ∀ x : Int, 0 ≤ x → x < i → sk x = 1 → ¬ free now (stS now sk) x) → (mo2 = 1 → zS sk2 (now 6).toNat + 1 ≤ zS sk (now 6).toNat) → (cacheOK now ld2 f2 m2) → (now 6 - i).toNat < fuel → zV X 0 0 (mW Z q now kept hist und sav isv pad sg it f2 m2 ld2 sd2 sk2 ord rd pl wr) 56 [(0, .ref (q 0)), (1, .int (iI mo2)), (2, .int (iI i))] [] := by
                intro fuel
                induction fuel with
                | zero => intro i mo2 sk2 sd2 f2 m2 ld2 h56_0 h56_1 h56_2 h56_3 h56_4 h56_5 h56_6 h56_7 h56_8 hf; exact absurd hf (Nat.not_lt_zero _)
                | succ fuel ih56 =>
                  intro i mo2 sk2 sd2 f2 m2 ld2 h56_0 h56_1 h56_2 h56_3 h56_4 h56_5 h56_6 h56_7 h56_8 hf
                  refine z_iload_n ok dX7_layStuck_56 rfl ?_
                  refine z_aload_n ok dX7_layStuck_57 rfl ?_
                  refine z_get (v := .ref (q 1)) ok zc7 0 rfl 0 (by decide) qf_RX7_7 rfl rfl dX7_layStuck_58 ?_
                  refine z_bipush ok dX7_layStuck_61 (by decide) ?_
                  refine z_iald (f := now) ok 1 rfl dX7_layStuck_63 (by omega) (by decide) ?_
                  refine z_icmp_ge (tgt := 99) ok dX7_layStuck_64 (by decide) (by omega) (by omega) (fun c64 => ?_) (fun c64 => ?_)
                  · -- t
                    refine z_goto (tgt := 48) ok dX7_layStuck_99 (by decide) ?_
                    refine z_lsub ok (lv' := [(0, .ref (q 0)), (1, .int (iI mo2))]) [0, 1] rfl ?_
                    have hq0 : mo2 = 0 → zS sk2 (now 6).toNat = zS sk (now 6).toNat := fun z => by rw [(h56_6 z).1]
                    have hq1 := h56_7
                    have hq2 := zS_nn (f := sk2) (n := (now 6).toNat) (fun x h0 h1 => by have := h56_3 x h0 (by omega); omega)
                    exact ih48 _ _ _ _ _ _ (h56_2) (h56_3) (h56_4) (h56_5) (fun h => by obtain ⟨e1, e2⟩ := h56_6 h; subst e1; exact fun p hp => ⟨hp.1, hp.2.1, h56_4 p hp.1 hp.2.1 hp.2.2, e2 p hp.1 (Int.lt_of_lt_of_le hp.2.1 c64) hp.2.2⟩) (h56_8) (h56_2.elim (fun z => by have := hq0 z; omega) (fun z => by have := hq1 z; omega))
                  · -- f
                    have h3i := h56_3 i (by omega) (by omega)
                    refine z_aload_n ok dX7_layStuck_67 rfl ?_
                    refine z_get (v := .ref (q 11)) ok zc7 0 rfl 13 (by decide) qf_RX7_41 rfl rfl dX7_layStuck_68 ?_
                    refine z_iload_n ok dX7_layStuck_71 rfl ?_
                    refine z_zald (f := sk2) ok 11 rfl dX7_layStuck_72 (by omega) (by decide) ?_
                    refine z_if_eq (tgt := 93) ok dX7_layStuck_73 (by decide) (by omega) (fun c73 => ?_) (fun c73 => ?_)
                    · -- t
                      refine z_iinc (lv' := [(2, .int (iI (i + 1))), (0, .ref (q 0)), (1, .int (iI mo2))]) ok dX7_layStuck_93 2 rfl (by decide) rfl ?_
                      refine z_goto (tgt := 56) ok dX7_layStuck_96 (by decide) ?_
                      refine z_lsub ok (lv' := [(0, .ref (q 0)), (1, .int (iI mo2)), (2, .int (iI (i + 1)))]) [1, 2, 0] rfl ?_
                      exact ih56 _ _ _ _ _ _ _ (by omega) (by omega) (by omega) (by first | exact h56_3 | exact zu01 h56_3) (by first | exact h56_4 | exact fun x h0 h1 e => h56_4 x h0 h1 (zu0_1 e)) (by first | exact h56_5 | exact fun x hx => by have hne : x ≠ i := fun e => stk_free h56_5 c81 (by rw [← e]; exact hx); rw [zu_n hne]; exact h56_5 x hx) (by first | exact fun h => absurd h (by decide) | (intro h; obtain ⟨e1, e2⟩ := h56_6 h; subst e1; exact ⟨rfl, zall e2 (fun e => by first | exact c81 | (exfalso; omega))⟩)) (by first | exact h56_7 | exact fun _ => by omega) (h56_8) (by omega)
                    · -- f
                      refine z_aload_n ok dX7_layStuck_76 rfl ?_
                      refine z_iload_n ok dX7_layStuck_77 rfl ?_
                      refine z_callVi0 ok (fun l => c_X7_isFree  (hw) (⟨by omega, by omega⟩) (h56_3) (h56_8)) zm_X7_isFree zv_X7_isFree qm_RX7_131 dX7_layStuck_78 (by decide) (by decide) rfl rfl (Nat.le_of_ble_eq_true rfl) (q0 := 0) rfl rfl rfl (fun r78 u78 hp78 => ?_)
                      obtain ⟨sides_78, far_78, many_78, laid_78⟩ := u78
                      try dsimp only at hp78
                      obtain ⟨rfl, hc78⟩ := hp78
                      refine z_eq (ws' := mW Z q now kept hist und sav isv pad sg it far_78 many_78 laid_78 sides_78 sk2 ord rd pl wr) rfl ?_
                      refine z_ifb_eq (tgt := 93) ok dX7_layStuck_81 (by decide) (fun c81 => ?_) (fun c81 => ?_)
                      · -- t
                        refine z_iinc (lv' := [(2, .int (iI (i + 1))), (0, .ref (q 0)), (1, .int (iI mo2))]) ok dX7_layStuck_93 2 rfl (by decide) rfl ?_
                        refine z_goto (tgt := 56) ok dX7_layStuck_96 (by decide) ?_
                        refine z_lsub ok (lv' := [(0, .ref (q 0)), (1, .int (iI mo2)), (2, .int (iI (i + 1)))]) [1, 2, 0] rfl ?_
                        exact ih56 _ _ _ _ _ _ _ (by omega) (by omega) (by omega) (by first | exact h56_3 | exact zu01 h56_3) (by first | exact h56_4 | exact fun x h0 h1 e => h56_4 x h0 h1 (zu0_1 e)) (by first | exact h56_5 | exact fun x hx => by have hne : x ≠ i := fun e => stk_free h56_5 c81 (by rw [← e]; exact hx); rw [zu_n hne]; exact h56_5 x hx) (by first | exact fun h => absurd h (by decide) | (intro h; obtain ⟨e1, e2⟩ := h56_6 h; subst e1; exact ⟨rfl, zall e2 (fun e => by first | exact c81 | (exfalso; omega))⟩)) (by first | exact h56_7 | exact fun _ => by omega) (hc78) (by omega)
                      · -- f
                        have hkey : zS sk2 (now 6).toNat ≤ zS sk (now 6).toNat := h56_2.elim (fun z => by rw [(h56_6 z).1]; exact Int.le_refl _) (fun z => by have := h56_7 z; omega)
                        have hz := zS_zu (f := sk2) (i := i) (v := 0) (n := (now 6).toNat) (by omega) (by omega)
                        refine z_aload_n ok dX7_layStuck_84 rfl ?_
                        refine z_get (v := .ref (q 11)) ok zc7 0 rfl 13 (by decide) qf_RX7_41 rfl rfl dX7_layStuck_85 ?_
                        refine z_iload_n ok dX7_layStuck_88 rfl ?_
                        refine z_iconst ok dX7_layStuck_89 ?_
                        refine z_zast (f := sk2) (v := 0) (ws' := mW Z q now kept hist und sav isv pad sg it far_78 many_78 laid_78 sides_78 (zu sk2 i 0) ord rd pl wr) ok 11 rfl dX7_layStuck_90 (by omega) (by decide) (by first | decide | exact zb_01 _ | omega) rfl ?_
                        refine z_iconst ok dX7_layStuck_91 ?_
                        refine z_istore_n (lv' := [(1, .int (iI 1)), (0, .ref (q 0)), (2, .int (iI i))]) ok dX7_layStuck_92 (by decide) rfl ?_
                        refine z_iinc (lv' := [(2, .int (iI (i + 1))), (1, .int (iI 1)), (0, .ref (q 0))]) ok dX7_layStuck_93 2 rfl (by decide) rfl ?_
                        refine z_goto (tgt := 56) ok dX7_layStuck_96 (by decide) ?_
                        refine z_lsub ok (lv' := [(0, .ref (q 0)), (1, .int (iI 1)), (2, .int (iI (i + 1)))]) [2, 1, 0] rfl ?_
                        exact ih56 _ _ _ _ _ _ _ (by omega) (by omega) (by omega) (by first | exact h56_3 | exact zu01 h56_3) (by first | exact h56_4 | exact fun x h0 h1 e => h56_4 x h0 h1 (zu0_1 e)) (by first | exact h56_5 | exact fun x hx => by have hne : x ≠ i := fun e => stk_free h56_5 c81 (by rw [← e]; exact hx); rw [zu_n hne]; exact h56_5 x hx) (by first | exact fun h => absurd h (by decide) | (intro h; obtain ⟨e1, e2⟩ := h56_6 h; subst e1; exact ⟨rfl, zall e2 (fun e => by first | exact c81 | (exfalso; omega))⟩)) (by first | exact h56_7 | exact fun _ => by omega) (hc78) (by omega)
              refine z_lsub ok (lv' := [(0, .ref (q 0)), (1, .int (iI 0)), (2, .int (iI 0))]) [2, 1, 0] rfl ?_
              exact L56 _ _ _ _ _ _ _ _ (by omega) (by omega) (by omega) (h48_1) (h48_2) (h48_3) (fun _ => ⟨rfl, fun x h0 h1 => absurd h1 (by omega)⟩) (fun h => absurd h (by decide)) (h48_5) (Nat.lt_succ_self _)
        refine z_lsub ok (lv' := [(0, .ref (q 0)), (1, .int (iI 1))]) [1, 0] rfl ?_
        have hi : i = 40 := by omega
        exact L48 _ _ _ _ _ _ _ (by omega) (fun x h0 h1 => by rw [h2_2 x h0 (by omega)]; exact zb_01 _) (fun x h0 h1 e => (zb_eq1.mp ((h2_2 x h0 (by omega)).symm.trans e)).2) (fun x hx => by have hr := stk_rng hx; rw [h2_2 x hr.1 (by omega)]; exact zb_t hr.2) (fun h => absurd h (by decide)) (hca) (Nat.lt_succ_self _)
      · -- f
        refine z_aload_n ok dX7_layStuck_8 rfl ?_
        refine z_get (v := .ref (q 11)) ok zc7 0 rfl 13 (by decide) qf_RX7_41 rfl rfl dX7_layStuck_9 ?_
        refine z_iload_n ok dX7_layStuck_12 rfl ?_
        refine z_iload_n ok dX7_layStuck_13 rfl ?_
        refine z_aload_n ok dX7_layStuck_14 rfl ?_
        refine z_get (v := .ref (q 1)) ok zc7 0 rfl 0 (by decide) qf_RX7_7 rfl rfl dX7_layStuck_15 ?_
        refine z_bipush ok dX7_layStuck_18 (by decide) ?_
        refine z_iald (f := now) ok 1 rfl dX7_layStuck_20 (by omega) (by decide) ?_
        refine z_icmp_ge (tgt := 38) ok dX7_layStuck_21 (by decide) (by omega) (by omega) (fun c21 => ?_) (fun c21 => ?_)
        · -- t
          refine z_iconst ok dX7_layStuck_38 ?_
          refine z_zast (f := sk) (v := 0) (ws' := mW Z q now kept hist und sav isv pad sg it far many laid sides (zu sk i 0) ord rd pl wr) ok 11 rfl dX7_layStuck_39 (by omega) (by decide) (by first | decide | exact zb_01 _ | omega) rfl ?_
          refine z_iinc (lv' := [(1, .int (iI (i + 1))), (0, .ref (q 0))]) ok dX7_layStuck_40 1 rfl (by decide) rfl ?_
          refine z_goto (tgt := 2) ok dX7_layStuck_43 (by decide) ?_
          refine z_lsub ok (lv' := [(0, .ref (q 0)), (1, .int (iI (i + 1)))]) [1, 0] rfl ?_
          exact ih2 _ _ (by omega) (by omega) (zall_zu h2_2 (by first | exact (zb_t ⟨by omega, by omega⟩).symm | exact (zb_f (fun z => by have := z.1; have := z.2; omega)).symm)) (by omega)
        · -- f
          have wpi := wp i (by omega) (by omega)
          refine z_aload_n ok dX7_layStuck_24 rfl ?_
          refine z_iload_n ok dX7_layStuck_25 rfl ?_
          refine z_iconst ok dX7_layStuck_26 ?_
          refine z_callVi0 ok (fun l => c_X7_of  (by omega) (by omega)) zm_X7_of zv_X7_of qm_RX7_98 dX7_layStuck_27 (by decide) (by decide) rfl rfl (Nat.le_of_ble_eq_true rfl) (q0 := 0) rfl rfl rfl (fun ρ _ hρ => ?_)
          subst hρ
          refine z_eq (ws' := mW Z q now kept hist und sav isv pad sg it far many laid sides sk ord rd pl wr) rfl ?_
          refine z_iconst ok dX7_layStuck_30 ?_
          refine z_icmp_ne (tgt := 38) ok dX7_layStuck_31 (by decide) (by omega) (by omega) (fun c31 => ?_) (fun c31 => ?_)
          · -- t
            refine z_iconst ok dX7_layStuck_38 ?_
            refine z_zast (f := sk) (v := 0) (ws' := mW Z q now kept hist und sav isv pad sg it far many laid sides (zu sk i 0) ord rd pl wr) ok 11 rfl dX7_layStuck_39 (by omega) (by decide) (by first | decide | exact zb_01 _ | omega) rfl ?_
            refine z_iinc (lv' := [(1, .int (iI (i + 1))), (0, .ref (q 0))]) ok dX7_layStuck_40 1 rfl (by decide) rfl ?_
            refine z_goto (tgt := 2) ok dX7_layStuck_43 (by decide) ?_
            refine z_lsub ok (lv' := [(0, .ref (q 0)), (1, .int (iI (i + 1)))]) [1, 0] rfl ?_
            exact ih2 _ _ (by omega) (by omega) (zall_zu h2_2 (by first | exact (zb_t ⟨by omega, by omega⟩).symm | exact (zb_f (fun z => by have := z.1; have := z.2; omega)).symm)) (by omega)
          · -- f
            refine z_iconst ok dX7_layStuck_34 ?_
            refine z_goto (tgt := 39) ok dX7_layStuck_35 (by decide) ?_
            refine z_zast (f := sk) (v := 1) (ws' := mW Z q now kept hist und sav isv pad sg it far many laid sides (zu sk i 1) ord rd pl wr) ok 11 rfl dX7_layStuck_39 (by omega) (by decide) (by first | decide | exact zb_01 _ | omega) rfl ?_
            refine z_iinc (lv' := [(1, .int (iI (i + 1))), (0, .ref (q 0))]) ok dX7_layStuck_40 1 rfl (by decide) rfl ?_
            refine z_goto (tgt := 2) ok dX7_layStuck_43 (by decide) ?_
            refine z_lsub ok (lv' := [(0, .ref (q 0)), (1, .int (iI (i + 1)))]) [1, 0] rfl ?_
            exact ih2 _ _ (by omega) (by omega) (zall_zu h2_2 (by first | exact (zb_t ⟨by omega, by omega⟩).symm | exact (zb_f (fun z => by have := z.1; have := z.2; omega)).symm)) (by omega)
  refine z_lsub ok (lv' := [(0, .ref (q 0)), (1, .int (iI 0))]) [1, 0] rfl ?_
  exact L2 _ _ _ (by omega) (by omega) (fun j h0 h1 => absurd h1 (by omega)) (Nat.lt_succ_self _)
