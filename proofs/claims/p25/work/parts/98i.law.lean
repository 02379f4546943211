/-! the law from its entry on -/
set_option maxRecDepth 20000 in
theorem law_run {X : zX} {Z : zZ} {bs L : Nat} {xs : Nat → Int32} (ok : zOK X Z room_1 cL_law RL 5) (hnx : zNX X) (hsc : zSC X bs L xs) (fin : ∀ (ws : va_W) (lv : List (Nat × Value)), zV X 20000 600000 ws 168 lv [.int (iI 1)]) : zV X 0 0 [] 0 [(0, .ref bs)] [] := by
  have L130 : ∀ (ad : zAd) (c0 r0 : Int) (fuel j : Nat) (i : Int) (N : Int → Int) (h : zHd), i = (j : Int) → i ≤ 60 → obI N h → INV i N → (60 - i).toNat < fuel → zV X (181 + 184 * j) (8621 + 8696 * j) (([] : va_W) ++ (obW Z ad N h ++ ([] : va_W))) 130 [(4, .int (iI i)), (3, .int (iI r0)), (2, .int (iI c0)), (1, .ref (obX ad)), (0, .ref bs)] [] := by
    intro ad c0 r0 fuel
    induction fuel with
    | zero => intro j i N h ij i1 hI hV hfu; exact absurd hfu (Nat.not_lt_zero _)
    | succ fuel ih =>
      intro j i N h ij i1 hI hV hfu
      refine z_iload ok dL_law_130 rfl ?_
      refine z_bipush ok dL_law_132 (by decide) ?_
      refine z_icmp_ge (tgt := 167) ok dL_law_134 (by decide) (by omega) (by decide) (fun c134 => ?_) (fun c134 => ?_)
      · -- t
        refine z_iconst ok dL_law_167 ?_
        refine z_widen ok (k' := 20000) (n' := 600000) (by omega) (by omega) ?_
        exact fin _ _
      · -- f
        refine z_aload_n ok dL_law_137 rfl ?_
        refine z_aload_n ok dL_law_138 rfl ?_
        refine z_bipush ok dL_law_139 (by decide) ?_
        refine z_iconst ok dL_law_141 ?_
        refine z_iload ok dL_law_142 rfl ?_
        refine z_imul ok dL_law_144 ?_
        refine z_iadd ok dL_law_145 ?_
        refine l_isAct ok hnx hsc hI hV (by omega) (by omega) qm_RL_79 dL_law_146 (by decide) ⟨by show _ ≤ 600000; omega, by show _ ≤ 7302250; omega⟩ (Nat.le_of_ble_eq_true rfl) (fun M2 h1 h1I h1V => ?_)
        refine z_if_eq (tgt := 159) ok dL_law_149 (by decide) (by decide) (fun c => absurd c (by decide)) (fun c149 => ?_)
        refine z_aload_n ok dL_law_152 rfl ?_
        refine l_agree ok h1I h1V (by omega) qm_RL_83 dL_law_153 (by decide) ⟨by show _ ≤ 600000; omega, by show _ ≤ 7302250; omega⟩ (Nat.le_of_ble_eq_true rfl) (fun h3 h3I => ?_)
        refine z_if_ne (tgt := 161) ok dL_law_156 (by decide) (by decide) (fun c156 => ?_) (fun c => absurd c (by decide))
        refine z_iinc (lv' := [(4, .int (iI (i + 1))), (3, .int (iI r0)), (2, .int (iI c0)), (1, .ref (obX ad)), (0, .ref bs)]) ok dL_law_161 0 rfl (by decide) rfl ?_
        refine z_goto (tgt := 130) ok dL_law_164 (by decide) ?_
        refine z_lsub ok (lv' := [(4, .int (iI (i + 1))), (3, .int (iI r0)), (2, .int (iI c0)), (1, .ref (obX ad)), (0, .ref bs)]) [0, 1, 2, 3, 4] rfl ?_
        refine z_widen ok (k' := 181 + 184 * (j + 1)) (n' := 8621 + 8696 * (j + 1)) (by omega) (by omega) ?_
        exact ih (j + 1) (i + 1) M2 h3 (by omega) (by omega) h3I h1V (by omega)
  have L84 : ∀ (ad : zAd) (c0 r0 : Int) (fuel : Nat) (i : Int) (N : Int → Int) (h : zHd), 0 ≤ i → i ≤ 4 → N 4 = c0 → N 5 = r0 → obI N h → INV 0 N → (4 - i).toNat < fuel → zV X 181 8621 (([] : va_W) ++ (obW Z ad N h ++ ([] : va_W))) 84 [(4, .int (iI i)), (3, .int (iI r0)), (2, .int (iI c0)), (1, .ref (obX ad)), (0, .ref bs)] [] := by
    intro ad c0 r0 fuel
    induction fuel with
    | zero => intro i N h i0 i1 n4 n5 hI hV hfu; exact absurd hfu (Nat.not_lt_zero _)
    | succ fuel ih =>
      intro i N h i0 i1 n4 n5 hI hV hfu
      have hw := hV.1.1
      have hcr := wf_cr hw
      have ecr : N 4 * N 5 = c0 * r0 := by rw [n4, n5]
      refine z_iload ok dL_law_84 rfl ?_
      refine z_iconst ok dL_law_86 ?_
      refine z_icmp_ge (tgt := 127) ok dL_law_87 (by decide) (by omega) (by decide) (fun c87 => ?_) (fun c87 => ?_)
      · -- t
        refine z_iconst ok dL_law_127 ?_
        refine z_istore (lv' := [(4, .int (iI 0)), (3, .int (iI r0)), (2, .int (iI c0)), (1, .ref (obX ad)), (0, .ref bs)]) ok dL_law_128 (by decide) rfl ?_
        refine z_lsub ok (lv' := [(4, .int (iI 0)), (3, .int (iI r0)), (2, .int (iI c0)), (1, .ref (obX ad)), (0, .ref bs)]) [0, 1, 2, 3, 4] rfl ?_
        exact L130 ad c0 r0 _ 0 0 N h rfl (by decide) hI hV (Nat.lt_succ_self _)
      · -- f
        refine z_aload_n ok dL_law_90 rfl ?_
        refine z_aload_n ok dL_law_91 rfl ?_
        refine z_iconst ok dL_law_92 ?_
        refine z_iload ok dL_law_93 rfl ?_
        refine z_iadd ok dL_law_95 ?_
        refine z_iload_n ok dL_law_96 rfl ?_
        refine z_iload_n ok dL_law_97 rfl ?_
        refine z_imul ok dL_law_98 ?_
        refine l_cell ok hnx hsc (by omega) (by omega) qm_RL_60 dL_law_99 (by decide) ⟨by decide, by decide⟩ (Nat.le_of_ble_eq_true rfl) (fun v1 v1l v1u => ?_)
        refine z_aload_n ok dL_law_102 rfl ?_
        refine z_bipush ok dL_law_103 (by decide) ?_
        refine z_iload ok dL_law_105 rfl ?_
        refine z_iadd ok dL_law_107 ?_
        refine z_iconst ok dL_law_108 ?_
        refine l_cell ok hnx hsc (by omega) (by decide) qm_RL_60 dL_law_109 (by decide) ⟨by decide, by decide⟩ (Nat.le_of_ble_eq_true rfl) (fun v2 v2l v2u => ?_)
        refine z_iconst ok dL_law_112 ?_
        have hb1 : isB N v1 := by unfold isB; omega
        refine l_isLink ok hI hV (by decide) hb1 (by omega) (by decide) qm_RL_68 dL_law_113 (by decide) ⟨by decide, by decide⟩ (Nat.le_of_ble_eq_true rfl) (fun M4 h3 h3I h3V => ?_)
        refine z_if_ne (tgt := 121) ok dL_law_116 (by decide) (by decide) (fun c116 => ?_) (fun c => absurd c (by decide))
        refine z_iinc (lv' := [(4, .int (iI (i + 1))), (3, .int (iI r0)), (2, .int (iI c0)), (1, .ref (obX ad)), (0, .ref bs)]) ok dL_law_121 0 rfl (by decide) rfl ?_
        refine z_goto (tgt := 84) ok dL_law_124 (by decide) ?_
        refine z_lsub ok (lv' := [(4, .int (iI (i + 1))), (3, .int (iI r0)), (2, .int (iI c0)), (1, .ref (obX ad)), (0, .ref bs)]) [0, 1, 2, 3, 4] rfl ?_
        exact ih (i + 1) M4 h3 (by omega) (by omega) (by rw [h3V.2.2.1, n4]) (by rw [h3V.2.2.2, n5]) h3I h3V.1 (by omega)
  refine o_new ok hnx qk_RL_9 dL_law_0 dL_law_3 qm_RL_33 dL_law_4 (by decide) ⟨by decide, by decide⟩ (fun ad h hI => ?_)
  refine z_eq (ws' := ([] : va_W) ++ (obW Z ad inN h ++ ([] : va_W))) rfl ?_
  refine z_astore_n (lv' := [(1, .ref (obX ad)), (0, .ref bs)]) ok dL_law_7 (by decide) rfl ?_
  refine z_iconst ok dL_law_8 ?_
  refine z_aload_n ok dL_law_9 rfl ?_
  refine z_iconst ok dL_law_10 ?_
  refine z_iconst ok dL_law_11 ?_
  refine l_cell ok hnx hsc (by omega) (by decide) qm_RL_60 dL_law_12 (by decide) ⟨by decide, by decide⟩ (Nat.le_of_ble_eq_true rfl) (fun v1 v1l v1u => ?_)
  refine z_iadd ok dL_law_15 ?_
  refine z_istore_n (lv' := [(2, .int (iI (2 + v1))), (1, .ref (obX ad)), (0, .ref bs)]) ok dL_law_16 (by decide) rfl ?_
  refine z_iconst ok dL_law_17 ?_
  refine z_aload_n ok dL_law_18 rfl ?_
  refine z_iconst ok dL_law_19 ?_
  refine z_iconst ok dL_law_20 ?_
  refine l_cell ok hnx hsc (by omega) (by decide) qm_RL_60 dL_law_21 (by decide) ⟨by decide, by decide⟩ (Nat.le_of_ble_eq_true rfl) (fun v2 v2l v2u => ?_)
  refine z_iadd ok dL_law_24 ?_
  refine z_istore_n (lv' := [(3, .int (iI (2 + v2))), (2, .int (iI (2 + v1))), (1, .ref (obX ad)), (0, .ref bs)]) ok dL_law_25 (by decide) rfl ?_
  refine z_aload_n ok dL_law_26 rfl ?_
  refine z_iload_n ok dL_law_27 rfl ?_
  refine z_iload_n ok dL_law_28 rfl ?_
  refine o_mesh ok hI wf_inN (by omega) (by omega) qm_RL_34 dL_law_29 (by decide) ⟨by decide, by decide⟩ (Nat.le_of_ble_eq_true rfl) (fun r5 N4 h3 h3I h3c => ?_)
  have i6 : inN 6 = 0 := inN_0 (by decide)
  have okl : okL (2 + v1) (2 + v2) := by unfold okL; omega
  obtain ⟨q2, q3⟩ : r5 = (2 + v1) * (2 + v2) ∧ N4 = mshN inN (2 + v1) (2 + v2) := by rcases h3c with ⟨a, _, _⟩ | ⟨a, _, _⟩ | ⟨_, a, b⟩; exact absurd okl a; omega; exact ⟨a, b⟩
  rw [q3] at h3I
  rw [q2, q3]
  have hV1 := INV_msh INV_in okl (by omega)
  have hw1 := hV1.1.1
  have n4 : (mshN inN (2 + v1) (2 + v2)) 4 = 2 + v1 := by rw [msh_v, if_neg (by omega), if_neg (by omega), if_pos rfl]
  have n5 : (mshN inN (2 + v1) (2 + v2)) 5 = 2 + v2 := by rw [msh_v, if_neg (by omega), if_pos rfl]
  have hcr := cr_rng okl.1 okl.2
  refine z_iload_n ok dL_law_32 rfl ?_
  refine z_iload_n ok dL_law_33 rfl ?_
  refine z_imul ok dL_law_34 ?_
  refine z_icmp_ne (tgt := 47) ok dL_law_35 (by decide) (by omega) (by omega) (fun c => (by omega : False).elim) (fun c35 => ?_)
  refine z_aload_n ok dL_law_38 rfl ?_
  refine z_iconst ok dL_law_39 ?_
  refine o_count (v := (mshN inN (2 + v1) (2 + v2)) 4) ok h3I hw1 (by decide) (v_c2) qm_RL_8 dL_law_40 (by decide) ⟨by decide, by decide⟩ (Nat.le_of_ble_eq_true rfl) (fun h6 h6I => ?_)
  refine z_iload_n ok dL_law_43 rfl ?_
  refine z_icmp_eq (tgt := 49) ok dL_law_44 (by decide) (by omega) (by omega) (fun c44 => ?_) (fun c => (by omega : False).elim)
  refine z_aload_n ok dL_law_49 rfl ?_
  refine z_iconst ok dL_law_50 ?_
  refine z_aload_n ok dL_law_51 rfl ?_
  refine z_iconst ok dL_law_52 ?_
  refine z_iconst ok dL_law_53 ?_
  refine l_cell ok hnx hsc (by omega) (by decide) qm_RL_60 dL_law_54 (by decide) ⟨by decide, by decide⟩ (Nat.le_of_ble_eq_true rfl) (fun v7 v7l v7u => ?_)
  refine o_set ok h6I hw1 (by decide) (by omega) qm_RL_37 dL_law_57 (by decide) ⟨by decide, by decide⟩ (Nat.le_of_ble_eq_true rfl) (fun r10 N9 h8 h8I h8c => ?_)
  have os2 : okS 1 v7 := by unfold okS; omega
  have q3 : N9 = (zu (mshN inN (2 + v1) (2 + v2)) 1 v7) := by rcases h8c with ⟨a, _, _⟩ | ⟨_, _, b⟩; exact absurd os2 a; exact b
  rw [q3] at h8I
  rw [q3]
  have hV2 := INV_set hV1 os2
  have hw2 := hV2.1.1
  refine z_pop ok dL_law_60 rfl ?_
  refine z_aload_n ok dL_law_61 rfl ?_
  refine z_iconst ok dL_law_62 ?_
  refine z_aload_n ok dL_law_63 rfl ?_
  refine z_iconst ok dL_law_64 ?_
  refine z_iconst ok dL_law_65 ?_
  refine l_cell ok hnx hsc (by omega) (by decide) qm_RL_60 dL_law_66 (by decide) ⟨by decide, by decide⟩ (Nat.le_of_ble_eq_true rfl) (fun v11 v11l v11u => ?_)
  refine z_if_ne (tgt := 76) ok dL_law_69 (by decide) (by omega) (fun c69 => ?_) (fun c69 => ?_)
  · -- t
    refine z_iconst ok dL_law_76 ?_
    refine o_set ok h8I hw2 (by decide) (by decide) qm_RL_37 dL_law_77 (by decide) ⟨by decide, by decide⟩ (Nat.le_of_ble_eq_true rfl) (fun r14 N13 h12 h12I h12c => ?_)
    have os3 : okS 0 1 := by unfold okS; omega
    have q3 : N13 = (zu (zu (mshN inN (2 + v1) (2 + v2)) 1 v7) 0 1) := by rcases h12c with ⟨a, _, _⟩ | ⟨_, _, b⟩; exact absurd os3 a; exact b
    rw [q3] at h12I
    rw [q3]
    have hV3 := INV_set hV2 os3
    have hw3 := hV3.1.1
    refine z_pop ok dL_law_80 rfl ?_
    refine z_iconst ok dL_law_81 ?_
    refine z_istore (lv' := [(4, .int (iI 0)), (3, .int (iI (2 + v2))), (2, .int (iI (2 + v1))), (1, .ref (obX ad)), (0, .ref bs)]) ok dL_law_82 (by decide) rfl ?_
    refine z_lsub ok (lv' := [(4, .int (iI 0)), (3, .int (iI (2 + v2))), (2, .int (iI (2 + v1))), (1, .ref (obX ad)), (0, .ref bs)]) [0, 1, 2, 3, 4] rfl ?_
    exact L84 ad (2 + v1) (2 + v2) _ 0 (zu (zu (mshN inN (2 + v1) (2 + v2)) 1 v7) 0 1) h12 (Int.le_refl 0) (by decide) (by rw [zu_n (by decide), zu_n (by decide)]; exact n4) (by rw [zu_n (by decide), zu_n (by decide)]; exact n5) h12I hV3 (Nat.lt_succ_self _)
  · -- f
    refine z_iconst ok dL_law_72 ?_
    refine z_goto (tgt := 77) ok dL_law_73 (by decide) ?_
    refine o_set ok h8I hw2 (by decide) (by decide) qm_RL_37 dL_law_77 (by decide) ⟨by decide, by decide⟩ (Nat.le_of_ble_eq_true rfl) (fun r17 N16 h15 h15I h15c => ?_)
    have os3 : okS 0 0 := by unfold okS; omega
    have q3 : N16 = (zu (zu (mshN inN (2 + v1) (2 + v2)) 1 v7) 0 0) := by rcases h15c with ⟨a, _, _⟩ | ⟨_, _, b⟩; exact absurd os3 a; exact b
    rw [q3] at h15I
    rw [q3]
    have hV3 := INV_set hV2 os3
    have hw3 := hV3.1.1
    refine z_pop ok dL_law_80 rfl ?_
    refine z_iconst ok dL_law_81 ?_
    refine z_istore (lv' := [(4, .int (iI 0)), (3, .int (iI (2 + v2))), (2, .int (iI (2 + v1))), (1, .ref (obX ad)), (0, .ref bs)]) ok dL_law_82 (by decide) rfl ?_
    refine z_lsub ok (lv' := [(4, .int (iI 0)), (3, .int (iI (2 + v2))), (2, .int (iI (2 + v1))), (1, .ref (obX ad)), (0, .ref bs)]) [0, 1, 2, 3, 4] rfl ?_
    exact L84 ad (2 + v1) (2 + v2) _ 0 (zu (zu (mshN inN (2 + v1) (2 + v2)) 1 v7) 0 0) h15 (Int.le_refl 0) (by decide) (by rw [zu_n (by decide), zu_n (by decide)]; exact n4) (by rw [zu_n (by decide), zu_n (by decide)]; exact n5) h15I hV3 (Nat.lt_succ_self _)
