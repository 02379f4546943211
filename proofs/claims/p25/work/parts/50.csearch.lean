set_option maxRecDepth 20000 in
theorem c_X4_search {l : Launch} {Z : zZ} {b : Nat → Nat} {ef : Int} {op ln nm qu : Int → Int} {qd : Int} {N : Int → Int} {to : Int} (hw : wf N) (hto : 0 ≤ to ∧ to < N 4 * N 5) (hop : opK N ef op) : zN (T := (Int → Int) × (Int → Int) × (Int → Int) × Int) l yX4_search (Cond.code yX4_search cX4_search 3 none :: wsL_law) ({ frames := 2, cells := 0, slots := 0, locals := 53 } : Room) Z [.ref (b 0), .int (iI to)] (zf [rW Z b ef op ln nm qu qd]) (fun u => zf [rW Z b ef op u.1 u.2.1 u.2.2.1 u.2.2.2]) (fun u => (∀ x : Int, vsp N x → lqo N to x (lof u.1 to x) ∧ (lof u.1 to x ≠ 1000 → u.2.1 x = wq N to (lof u.1 to x).toNat x)) ∧ (∀ i : Int, i < to * 50 ∨ to * 50 + 50 ≤ i → u.1 i = ln i)) := by
  refine zN_of (C := RX4) (by decide +kernel) rfl (Nat.le_of_ble_eq_true rfl) (fun X ok fin => ?_)
  have hcr := wf_cr hw
  refine z_lsub ok (lv' := [(0, .ref (b 0)), (1, .int (iI to))]) [0, 1] rfl ?_
  refine z_iconst ok dX4_search_0 ?_
  refine z_istore_n (lv' := [(2, .int (iI 0)), (0, .ref (b 0)), (1, .int (iI to))]) ok dX4_search_1 (by decide) rfl ?_
  have L2 : ∀ (fuel : Nat) (i : Int) (l1 n1 : Int → Int), (0 ≤ i) → (i ≤ 50) → (l1 = zcp ln (fun _ => 1000) (to * 50) i) → (n1 = zcp nm (fun _ => 0) 0 i) → (50 - i).toNat < fuel → zV X 0 0 (zf [rW Z b ef op l1 n1 qu qd]) 2 [(0, .ref (b 0)), (1, .int (iI to)), (2, .int (iI i))] [] := by
    intro fuel
    induction fuel with
    | zero => intro i l1 n1 h2_0 h2_1 h2_2 h2_3 hf; exact absurd hf (Nat.not_lt_zero _)
    | succ fuel ih2 =>
      intro i l1 n1 h2_0 h2_1 h2_2 h2_3 hf
      refine z_iload_n ok dX4_search_2 rfl ?_
      refine z_bipush ok dX4_search_3 (by decide) ?_
      refine z_icmp_ge (tgt := 35) ok dX4_search_5 (by decide) (by omega) (by omega) (fun c5 => ?_) (fun c5 => ?_)
      · -- t
        refine z_aload_n ok dX4_search_35 rfl ?_
        refine z_iconst ok dX4_search_36 ?_
        refine z_put (ws' := zf [rW Z b ef op l1 n1 qu 0]) ok zc4 0 rfl 5 (by decide) qf_RX4_28 rfl rfl rfl rfl (Nat.le_of_ble_eq_true rfl) dX4_search_37 rfl ?_
        refine z_aload_n ok dX4_search_40 rfl ?_
        refine z_iload_n ok dX4_search_41 rfl ?_
        refine z_iload_n ok dX4_search_42 rfl ?_
        refine z_iconst ok dX4_search_43 ?_
        refine z_callSie ok (fun l => c_X4_spot  ) zm_X4_spot qt_X4_spot qm_RX4_53 dX4_search_44 (by decide) (by decide) rfl rfl (Nat.le_of_ble_eq_true rfl) (fun ρ _ hρ => ?_)
        subst hρ
        refine z_iconst ok dX4_search_47 ?_
        refine z_iconst ok dX4_search_48 ?_
        refine z_callVv0 ok (fun l => c_X4_reach  (by omega) (by omega) (by omega) (by rw [h2_2, zcp_in (by omega)]; decide) (by decide)) zm_X4_reach zv_X4_reach qm_RX4_67 dX4_search_49 (by decide) (by decide) rfl rfl (Nat.le_of_ble_eq_true rfl) (q0 := 0) rfl rfl rfl (fun u49 hp49 => ?_)
        obtain ⟨ln_49, nm_49, qu_49, qd_49⟩ := u49
        try dsimp only at hp49
        refine z_eq (ws' := zf [rW Z b ef op ln_49 nm_49 qu_49 qd_49]) rfl ?_
        have hd49 : 0 ≤ qd_49 ∧ qd_49 ≤ 50 := by rcases hp49.1 with ⟨-, -, -, -, g⟩ | ⟨-, -, -, g⟩ <;> rw [g] <;> decide
        have hk49 : 0 ≤ ln_49 (to * 50 + (1 * 25 + to)) ∧ ln_49 (to * 50 + (1 * 25 + to)) ≤ 1000 := by rcases hp49.1 with ⟨-, -, g, -, -⟩ | ⟨-, g, -, -⟩ <;> rw [g, h2_2] <;> first | (rw [zu_n (by omega), zcp_in (by omega)]; decide) | (rw [zcp_in (by omega)]; decide)
        refine z_aload_n ok dX4_search_52 rfl ?_
        refine z_iload_n ok dX4_search_53 rfl ?_
        refine z_iload_n ok dX4_search_54 rfl ?_
        refine z_iconst ok dX4_search_55 ?_
        refine z_callSie ok (fun l => c_X4_spot  ) zm_X4_spot qt_X4_spot qm_RX4_53 dX4_search_56 (by decide) (by decide) rfl rfl (Nat.le_of_ble_eq_true rfl) (fun ρ _ hρ => ?_)
        subst hρ
        refine z_iconst ok dX4_search_59 ?_
        refine z_iconst ok dX4_search_60 ?_
        refine z_callVv0 ok (fun l => c_X4_reach  (by omega) (by omega) (hd49) (hk49) (by decide)) zm_X4_reach zv_X4_reach qm_RX4_67 dX4_search_61 (by decide) (by decide) rfl rfl (Nat.le_of_ble_eq_true rfl) (q0 := 0) rfl rfl rfl (fun u61 hp61 => ?_)
        obtain ⟨ln_61, nm_61, qu_61, qd_61⟩ := u61
        try dsimp only at hp61
        refine z_eq (ws' := zf [rW Z b ef op ln_61 nm_61 qu_61 qd_61]) rfl ?_
        have hi50 : i = 50 := by omega
        subst hi50
        have hI := bfs_init (qu := qu) hw hto h2_2 h2_3 rfl hp49 hp61
        refine z_iconst ok dX4_search_64 ?_
        refine z_istore_n (lv' := [(2, .int (iI 0)), (0, .ref (b 0)), (1, .int (iI to))]) ok dX4_search_65 (by decide) rfl ?_
        have L66 : ∀ (fuel : Nat) (i Lv : Int) (l n q : Int → Int) (d : Int), (0 ≤ i) → (i ≤ d) → (0 ≤ Lv) → (bfs N to (Cq N q i) Lv (lof l to) n q d) → (i < d → Lv ≤ lof l to (q i)) → (∀ i : Int, i < to * 50 ∨ to * 50 + 50 ≤ i → l i = ln i) → (50 - i).toNat < fuel → zV X 0 0 (zf [rW Z b ef op l n q d]) 66 [(0, .ref (b 0)), (1, .int (iI to)), (2, .int (iI i))] [] := by
          intro fuel
          induction fuel with
          | zero => intro i Lv l n q d h66_0 h66_1 h66_2 h66_3 h66_4 h66_5 hf; exact absurd hf (Nat.not_lt_zero _)
          | succ fuel ih66 =>
            intro i Lv l n q d h66_0 h66_1 h66_2 h66_3 h66_4 h66_5 hf
            have hqd := bfs_qd h66_3
            refine z_iload_n ok dX4_search_66 rfl ?_
            refine z_aload_n ok dX4_search_67 rfl ?_
            refine z_get (v := .int (iI d)) ok zc4 0 rfl 5 (by decide) qf_RX4_28 rfl rfl dX4_search_68 ?_
            refine z_icmp_ge (tgt := 109) ok dX4_search_71 (by decide) (by omega) (by omega) (fun c71 => ?_) (fun c71 => ?_)
            · -- t
              have hid : i = d := by omega
              have hbd : bfs N to (Cq N q d) Lv (lof l to) n q d := by rw [hid] at h66_3; exact h66_3
              exact fin (l, n, q, d) 109 _ _ _ dX4_search_109 (⟨bfs_end hw hbd, h66_5⟩) (by decide) (by decide)
            · -- f
              have hi1 : i < d := c71
              refine z_iload_n ok dX4_search_74 rfl ?_
              refine z_bipush ok dX4_search_75 (by decide) ?_
              refine z_icmp_ge (tgt := 109) ok dX4_search_77 (by decide) (by omega) (by omega) (fun c77 => ?_) (fun c77 => ?_)
              · -- t
                have hid : i = d := by omega
                have hbd : bfs N to (Cq N q d) Lv (lof l to) n q d := by rw [hid] at h66_3; exact h66_3
                exact fin (l, n, q, d) 109 _ _ _ dX4_search_109 (⟨bfs_end hw hbd, h66_5⟩) (by decide) (by decide)
              · -- f
                have hv := h66_3.2.1 i (by omega) hi1
                have hLi : lof l to (q i) = l (to * 50 + q i) := rfl
                have hyq : q i / 25 * 25 + q i % 25 = q i := by omega
                have hq50 : 0 ≤ q i ∧ q i < 50 := ⟨hv.1.1, hv.1.2.1⟩
                have hCn : ∀ z e : Int, Cq N q i z e → scq N z e ≠ q i := fun z e g g2 => by obtain ⟨-, -, -, -, j, g3, g4, g5⟩ := g; exact (h66_3.2.2.1 j i g3 g4 hi1).1 (g5.trans g2)
                have hbm := bfs_mono h66_3 (h66_4 hi1)
                refine z_aload_n ok dX4_search_80 rfl ?_
                refine z_iload_n ok dX4_search_81 rfl ?_
                refine z_aload_n ok dX4_search_82 rfl ?_
                refine z_get (v := .ref (b 4)) ok zc4 0 rfl 4 (by decide) qf_RX4_25 rfl rfl dX4_search_83 ?_
                refine z_iload_n ok dX4_search_86 rfl ?_
                refine z_iald (f := q) ok 4 rfl dX4_search_87 (by omega) (by decide) ?_
                refine z_bipush ok dX4_search_88 (by decide) ?_
                refine z_irem ok dX4_search_90 (by omega) (by omega) ?_
                refine z_aload_n ok dX4_search_91 rfl ?_
                refine z_get (v := .ref (b 4)) ok zc4 0 rfl 4 (by decide) qf_RX4_25 rfl rfl dX4_search_92 ?_
                refine z_iload_n ok dX4_search_95 rfl ?_
                refine z_iald (f := q) ok 4 rfl dX4_search_96 (by omega) (by decide) ?_
                refine z_bipush ok dX4_search_97 (by decide) ?_
                refine z_idiv ok dX4_search_99 (by omega) (by omega) ?_
                refine z_callVv0 ok (fun l => c_X4_stepBack (C := Cq N q i) (hw) (hto) (⟨by omega, hv.1.2.2⟩) (by omega) (hop) (by rw [hyq]; exact hbm) (by rw [hyq, ← hLi]; omega) (by rw [hyq]; exact hCn)) zm_X4_stepBack zv_X4_stepBack qm_RX4_71 dX4_search_100 (by decide) (by decide) rfl rfl (Nat.le_of_ble_eq_true rfl) (q0 := 0) rfl rfl rfl (fun u100 hp100 => ?_)
                obtain ⟨ln_100, nm_100, qu_100, qd_100⟩ := u100
                try dsimp only at hp100
                refine z_eq (ws' := zf [rW Z b ef op ln_100 nm_100 qu_100 qd_100]) rfl ?_
                rw [hyq] at hp100
                have h100f := hp100.2.2.2.2.2
                have hNx := prg_next hw ⟨h66_0, hi1⟩ (by omega) hp100
                refine z_iinc (lv' := [(2, .int (iI (i + 1))), (0, .ref (b 0)), (1, .int (iI to))]) ok dX4_search_103 2 rfl (by decide) rfl ?_
                refine z_goto (tgt := 66) ok dX4_search_106 (by decide) ?_
                refine z_lsub ok (lv' := [(0, .ref (b 0)), (1, .int (iI to)), (2, .int (iI (i + 1)))]) [1, 2, 0] rfl ?_
                exact ih66 (i + 1) (lof l to (q i)) _ _ _ _ (by omega) (hNx.2.1) (by omega) (hNx.1) (hNx.2.2) (fun j hj => by rw [h100f j hj]; exact h66_5 j hj) (by omega)
        refine z_lsub ok (lv' := [(0, .ref (b 0)), (1, .int (iI to)), (2, .int (iI 0))]) [1, 2, 0] rfl ?_
        exact L66 _ 0 0 _ _ _ _ (by omega) (by have := bfs_qd hI.1; omega) (by omega) (hI.1) (fun hlt => (hI.1.2.1 0 (by omega) hlt).2.1) (hI.2) (Nat.lt_succ_self _)
      · -- f
        refine z_aload_n ok dX4_search_8 rfl ?_
        refine z_get (v := .ref (b 2)) ok zc4 0 rfl 2 (by decide) qf_RX4_19 rfl rfl dX4_search_9 ?_
        refine z_iload_n ok dX4_search_12 rfl ?_
        refine z_bipush ok dX4_search_13 (by decide) ?_
        refine z_imul ok dX4_search_15 ?_
        refine z_iload_n ok dX4_search_16 rfl ?_
        refine z_iadd ok dX4_search_17 ?_
        refine z_sipush ok dX4_search_18 (by decide) ?_
        refine z_iast (f := l1) (v := 1000) (ws' := zf [rW Z b ef op (zu l1 ((to * 50) + i) 1000) n1 qu qd]) ok 2 rfl dX4_search_21 (by omega) (by decide) rfl ?_
        refine z_aload_n ok dX4_search_22 rfl ?_
        refine z_get (v := .ref (b 3)) ok zc4 0 rfl 3 (by decide) qf_RX4_22 rfl rfl dX4_search_23 ?_
        refine z_iload_n ok dX4_search_26 rfl ?_
        refine z_iconst ok dX4_search_27 ?_
        refine z_iast (f := n1) (v := 0) (ws' := zf [rW Z b ef op (zu l1 ((to * 50) + i) 1000) (zu n1 i 0) qu qd]) ok 3 rfl dX4_search_28 (by omega) (by decide) rfl ?_
        refine z_iinc (lv' := [(2, .int (iI (i + 1))), (0, .ref (b 0)), (1, .int (iI to))]) ok dX4_search_29 2 rfl (by decide) rfl ?_
        refine z_goto (tgt := 2) ok dX4_search_32 (by decide) ?_
        refine z_lsub ok (lv' := [(0, .ref (b 0)), (1, .int (iI to)), (2, .int (iI (i + 1)))]) [1, 2, 0] rfl ?_
        exact ih2 _ _ _ (by omega) (by omega) (by rw [h2_2]; exact zcp_s (g := fun _ => 1000) (by omega)) (by rw [h2_3]; exact zcp_z (g := fun _ => 0) (by omega)) (by omega)
  refine z_lsub ok (lv' := [(0, .ref (b 0)), (1, .int (iI to)), (2, .int (iI 0))]) [1, 2, 0] rfl ?_
  exact L2 _ _ _ _ (by omega) (by omega) (zcp_0.symm) (zcp_0.symm) (Nat.lt_succ_self _)
