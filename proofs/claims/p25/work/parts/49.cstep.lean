set_option maxRecDepth 20000 in
theorem c_X4_stepBack {l : Launch} {Z : zZ} {b : Nat → Nat} {ef : Int} {op ln nm qu : Int → Int} {qd : Int} {N : Int → Int} {to x t : Int} {C : Int → Int → Prop} (hw : wf N) (hto : 0 ≤ to ∧ to < N 4 * N 5) (hx : 0 ≤ x ∧ x < N 4 * N 5) (ht : 0 ≤ t ∧ t ≤ 1) (hop : opK N ef op) (hb : bfs N to C (ln (to * 50 + (t * 25 + x))) (lof ln to) nm qu qd) (hL : 0 ≤ (ln (to * 50 + (t * 25 + x))) ∧ (ln (to * 50 + (t * 25 + x))) < 100) (hC : ∀ z d : Int, C z d → scq N z d ≠ t * 25 + x) : zN (T := (Int → Int) × (Int → Int) × (Int → Int) × Int) l yX4_stepBack (Cond.code yX4_stepBack cX4_stepBack 9 none :: wsL_law) ({ frames := 1, cells := 0, slots := 0, locals := 25 } : Room) Z [.ref (b 0), .int (iI to), .int (iI x), .int (iI t)] (zf [rW Z b ef op ln nm qu qd]) (fun u => zf [rW Z b ef op u.1 u.2.1 u.2.2.1 u.2.2.2]) (fun u => prg N to C (Py N (t * 25 + x) 4) (ln (to * 50 + (t * 25 + x))) ln nm qu qd u.1 u.2.1 u.2.2.1 u.2.2.2) := by
  refine zN_of (C := RX4) (by decide +kernel) rfl (Nat.le_of_ble_eq_true rfl) (fun X ok fin => ?_)
  have hcr := wf_cr hw
  obtain ⟨hef, hoq⟩ := id hop
  have hqd := bfs_qd hb
  have hL0 : lof ln to (t * 25 + x) = ln (to * 50 + (t * 25 + x)) := rfl
  have hyv : vsp N (t * 25 + x) := ⟨by omega, by omega, by omega⟩
  have hW := hoq x 1 hx.1 hx.2 (by omega) (by omega)
  have hWr := oq_rng (d := 1) hw hx (by omega)
  refine z_lsub ok (lv' := [(0, .ref (b 0)), (1, .int (iI to)), (2, .int (iI x)), (3, .int (iI t))]) [0, 1, 2, 3] rfl ?_
  refine z_iload_n ok dX4_stepBack_0 rfl ?_
  refine z_iload_n ok dX4_stepBack_1 rfl ?_
  refine z_callSie ok (fun l => c_X4_spot  ) zm_X4_spot qt_X4_spot qm_RX4_53 dX4_stepBack_2 (by decide) (by decide) rfl rfl (Nat.le_of_ble_eq_true rfl) (fun ρ _ hρ => ?_)
  subst hρ
  refine z_istore (lv' := [(4, .int (iI (t * 25 + x))), (0, .ref (b 0)), (1, .int (iI to)), (2, .int (iI x)), (3, .int (iI t))]) ok dX4_stepBack_5 (by decide) rfl ?_
  refine z_aload_n ok dX4_stepBack_7 rfl ?_
  refine z_get (v := .ref (b 2)) ok zc4 0 rfl 2 (by decide) qf_RX4_19 rfl rfl dX4_stepBack_8 ?_
  refine z_iload_n ok dX4_stepBack_11 rfl ?_
  refine z_bipush ok dX4_stepBack_12 (by decide) ?_
  refine z_imul ok dX4_stepBack_14 ?_
  refine z_iload ok dX4_stepBack_15 rfl ?_
  refine z_iadd ok dX4_stepBack_17 ?_
  refine z_iald (f := ln) ok 2 rfl dX4_stepBack_18 (by omega) (by decide) ?_
  refine z_iconst ok dX4_stepBack_19 ?_
  refine z_iadd ok dX4_stepBack_20 ?_
  refine z_istore (lv' := [(5, .int (iI ((ln ((to * 50) + (t * 25 + x))) + 1))), (4, .int (iI (t * 25 + x))), (0, .ref (b 0)), (1, .int (iI to)), (2, .int (iI x)), (3, .int (iI t))]) ok dX4_stepBack_21 (by decide) rfl ?_
  have L66 : ∀ (l1 n1 q1 : Int → Int) (d1 : Int), (prg N to C (Py N (t * 25 + x) 1) (ln (to * 50 + (t * 25 + x))) ln nm qu qd l1 n1 q1 d1) → zV X 0 0 (zf [rW Z b ef op l1 n1 q1 d1]) 66 [(0, .ref (b 0)), (1, .int (iI to)), (2, .int (iI x)), (3, .int (iI t)), (4, .int (iI (t * 25 + x))), (5, .int (iI ((ln ((to * 50) + (t * 25 + x))) + 1)))] [] := by
    intro l1 n1 q1 d1 h66_0
    refine z_iconst ok dX4_stepBack_66 ?_
    refine z_istore (lv' := [(7, .int (iI 1)), (0, .ref (b 0)), (1, .int (iI to)), (2, .int (iI x)), (3, .int (iI t)), (4, .int (iI (t * 25 + x))), (5, .int (iI ((ln ((to * 50) + (t * 25 + x))) + 1)))]) ok dX4_stepBack_67 (by decide) rfl ?_
    have L69 : ∀ (fuel : Nat) (s : Int) (l1 n1 q1 : Int → Int) (d1 : Int), (1 ≤ s) → (s ≤ 4) → (prg N to C (Py N (t * 25 + x) s) (ln (to * 50 + (t * 25 + x))) ln nm qu qd l1 n1 q1 d1) → (4 - s).toNat < fuel → zV X 0 0 (zf [rW Z b ef op l1 n1 q1 d1]) 69 [(0, .ref (b 0)), (1, .int (iI to)), (2, .int (iI x)), (3, .int (iI t)), (4, .int (iI (t * 25 + x))), (5, .int (iI ((ln ((to * 50) + (t * 25 + x))) + 1))), (7, .int (iI s))] [] := by
      intro fuel
      induction fuel with
      | zero => intro s l1 n1 q1 d1 h69_0 h69_1 h69_2 hf; exact absurd hf (Nat.not_lt_zero _)
      | succ fuel ih69 =>
        intro s l1 n1 q1 d1 h69_0 h69_1 h69_2 hf
        obtain ⟨hq69, hr69⟩ := prg_f hL h69_2
        refine z_iload ok dX4_stepBack_69 rfl ?_
        refine z_iconst ok dX4_stepBack_71 ?_
        refine z_icmp_ge (tgt := 144) ok dX4_stepBack_72 (by decide) (by omega) (by omega) (fun c72 => ?_) (fun c72 => ?_)
        · -- t
          exact fin (l1, n1, q1, d1) 144 _ _ _ dX4_stepBack_144 (prg_cong h69_2 (Py_4 hw hx ht (by omega) (by omega))) (by decide) (by decide)
        · -- f
          refine z_iload_n ok dX4_stepBack_75 rfl ?_
          refine z_iconst ok dX4_stepBack_76 ?_
          refine z_icmp_ne (tgt := 144) ok dX4_stepBack_77 (by decide) (by omega) (by omega) (fun c77 => ?_) (fun c77 => ?_)
          · -- t
            exact fin (l1, n1, q1, d1) 144 _ _ _ dX4_stepBack_144 (prg_cong h69_2 (Py_4 hw hx ht (by omega) (by omega))) (by decide) (by decide)
          · -- f
            have hop1 := opp_opp (d := s) (by omega)
            have hV := hoq x (opp s) hx.1 hx.2 hop1.2.1 hop1.2.2
            have hVr := oq_rng (d := opp s) hw hx hop1.2
            refine z_aload_n ok dX4_stepBack_80 rfl ?_
            refine z_iload_n ok dX4_stepBack_81 rfl ?_
            refine z_iload ok dX4_stepBack_82 rfl ?_
            refine z_callSie ok (fun l => c_X4_opposite  (by omega)) zm_X4_opposite qt_X4_opposite qm_RX4_75 dX4_stepBack_84 (by decide) (by decide) rfl rfl (Nat.le_of_ble_eq_true rfl) (fun ρ _ hρ => ?_)
            subst hρ
            refine z_callVi0 ok (fun l => c_X4_boxBehind  (by omega) (by omega)) zm_X4_boxBehind zv_X4_boxBehind qm_RX4_56 dX4_stepBack_87 (by decide) (by decide) rfl rfl (Nat.le_of_ble_eq_true rfl) (q0 := 0) rfl rfl rfl (fun ρ _ hρ => ?_)
            subst hρ
            refine z_eq (ws' := zf [rW Z b ef op l1 n1 q1 d1]) rfl ?_
            refine z_istore (lv' := [(8, .int (iI (op (x * 4 + (opp s))))), (0, .ref (b 0)), (1, .int (iI to)), (2, .int (iI x)), (3, .int (iI t)), (4, .int (iI (t * 25 + x))), (5, .int (iI ((ln ((to * 50) + (t * 25 + x))) + 1))), (7, .int (iI s))]) ok dX4_stepBack_90 (by decide) rfl ?_
            refine z_iload ok dX4_stepBack_92 rfl ?_
            refine z_iconst ok dX4_stepBack_94 ?_
            refine z_icmp_eq (tgt := 138) ok dX4_stepBack_95 (by decide) (by omega) (by omega) (fun c95 => ?_) (fun c95 => ?_)
            · -- t
              have hno : ¬ opn N x (opp s) := oq_n hV c95
              have hp69 := prg_cong h69_2 (Py_snt (t := t) (by omega) hw hx (by omega) hno)
              refine z_iinc (lv' := [(7, .int (iI (s + 1))), (8, .int (iI (op (x * 4 + (opp s))))), (0, .ref (b 0)), (1, .int (iI to)), (2, .int (iI x)), (3, .int (iI t)), (4, .int (iI (t * 25 + x))), (5, .int (iI ((ln ((to * 50) + (t * 25 + x))) + 1)))]) ok dX4_stepBack_138 7 rfl (by decide) rfl ?_
              refine z_goto (tgt := 69) ok dX4_stepBack_141 (by decide) ?_
              refine z_lsub ok (lv' := [(0, .ref (b 0)), (1, .int (iI to)), (2, .int (iI x)), (3, .int (iI t)), (4, .int (iI (t * 25 + x))), (5, .int (iI ((ln ((to * 50) + (t * 25 + x))) + 1))), (7, .int (iI (s + 1)))]) [2, 3, 4, 5, 6, 7, 0] rfl ?_
              exact ih69 _ _ _ _ _ (by omega) (by omega) (hp69) (by omega)
            · -- f
              obtain ⟨ho1, hv1, hv0⟩ := oq_y hV c95
              obtain ⟨y1, y2, y3⟩ := Py_syt (t := t) (u := 0) (by omega) hw hx (by omega) ho1 hv1 (by omega)
              obtain ⟨z1, z2, z3⟩ := Py_syt (t := t) (u := 1) (by omega) hw hx (by omega) ho1 hv1 (by omega)
              have z4 := Py_s2t (t := t) (by omega) hw hx (by omega) ho1 hv1
              refine z_aload_n ok dX4_stepBack_98 rfl ?_
              refine z_iload_n ok dX4_stepBack_99 rfl ?_
              refine z_iload ok dX4_stepBack_100 rfl ?_
              refine z_iconst ok dX4_stepBack_102 ?_
              refine z_callSie ok (fun l => c_X4_spot  ) zm_X4_spot qt_X4_spot qm_RX4_53 dX4_stepBack_103 (by decide) (by decide) rfl rfl (Nat.le_of_ble_eq_true rfl) (fun ρ _ hρ => ?_)
              subst hρ
              refine z_iload ok dX4_stepBack_106 rfl ?_
              refine z_aload_n ok dX4_stepBack_108 rfl ?_
              refine z_get (v := .ref (b 3)) ok zc4 0 rfl 3 (by decide) qf_RX4_22 rfl rfl dX4_stepBack_109 ?_
              refine z_iload ok dX4_stepBack_112 rfl ?_
              refine z_iald (f := n1) ok 3 rfl dX4_stepBack_114 (by omega) (by decide) ?_
              refine z_callVv0 ok (fun l => c_X4_reach  (by omega) (⟨y1.1, y1.2.1⟩) (hq69) (hr69 _ y1.1 y1.2.1) (by omega)) zm_X4_reach zv_X4_reach qm_RX4_67 dX4_stepBack_115 (by decide) (by decide) rfl rfl (Nat.le_of_ble_eq_true rfl) (q0 := 0) rfl rfl rfl (fun u115 hp115 => ?_)
              obtain ⟨ln_115, nm_115, qu_115, qd_115⟩ := u115
              try dsimp only at hp115
              refine z_eq (ws' := zf [rW Z b ef op ln_115 nm_115 qu_115 qd_115]) rfl ?_
              have hp1 := prg_reach (P' := fun z d => Py N (t * 25 + x) s z d ∨ (z = 0 * 25 + op (x * 4 + opp s) ∧ d = s)) (d0 := s) h69_2 hL ⟨hyv, hL0⟩ y1 (by omega) y2 y3 (fun q => by rcases q with q | q; exact hC _ _ q y3; exact absurd q.2.2.2.2.2 (by omega)) (fun z d => Iff.rfl) rfl hp115
              obtain ⟨hq1, hr1⟩ := prg_f hL hp1
              refine z_aload_n ok dX4_stepBack_118 rfl ?_
              refine z_iload_n ok dX4_stepBack_119 rfl ?_
              refine z_iload ok dX4_stepBack_120 rfl ?_
              refine z_iconst ok dX4_stepBack_122 ?_
              refine z_callSie ok (fun l => c_X4_spot  ) zm_X4_spot qt_X4_spot qm_RX4_53 dX4_stepBack_123 (by decide) (by decide) rfl rfl (Nat.le_of_ble_eq_true rfl) (fun ρ _ hρ => ?_)
              subst hρ
              refine z_iload ok dX4_stepBack_126 rfl ?_
              refine z_aload_n ok dX4_stepBack_128 rfl ?_
              refine z_get (v := .ref (b 3)) ok zc4 0 rfl 3 (by decide) qf_RX4_22 rfl rfl dX4_stepBack_129 ?_
              refine z_iload ok dX4_stepBack_132 rfl ?_
              refine z_iald (f := nm_115) ok 3 rfl dX4_stepBack_134 (by omega) (by decide) ?_
              refine z_callVv0 ok (fun l => c_X4_reach  (by omega) (⟨z1.1, z1.2.1⟩) (hq1) (hr1 _ z1.1 z1.2.1) (by omega)) zm_X4_reach zv_X4_reach qm_RX4_67 dX4_stepBack_135 (by decide) (by decide) rfl rfl (Nat.le_of_ble_eq_true rfl) (q0 := 0) rfl rfl rfl (fun u135 hp135 => ?_)
              obtain ⟨ln_135, nm_135, qu_135, qd_135⟩ := u135
              try dsimp only at hp135
              refine z_eq (ws' := zf [rW Z b ef op ln_135 nm_135 qu_135 qd_135]) rfl ?_
              have hp69 := prg_reach (d0 := s) hp1 hL ⟨hyv, hL0⟩ z1 (by omega) z2 z3 (fun q => by rcases q with q | q; exact hC _ _ q z3; rcases q with q | q; exact absurd q.2.2.2.2.2 (by omega); exact absurd q.1 (by omega)) z4 rfl hp135
              refine z_iinc (lv' := [(7, .int (iI (s + 1))), (8, .int (iI (op (x * 4 + (opp s))))), (0, .ref (b 0)), (1, .int (iI to)), (2, .int (iI x)), (3, .int (iI t)), (4, .int (iI (t * 25 + x))), (5, .int (iI ((ln ((to * 50) + (t * 25 + x))) + 1)))]) ok dX4_stepBack_138 7 rfl (by decide) rfl ?_
              refine z_goto (tgt := 69) ok dX4_stepBack_141 (by decide) ?_
              refine z_lsub ok (lv' := [(0, .ref (b 0)), (1, .int (iI to)), (2, .int (iI x)), (3, .int (iI t)), (4, .int (iI (t * 25 + x))), (5, .int (iI ((ln ((to * 50) + (t * 25 + x))) + 1))), (7, .int (iI (s + 1)))]) [2, 3, 4, 5, 6, 7, 0] rfl ?_
              exact ih69 _ _ _ _ _ (by omega) (by omega) (hp69) (by omega)
    refine z_lsub ok (lv' := [(0, .ref (b 0)), (1, .int (iI to)), (2, .int (iI x)), (3, .int (iI t)), (4, .int (iI (t * 25 + x))), (5, .int (iI ((ln ((to * 50) + (t * 25 + x))) + 1))), (7, .int (iI 1))]) [1, 2, 3, 4, 5, 6, 0] rfl ?_
    exact L69 _ _ _ _ _ _ (by omega) (by omega) (h66_0) (Nat.lt_succ_self _)
  refine z_aload_n ok dX4_stepBack_23 rfl ?_
  refine z_iload_n ok dX4_stepBack_24 rfl ?_
  refine z_iconst ok dX4_stepBack_25 ?_
  refine z_callVi0 ok (fun l => c_X4_boxBehind  (by omega) (by omega)) zm_X4_boxBehind zv_X4_boxBehind qm_RX4_56 dX4_stepBack_26 (by decide) (by decide) rfl rfl (Nat.le_of_ble_eq_true rfl) (q0 := 0) rfl rfl rfl (fun ρ _ hρ => ?_)
  subst hρ
  refine z_eq (ws' := zf [rW Z b ef op ln nm qu qd]) rfl ?_
  refine z_istore (lv' := [(6, .int (iI (op (x * 4 + 1)))), (5, .int (iI ((ln ((to * 50) + (t * 25 + x))) + 1))), (4, .int (iI (t * 25 + x))), (0, .ref (b 0)), (1, .int (iI to)), (2, .int (iI x)), (3, .int (iI t))]) ok dX4_stepBack_29 (by decide) rfl ?_
  refine z_iload ok dX4_stepBack_31 rfl ?_
  refine z_iconst ok dX4_stepBack_33 ?_
  refine z_icmp_eq (tgt := 66) ok dX4_stepBack_34 (by decide) (by omega) (by omega) (fun c34 => ?_) (fun c34 => ?_)
  · -- t
    have hno : ¬ opn N x 1 := oq_n hW c34
    have hp66 := prg_cong (prg_0 hb) (Py_0n hw hx ht (Or.inl hno))
    refine z_lsub ok (lv' := [(0, .ref (b 0)), (1, .int (iI to)), (2, .int (iI x)), (3, .int (iI t)), (4, .int (iI (t * 25 + x))), (5, .int (iI ((ln ((to * 50) + (t * 25 + x))) + 1)))]) [3, 4, 5, 6, 2, 1] rfl ?_
    exact L66 _ _ _ _ (hp66)
  · -- f
    refine z_aload_n ok dX4_stepBack_37 rfl ?_
    refine z_iload_n ok dX4_stepBack_38 rfl ?_
    refine z_iconst ok dX4_stepBack_39 ?_
    refine z_callVi0 ok (fun l => c_X4_mayMove  (by omega) (by omega) (by omega)) zm_X4_mayMove zv_X4_mayMove qm_RX4_59 dX4_stepBack_40 (by decide) (by decide) rfl rfl (Nat.le_of_ble_eq_true rfl) (q0 := 0) rfl rfl rfl (fun ρ _ hρ => ?_)
    subst hρ
    refine z_eq (ws' := zf [rW Z b ef op ln nm qu qd]) rfl ?_
    refine z_ifb_eq (tgt := 66) ok dX4_stepBack_43 (by decide) (fun c43 => ?_) (fun c43 => ?_)
    · -- t
      have hp66 := prg_cong (prg_0 hb) (Py_0n hw hx ht (Or.inr (by omega)))
      refine z_lsub ok (lv' := [(0, .ref (b 0)), (1, .int (iI to)), (2, .int (iI x)), (3, .int (iI t)), (4, .int (iI (t * 25 + x))), (5, .int (iI ((ln ((to * 50) + (t * 25 + x))) + 1)))]) [3, 4, 5, 6, 2, 1] rfl ?_
      exact L66 _ _ _ _ (hp66)
    · -- f
      obtain ⟨ho1, hv1, hv0⟩ := oq_y hW c34
      obtain ⟨⟨y1, y2, y3⟩, y4⟩ := Py_0y (t := t) hw hx ht ho1 hv1 (by omega)
      have hr0 := (prg_f hL (prg_0 hb)).2
      refine z_aload_n ok dX4_stepBack_46 rfl ?_
      refine z_iload_n ok dX4_stepBack_47 rfl ?_
      refine z_iload ok dX4_stepBack_48 rfl ?_
      refine z_iload_n ok dX4_stepBack_50 rfl ?_
      refine z_callSie ok (fun l => c_X4_spot  ) zm_X4_spot qt_X4_spot qm_RX4_53 dX4_stepBack_51 (by decide) (by decide) rfl rfl (Nat.le_of_ble_eq_true rfl) (fun ρ _ hρ => ?_)
      subst hρ
      refine z_iload ok dX4_stepBack_54 rfl ?_
      refine z_aload_n ok dX4_stepBack_56 rfl ?_
      refine z_get (v := .ref (b 3)) ok zc4 0 rfl 3 (by decide) qf_RX4_22 rfl rfl dX4_stepBack_57 ?_
      refine z_iload ok dX4_stepBack_60 rfl ?_
      refine z_iald (f := nm) ok 3 rfl dX4_stepBack_62 (by omega) (by decide) ?_
      refine z_callVv0 ok (fun l => c_X4_reach  (by omega) (⟨y1.1, y1.2.1⟩) (hqd) (hr0 _ y1.1 y1.2.1) (by omega)) zm_X4_reach zv_X4_reach qm_RX4_67 dX4_stepBack_63 (by decide) (by decide) rfl rfl (Nat.le_of_ble_eq_true rfl) (q0 := 0) rfl rfl rfl (fun u63 hp63 => ?_)
      obtain ⟨ln_63, nm_63, qu_63, qd_63⟩ := u63
      try dsimp only at hp63
      refine z_eq (ws' := zf [rW Z b ef op ln_63 nm_63 qu_63 qd_63]) rfl ?_
      have hp66 := prg_reach (d0 := 0) (prg_0 hb) hL ⟨hyv, hL0⟩ y1 (by omega) y2 y3 (fun q => by rcases q with q | q; exact hC _ _ q y3; exact q) y4 rfl hp63
      refine z_lsub ok (lv' := [(0, .ref (b 0)), (1, .int (iI to)), (2, .int (iI x)), (3, .int (iI t)), (4, .int (iI (t * 25 + x))), (5, .int (iI ((ln ((to * 50) + (t * 25 + x))) + 1)))]) [3, 4, 5, 6, 2, 1] rfl ?_
      exact L66 _ _ _ _ (hp66)
