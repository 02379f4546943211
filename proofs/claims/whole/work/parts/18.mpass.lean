set_option maxHeartbeats 4000000 in
set_option maxRecDepth 20000 in
theorem c_X7_pass {l : Launch} {Z : zZ} {q : Nat → Nat} {now kept hist : Int → Int} {und : Int} {sav isv pad : Int → Int} {sg it : Int} {far many laid sides stuck ord : Int → Int} {rd pl wr : Int} (hw : wf now) (hca : cacheOK now laid far many) : zN (T := (Int → Int) × (Int → Int) × (Int → Int) × (Int → Int)) l yX7_pass (Cond.code yX7_pass cX7_pass 3 none :: wsL_law) ({ frames := 9, cells := 0, slots := 0, locals := 222 } : Room) Z [.ref (q 0)] (mW Z q now kept hist und sav isv pad sg it far many laid sides stuck ord rd pl wr) (fun u => mW Z q (pasN now) kept hist und sav isv pad sg it u.2.1 u.2.2.1 u.2.2.2 u.1 stuck ord rd pl wr) (fun u => cacheOK (pasN now) u.2.2.2 u.2.1 u.2.2.1) := by
  refine zN_of (C := RX7) (by decide +kernel) rfl (Nat.le_of_ble_eq_true rfl) (fun X ok fin => ?_)
  obtain ⟨w0, w1, w2, hc, hr, w6, wl, wp⟩ := id hw
  have hcr := cr_rng hc hr
  refine z_lsub ok (lv' := [(0, .ref (q 0))]) [0] rfl ?_
  refine z_iconst ok dX7_pass_0 ?_
  refine z_istore_n (lv' := [(1, .int (iI 0)), (0, .ref (q 0))]) ok dX7_pass_1 (by decide) rfl ?_
  have L2 : ∀ (fuel : Nat) (i : Int) (N sd f m ld : Int → Int), (0 ≤ i) → (i ≤ now 6) → (N = stN now i.toNat) → (cacheOK N ld f m) → (now 6 - i).toNat < fuel → zV X 0 0 (mW Z q N kept hist und sav isv pad sg it f m ld sd stuck ord rd pl wr) 2 [(0, .ref (q 0)), (1, .int (iI i))] [] := by
    intro fuel
    induction fuel with
    | zero => intro i N sd f m ld h2_0 h2_1 h2_2 h2_3 hf; exact absurd hf (Nat.not_lt_zero _)
    | succ fuel ih2 =>
      intro i N sd f m ld h2_0 h2_1 h2_2 h2_3 hf
      have hwf := wf_st hw i.toNat (by omega)
      rw [← h2_2] at hwf
      obtain ⟨hwN, hloN⟩ := hwf
      have h6N := hloN 6 (by omega)
      have hcrN := wf_cr hwN
      have hcN := hwN.2.2.2.1
      have hrN := hwN.2.2.2.2.1
      refine z_iload_n ok dX7_pass_2 rfl ?_
      refine z_aload_n ok dX7_pass_3 rfl ?_
      refine z_get (v := .ref (q 1)) ok zc7 0 rfl 0 (by decide) qf_RX7_7 rfl rfl dX7_pass_4 ?_
      refine z_bipush ok dX7_pass_7 (by decide) ?_
      refine z_iald (f := N) ok 1 rfl dX7_pass_9 (by omega) (by decide) ?_
      refine z_icmp_ge (tgt := 126) ok dX7_pass_10 (by decide) (by omega) (by omega) (fun c10 => ?_) (fun c10 => ?_)
      · -- t
        refine z_aload_n ok dX7_pass_126 rfl ?_
        refine z_get (v := .ref (q 1)) ok zc7 0 rfl 0 (by decide) qf_RX7_7 rfl rfl dX7_pass_127 ?_
        refine z_iconst ok dX7_pass_130 ?_
        refine z_dup2 ok dX7_pass_131 rfl rfl ?_
        refine z_iald (f := N) ok 1 rfl dX7_pass_132 (by omega) (by decide) ?_
        refine z_iconst ok dX7_pass_133 ?_
        refine z_iadd ok dX7_pass_134 ?_
        refine z_iast (f := N) (v := (N 3) + 1) (ws' := mW Z q (zu N 3 ((N 3) + 1)) kept hist und sav isv pad sg it f m ld sd stuck ord rd pl wr) ok 1 rfl dX7_pass_135 (by omega) (by decide) rfl ?_
        have hi : i = now 6 := by omega
        refine z_eq (ws' := mW Z q (pasN now) kept hist und sav isv pad sg it f m ld sd stuck ord rd pl wr) (by unfold pasN mvB; rw [← hi, ← h2_2]) ?_
        exact fin (sd, f, m, ld) 136 _ _ _ dX7_pass_136 (by unfold pasN mvB; rw [← hi, ← h2_2]; exact cache_same hwN tk_same h2_3) (by decide) (by decide)
      · -- f
        have wpi := hwN.2.2.2.2.2.2.2 i (by omega) (by omega)
        refine z_aload_n ok dX7_pass_13 rfl ?_
        refine z_iload_n ok dX7_pass_14 rfl ?_
        refine z_iconst ok dX7_pass_15 ?_
        refine z_callVi0 ok (fun l => c_X7_of  (by omega) (by omega)) zm_X7_of zv_X7_of qm_RX7_98 dX7_pass_16 (by decide) (by decide) rfl rfl (Nat.le_of_ble_eq_true rfl) (q0 := 0) rfl rfl rfl (fun ρ _ hρ => ?_)
        subst hρ
        refine z_eq (ws' := mW Z q N kept hist und sav isv pad sg it f m ld sd stuck ord rd pl wr) rfl ?_
        refine z_if_ne (tgt := 75) ok dX7_pass_19 (by decide) (by omega) (fun c19 => ?_) (fun c19 => ?_)
        · -- t
          refine z_aload_n ok dX7_pass_75 rfl ?_
          refine z_iload_n ok dX7_pass_76 rfl ?_
          refine z_iconst ok dX7_pass_77 ?_
          refine z_callVi0 ok (fun l => c_X7_of  (by omega) (by omega)) zm_X7_of zv_X7_of qm_RX7_98 dX7_pass_78 (by decide) (by decide) rfl rfl (Nat.le_of_ble_eq_true rfl) (q0 := 0) rfl rfl rfl (fun ρ _ hρ => ?_)
          subst hρ
          refine z_eq (ws' := mW Z q N kept hist und sav isv pad sg it f m ld sd stuck ord rd pl wr) rfl ?_
          refine z_iconst ok dX7_pass_81 ?_
          refine z_icmp_ne (tgt := 120) ok dX7_pass_82 (by decide) (by omega) (by omega) (fun c82 => ?_) (fun c82 => ?_)
          · -- t
            refine z_iinc (lv' := [(1, .int (iI (i + 1))), (0, .ref (q 0))]) ok dX7_pass_120 1 rfl (by decide) rfl ?_
            refine z_goto (tgt := 2) ok dX7_pass_123 (by decide) ?_
            refine z_lsub ok (lv' := [(0, .ref (q 0)), (1, .int (iI (i + 1)))]) [1, 0] rfl ?_
            have hN2 : N = stpN N i := by first | exact absurd c37 c60 | exact absurd c60 c37 | (unfold stpN; rw [if_pos c19, zb_t c37]; rfl) | (unfold stpN; rw [if_pos c19, zb_f c37]; rfl) | (unfold stpN; rw [if_neg c19, if_pos c82, if_pos c92]) | (unfold stpN; rw [if_neg c19, if_pos c82, if_neg (by omega)]) | (unfold stpN; rw [if_neg c19, if_neg c82])
            rw [hN2]
            exact ih2 _ _ _ _ _ _ (by omega) (by omega) ((stN_s (by omega) h2_2).symm) (cache_same hwN (lo_same (wf_stp hwN ⟨by omega, by omega⟩).2) h2_3) (by omega)
          · -- f
            refine z_aload_n ok dX7_pass_85 rfl ?_
            refine z_iload_n ok dX7_pass_86 rfl ?_
            refine z_callVi0 ok (fun l => c_X7_goesTo  (hwN) (by omega) (h2_3)) zm_X7_goesTo zv_X7_goesTo qm_RX7_121 dX7_pass_87 (by decide) (by decide) rfl rfl (Nat.le_of_ble_eq_true rfl) (q0 := 0) rfl rfl rfl (fun r87 u87 hp87 => ?_)
            obtain ⟨sides_87, far_87, many_87, laid_87⟩ := u87
            try dsimp only at hp87
            obtain ⟨rfl, hc87⟩ := hp87
            refine z_eq (ws' := mW Z q N kept hist und sav isv pad sg it far_87 many_87 laid_87 sides_87 stuck ord rd pl wr) rfl ?_
            refine z_istore_n (lv' := [(2, .int (iI (goN N i))), (0, .ref (q 0)), (1, .int (iI i))]) ok dX7_pass_90 (by decide) rfl ?_
            have hgr := goN_rng N i
            refine z_iload_n ok dX7_pass_91 rfl ?_
            refine z_if_lt (tgt := 104) ok dX7_pass_92 (by decide) (by omega) (fun c92 => ?_) (fun c92 => ?_)
            · -- t
              refine z_aload_n ok dX7_pass_104 rfl ?_
              refine z_iload_n ok dX7_pass_105 rfl ?_
              refine z_bipush ok dX7_pass_106 (by decide) ?_
              refine z_aload_n ok dX7_pass_108 rfl ?_
              refine z_iload_n ok dX7_pass_109 rfl ?_
              refine z_bipush ok dX7_pass_110 (by decide) ?_
              refine z_callVi0 ok (fun l => c_X7_of  (by omega) (by omega)) zm_X7_of zv_X7_of qm_RX7_98 dX7_pass_112 (by decide) (by decide) rfl rfl (Nat.le_of_ble_eq_true rfl) (q0 := 0) rfl rfl rfl (fun ρ _ hρ => ?_)
              subst hρ
              refine z_eq (ws' := mW Z q N kept hist und sav isv pad sg it far_87 many_87 laid_87 sides_87 stuck ord rd pl wr) rfl ?_
              refine z_iconst ok dX7_pass_115 ?_
              refine z_iadd ok dX7_pass_116 ?_
              refine z_callVv0 ok (fun l => c_X7_book  (by omega) (by omega)) zm_X7_book zv_X7_book qm_RX7_111 dX7_pass_117 (by decide) (by decide) rfl rfl (Nat.le_of_ble_eq_true rfl) (q0 := 0) rfl rfl rfl (fun _ hp117 => ?_)
              refine z_eq (ws' := mW Z q (bk N i 6 ((pk N i 6) + 1)) kept hist und sav isv pad sg it far_87 many_87 laid_87 sides_87 stuck ord rd pl wr) rfl ?_
              refine z_iinc (lv' := [(1, .int (iI (i + 1))), (2, .int (iI (goN N i))), (0, .ref (q 0))]) ok dX7_pass_120 2 rfl (by decide) rfl ?_
              refine z_goto (tgt := 2) ok dX7_pass_123 (by decide) ?_
              refine z_lsub ok (lv' := [(0, .ref (q 0)), (1, .int (iI (i + 1)))]) [2, 0] rfl ?_
              have hN2 : (bk N i 6 ((pk N i 6) + 1)) = stpN N i := by first | exact absurd c37 c60 | exact absurd c60 c37 | (unfold stpN; rw [if_pos c19, zb_t c37]; rfl) | (unfold stpN; rw [if_pos c19, zb_f c37]; rfl) | (unfold stpN; rw [if_neg c19, if_pos c82, if_pos c92]) | (unfold stpN; rw [if_neg c19, if_pos c82, if_neg (by omega)]) | (unfold stpN; rw [if_neg c19, if_neg c82])
              rw [hN2]
              exact ih2 _ _ _ _ _ _ (by omega) (by omega) ((stN_s (by omega) h2_2).symm) (cache_same hwN (lo_same (wf_stp hwN ⟨by omega, by omega⟩).2) hc87) (by omega)
            · -- f
              have hgs := goN_spec c92
              have hnb := pss_nb hwN ⟨by omega, by omega⟩ ⟨by omega, by omega⟩ hgs.2.1
              refine z_aload_n ok dX7_pass_95 rfl ?_
              refine z_iload_n ok dX7_pass_96 rfl ?_
              refine z_iload_n ok dX7_pass_97 rfl ?_
              refine z_callVv0 ok (fun l => c_X7_move  (hwN) (by omega) (by omega) (by omega)) zm_X7_move zv_X7_move qm_RX7_124 dX7_pass_98 (by decide) (by decide) rfl rfl (Nat.le_of_ble_eq_true rfl) (q0 := 0) rfl rfl rfl (fun _ hp98 => ?_)
              refine z_eq (ws' := mW Z q (mvN N i (goN N i)) kept hist und sav isv pad sg it far_87 many_87 laid_87 sides_87 stuck ord rd pl wr) rfl ?_
              refine z_goto (tgt := 120) ok dX7_pass_101 (by decide) ?_
              refine z_iinc (lv' := [(1, .int (iI (i + 1))), (2, .int (iI (goN N i))), (0, .ref (q 0))]) ok dX7_pass_120 2 rfl (by decide) rfl ?_
              refine z_goto (tgt := 2) ok dX7_pass_123 (by decide) ?_
              refine z_lsub ok (lv' := [(0, .ref (q 0)), (1, .int (iI (i + 1)))]) [2, 0] rfl ?_
              have hN2 : (mvN N i (goN N i)) = stpN N i := by first | exact absurd c37 c60 | exact absurd c60 c37 | (unfold stpN; rw [if_pos c19, zb_t c37]; rfl) | (unfold stpN; rw [if_pos c19, zb_f c37]; rfl) | (unfold stpN; rw [if_neg c19, if_pos c82, if_pos c92]) | (unfold stpN; rw [if_neg c19, if_pos c82, if_neg (by omega)]) | (unfold stpN; rw [if_neg c19, if_neg c82])
              rw [hN2]
              exact ih2 _ _ _ _ _ _ (by omega) (by omega) ((stN_s (by omega) h2_2).symm) (cache_same hwN (lo_same (wf_stp hwN ⟨by omega, by omega⟩).2) hc87) (by omega)
        · -- f
          refine z_aload_n ok dX7_pass_22 rfl ?_
          refine z_aload_n ok dX7_pass_23 rfl ?_
          refine z_iload_n ok dX7_pass_24 rfl ?_
          refine z_iconst ok dX7_pass_25 ?_
          refine z_callVi0 ok (fun l => c_X7_of  (by omega) (by omega)) zm_X7_of zv_X7_of qm_RX7_98 dX7_pass_26 (by decide) (by decide) rfl rfl (Nat.le_of_ble_eq_true rfl) (q0 := 0) rfl rfl rfl (fun ρ _ hρ => ?_)
          subst hρ
          refine z_eq (ws' := mW Z q N kept hist und sav isv pad sg it f m ld sd stuck ord rd pl wr) rfl ?_
          refine z_callVi0 ok (fun l => c_X7_hasRoom  (hwN) (by omega)) zm_X7_hasRoom zv_X7_hasRoom qm_RX7_118 dX7_pass_29 (by decide) (by decide) rfl rfl (Nat.le_of_ble_eq_true rfl) (q0 := 0) rfl rfl rfl (fun ρ _ hρ => ?_)
          subst hρ
          refine z_eq (ws' := mW Z q N kept hist und sav isv pad sg it f m ld sd stuck ord rd pl wr) rfl ?_
          refine z_istore_n (lv' := [(2, .int (iI (zb (ins N (pk N i 3) < N 2)))), (0, .ref (q 0)), (1, .int (iI i))]) ok dX7_pass_32 (by decide) rfl ?_
          refine z_aload_n ok dX7_pass_33 rfl ?_
          refine z_iload_n ok dX7_pass_34 rfl ?_
          refine z_iconst ok dX7_pass_35 ?_
          refine z_iload_n ok dX7_pass_36 rfl ?_
          refine z_ifb_eq (tgt := 44) ok dX7_pass_37 (by decide) (fun c37 => ?_) (fun c37 => ?_)
          · -- t
            refine z_iconst ok dX7_pass_44 ?_
            refine z_callVv0 ok (fun l => c_X7_book  (by omega) (by omega)) zm_X7_book zv_X7_book qm_RX7_111 dX7_pass_45 (by decide) (by decide) rfl rfl (Nat.le_of_ble_eq_true rfl) (q0 := 0) rfl rfl rfl (fun _ hp45 => ?_)
            refine z_eq (ws' := mW Z q (bk N i 2 0) kept hist und sav isv pad sg it f m ld sd stuck ord rd pl wr) rfl ?_
            refine z_aload_n ok dX7_pass_48 rfl ?_
            refine z_iload_n ok dX7_pass_49 rfl ?_
            refine z_bipush ok dX7_pass_50 (by decide) ?_
            refine z_aload_n ok dX7_pass_52 rfl ?_
            refine z_iload_n ok dX7_pass_53 rfl ?_
            refine z_bipush ok dX7_pass_54 (by decide) ?_
            refine z_callVi0 ok (fun l => c_X7_of  (by omega) (by omega)) zm_X7_of zv_X7_of qm_RX7_98 dX7_pass_56 (by decide) (by decide) rfl rfl (Nat.le_of_ble_eq_true rfl) (q0 := 0) rfl rfl rfl (fun ρ _ hρ => ?_)
            subst hρ
            refine z_eq (ws' := mW Z q (bk N i 2 0) kept hist und sav isv pad sg it f m ld sd stuck ord rd pl wr) rfl ?_
            rw [pk_bn (by decide)]
            refine z_iload_n ok dX7_pass_59 rfl ?_
            refine z_ifb_eq (tgt := 67) ok dX7_pass_60 (by decide) (fun c60 => ?_) (fun c60 => ?_)
            · -- t
              refine z_iconst ok dX7_pass_67 ?_
              refine z_iadd ok dX7_pass_68 ?_
              refine z_callVv0 ok (fun l => c_X7_book  (by omega) (by omega)) zm_X7_book zv_X7_book qm_RX7_111 dX7_pass_69 (by decide) (by decide) rfl rfl (Nat.le_of_ble_eq_true rfl) (q0 := 0) rfl rfl rfl (fun _ hp69 => ?_)
              refine z_eq (ws' := mW Z q (bk (bk N i 2 0) i 6 ((pk N i 6) + 1)) kept hist und sav isv pad sg it f m ld sd stuck ord rd pl wr) rfl ?_
              refine z_goto (tgt := 120) ok dX7_pass_72 (by decide) ?_
              refine z_iinc (lv' := [(1, .int (iI (i + 1))), (2, .int (iI (zb (ins N (pk N i 3) < N 2)))), (0, .ref (q 0))]) ok dX7_pass_120 2 rfl (by decide) rfl ?_
              refine z_goto (tgt := 2) ok dX7_pass_123 (by decide) ?_
              refine z_lsub ok (lv' := [(0, .ref (q 0)), (1, .int (iI (i + 1)))]) [2, 0] rfl ?_
              have hN2 : (bk (bk N i 2 0) i 6 ((pk N i 6) + 1)) = stpN N i := by first | exact absurd c37 c60 | exact absurd c60 c37 | (unfold stpN; rw [if_pos c19, zb_t c37]; rfl) | (unfold stpN; rw [if_pos c19, zb_f c37]; rfl) | (unfold stpN; rw [if_neg c19, if_pos c82, if_pos c92]) | (unfold stpN; rw [if_neg c19, if_pos c82, if_neg (by omega)]) | (unfold stpN; rw [if_neg c19, if_neg c82])
              rw [hN2]
              exact ih2 _ _ _ _ _ _ (by omega) (by omega) ((stN_s (by omega) h2_2).symm) (cache_same hwN (lo_same (wf_stp hwN ⟨by omega, by omega⟩).2) h2_3) (by omega)
            · -- f
              exact absurd c60 c37
          · -- f
            refine z_iconst ok dX7_pass_40 ?_
            refine z_goto (tgt := 45) ok dX7_pass_41 (by decide) ?_
            refine z_callVv0 ok (fun l => c_X7_book  (by omega) (by omega)) zm_X7_book zv_X7_book qm_RX7_111 dX7_pass_45 (by decide) (by decide) rfl rfl (Nat.le_of_ble_eq_true rfl) (q0 := 0) rfl rfl rfl (fun _ hp45 => ?_)
            refine z_eq (ws' := mW Z q (bk N i 2 1) kept hist und sav isv pad sg it f m ld sd stuck ord rd pl wr) rfl ?_
            refine z_aload_n ok dX7_pass_48 rfl ?_
            refine z_iload_n ok dX7_pass_49 rfl ?_
            refine z_bipush ok dX7_pass_50 (by decide) ?_
            refine z_aload_n ok dX7_pass_52 rfl ?_
            refine z_iload_n ok dX7_pass_53 rfl ?_
            refine z_bipush ok dX7_pass_54 (by decide) ?_
            refine z_callVi0 ok (fun l => c_X7_of  (by omega) (by omega)) zm_X7_of zv_X7_of qm_RX7_98 dX7_pass_56 (by decide) (by decide) rfl rfl (Nat.le_of_ble_eq_true rfl) (q0 := 0) rfl rfl rfl (fun ρ _ hρ => ?_)
            subst hρ
            refine z_eq (ws' := mW Z q (bk N i 2 1) kept hist und sav isv pad sg it f m ld sd stuck ord rd pl wr) rfl ?_
            rw [pk_bn (by decide)]
            refine z_iload_n ok dX7_pass_59 rfl ?_
            refine z_ifb_eq (tgt := 67) ok dX7_pass_60 (by decide) (fun c60 => ?_) (fun c60 => ?_)
            · -- t
              exact absurd c37 c60
            · -- f
              refine z_iconst ok dX7_pass_63 ?_
              refine z_goto (tgt := 68) ok dX7_pass_64 (by decide) ?_
              refine z_iadd ok dX7_pass_68 ?_
              refine z_callVv0 ok (fun l => c_X7_book  (by omega) (by omega)) zm_X7_book zv_X7_book qm_RX7_111 dX7_pass_69 (by decide) (by decide) rfl rfl (Nat.le_of_ble_eq_true rfl) (q0 := 0) rfl rfl rfl (fun _ hp69 => ?_)
              refine z_eq (ws' := mW Z q (bk (bk N i 2 1) i 6 ((pk N i 6) + 0)) kept hist und sav isv pad sg it f m ld sd stuck ord rd pl wr) rfl ?_
              refine z_goto (tgt := 120) ok dX7_pass_72 (by decide) ?_
              refine z_iinc (lv' := [(1, .int (iI (i + 1))), (2, .int (iI (zb (ins N (pk N i 3) < N 2)))), (0, .ref (q 0))]) ok dX7_pass_120 2 rfl (by decide) rfl ?_
              refine z_goto (tgt := 2) ok dX7_pass_123 (by decide) ?_
              refine z_lsub ok (lv' := [(0, .ref (q 0)), (1, .int (iI (i + 1)))]) [2, 0] rfl ?_
              have hN2 : (bk (bk N i 2 1) i 6 ((pk N i 6) + 0)) = stpN N i := by first | exact absurd c37 c60 | exact absurd c60 c37 | (unfold stpN; rw [if_pos c19, zb_t c37]; rfl) | (unfold stpN; rw [if_pos c19, zb_f c37]; rfl) | (unfold stpN; rw [if_neg c19, if_pos c82, if_pos c92]) | (unfold stpN; rw [if_neg c19, if_pos c82, if_neg (by omega)]) | (unfold stpN; rw [if_neg c19, if_neg c82])
              rw [hN2]
              exact ih2 _ _ _ _ _ _ (by omega) (by omega) ((stN_s (by omega) h2_2).symm) (cache_same hwN (lo_same (wf_stp hwN ⟨by omega, by omega⟩).2) h2_3) (by omega)
  refine z_lsub ok (lv' := [(0, .ref (q 0)), (1, .int (iI 0))]) [1, 0] rfl ?_
  exact L2 _ _ _ _ _ _ _ (by omega) (by omega) (rfl) (hca) (Nat.lt_succ_self _)
