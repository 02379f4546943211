set_option maxRecDepth 20000 in
theorem c_X7_goesTo {l : Launch} {Z : zZ} {q : Nat → Nat} {now kept hist : Int → Int} {und : Int} {sav isv pad : Int → Int} {sg it : Int} {far many laid sides stuck ord : Int → Int} {rd pl wr : Int} {p : Int} (hw : wf now) (hp : 0 ≤ p ∧ p < now 6) (hca : cacheOK now laid far many) : zI (T := (Int → Int) × (Int → Int) × (Int → Int) × (Int → Int)) l yX7_goesTo (Cond.code yX7_goesTo cX7_goesTo 5 (some .int) :: wsL_law) ({ frames := 8, cells := 0, slots := 0, locals := 198 } : Room) Z [.ref (q 0), .int (iI p)] (mW Z q now kept hist und sav isv pad sg it far many laid sides stuck ord rd pl wr) (fun u => mW Z q now kept hist und sav isv pad sg it u.2.1 u.2.2.1 u.2.2.2 u.1 stuck ord rd pl wr) (fun ρ u => ρ = goN now p ∧ cacheOK now u.2.2.2 u.2.1 u.2.2.1) := by
  refine zI_of (C := RX7) (by decide +kernel) rfl (Nat.le_of_ble_eq_true rfl) (fun _ => True) znI (fun X ok fin => ?_)
  obtain ⟨w0, w1, w2, hc, hr, w6, wl, wp⟩ := id hw
  have hcr := cr_rng hc hr
  have wpp := wp p hp.1 hp.2
  have hst := stg_rng hw hp
  refine z_lsub ok (lv' := [(0, .ref (q 0)), (1, .int (iI p))]) [0, 1] rfl ?_
  refine z_aload_n ok dX7_goesTo_0 rfl ?_
  refine z_iload_n ok dX7_goesTo_1 rfl ?_
  refine z_callVi0 ok (fun l => c_X7_laySides  (hw) (hp) (hca)) zm_X7_laySides zv_X7_laySides qm_RX7_115 dX7_goesTo_2 (by decide) (by decide) rfl rfl (Nat.le_of_ble_eq_true rfl) (q0 := 0) rfl rfl rfl (fun r2 u2 hp2 => ?_)
  obtain ⟨sides_2, far_2, many_2, laid_2⟩ := u2
  try dsimp only at hp2
  obtain ⟨hs2, hc2⟩ := hp2
  refine z_eq (ws' := mW Z q now kept hist und sav isv pad sg it far_2 many_2 laid_2 sides_2 stuck ord rd pl wr) rfl ?_
  refine z_istore_n (lv' := [(2, .int (iI r2)), (0, .ref (q 0)), (1, .int (iI p))]) ok dX7_goesTo_5 (by decide) rfl ?_
  have hr2 := hs2.1
  have hr4 := hs2.2.1
  refine z_iconst ok dX7_goesTo_6 ?_
  refine z_istore_n (lv' := [(3, .int (iI 0)), (2, .int (iI r2)), (0, .ref (q 0)), (1, .int (iI p))]) ok dX7_goesTo_7 (by decide) rfl ?_
  have L8 : ∀ (fuel : Nat) (k : Int), (0 ≤ k) → (k ≤ r2) → (∀ j : Int, 0 ≤ j → j < k → ¬ rmP now p (sides_2 j)) → (r2 - k).toNat < fuel → zV X 0 0 (mW Z q now kept hist und sav isv pad sg it far_2 many_2 laid_2 sides_2 stuck ord rd pl wr) 8 [(0, .ref (q 0)), (1, .int (iI p)), (2, .int (iI r2)), (3, .int (iI k))] [] := by
    intro fuel
    induction fuel with
    | zero => intro k h8_0 h8_1 h8_2 hf; exact absurd hf (Nat.not_lt_zero _)
    | succ fuel ih8 =>
      intro k h8_0 h8_1 h8_2 hf
      refine z_iload_n ok dX7_goesTo_8 rfl ?_
      refine z_iload_n ok dX7_goesTo_9 rfl ?_
      refine z_icmp_ge (tgt := 64) ok dX7_goesTo_10 (by decide) (by omega) (by omega) (fun c10 => ?_) (fun c10 => ?_)
      · -- t
        refine z_bipush ok dX7_goesTo_64 (by decide) ?_
        have hk2 : k = r2 := by omega
        rw [hk2] at h8_2
        exact fin (-6) (sides_2, far_2, many_2, laid_2) 66 _ _ _ dX7_goesTo_66 (trivial) (⟨isF_gos (isF_none hs2 h8_2), hc2⟩) (by decide) (by decide)
      · -- f
        have n3k := hs2.2.2.1 k (by omega) (by omega)
        have hnb := pss_nb hw hp ⟨by omega, by omega⟩ n3k.2.2
        refine z_aload_n ok dX7_goesTo_13 rfl ?_
        refine z_aload_n ok dX7_goesTo_14 rfl ?_
        refine z_iload_n ok dX7_goesTo_15 rfl ?_
        refine z_iconst ok dX7_goesTo_16 ?_
        refine z_callVi0 ok (fun l => c_X7_of  (by omega) (by omega)) zm_X7_of zv_X7_of qm_RX7_98 dX7_goesTo_17 (by decide) (by decide) rfl rfl (Nat.le_of_ble_eq_true rfl) (q0 := 0) rfl rfl rfl (fun ρ _ hρ => ?_)
        subst hρ
        refine z_eq (ws' := mW Z q now kept hist und sav isv pad sg it far_2 many_2 laid_2 sides_2 stuck ord rd pl wr) rfl ?_
        refine z_aload_n ok dX7_goesTo_20 rfl ?_
        refine z_get (v := .ref (q 10)) ok zc7 0 rfl 12 (by decide) qf_RX7_38 rfl rfl dX7_goesTo_21 ?_
        refine z_iload_n ok dX7_goesTo_24 rfl ?_
        refine z_iald (f := sides_2) ok 10 rfl dX7_goesTo_25 (by omega) (by decide) ?_
        refine z_callVi0 ok (fun l => c_X7_beside  (by omega) (by omega) (by omega) (by omega)) zm_X7_beside zv_X7_beside qm_RX7_63 dX7_goesTo_26 (by decide) (by decide) rfl rfl (Nat.le_of_ble_eq_true rfl) (q0 := 0) rfl rfl rfl (fun ρ _ hρ => ?_)
        subst hρ
        refine z_eq (ws' := mW Z q now kept hist und sav isv pad sg it far_2 many_2 laid_2 sides_2 stuck ord rd pl wr) rfl ?_
        rw [nbm_nn hnb.1]
        refine z_istore (lv' := [(4, .int (iI (nb now (pk now p 3) (sides_2 k)))), (0, .ref (q 0)), (1, .int (iI p)), (2, .int (iI r2)), (3, .int (iI k))]) ok dX7_goesTo_29 (by decide) rfl ?_
        refine z_iload ok dX7_goesTo_31 rfl ?_
        refine z_aload_n ok dX7_goesTo_33 rfl ?_
        refine z_iload_n ok dX7_goesTo_34 rfl ?_
        refine z_iconst ok dX7_goesTo_35 ?_
        refine z_callVi0 ok (fun l => c_X7_of  (by omega) (by omega)) zm_X7_of zv_X7_of qm_RX7_98 dX7_goesTo_36 (by decide) (by decide) rfl rfl (Nat.le_of_ble_eq_true rfl) (q0 := 0) rfl rfl rfl (fun ρ _ hρ => ?_)
        subst hρ
        refine z_eq (ws' := mW Z q now kept hist und sav isv pad sg it far_2 many_2 laid_2 sides_2 stuck ord rd pl wr) rfl ?_
        refine z_icmp_eq (tgt := 51) ok dX7_goesTo_39 (by decide) (by omega) (by omega) (fun c39 => ?_) (fun c39 => ?_)
        · -- t
          refine z_aload_n ok dX7_goesTo_51 rfl ?_
          refine z_get (v := .ref (q 10)) ok zc7 0 rfl 12 (by decide) qf_RX7_38 rfl rfl dX7_goesTo_52 ?_
          refine z_iload_n ok dX7_goesTo_55 rfl ?_
          refine z_iald (f := sides_2) ok 10 rfl dX7_goesTo_56 (by omega) (by decide) ?_
          exact fin (sides_2 k) (sides_2, far_2, many_2, laid_2) 57 _ _ _ dX7_goesTo_57 (trivial) (⟨isF_gos (isF_at hs2 ⟨by omega, by omega⟩ (by first | exact Or.inl c39 | exact Or.inr c48) h8_2), hc2⟩) (by decide) (by decide)
        · -- f
          refine z_aload_n ok dX7_goesTo_42 rfl ?_
          refine z_iload ok dX7_goesTo_43 rfl ?_
          refine z_callVi0 ok (fun l => c_X7_hasRoom  (hw) (by omega)) zm_X7_hasRoom zv_X7_hasRoom qm_RX7_118 dX7_goesTo_45 (by decide) (by decide) rfl rfl (Nat.le_of_ble_eq_true rfl) (q0 := 0) rfl rfl rfl (fun ρ _ hρ => ?_)
          subst hρ
          refine z_eq (ws' := mW Z q now kept hist und sav isv pad sg it far_2 many_2 laid_2 sides_2 stuck ord rd pl wr) rfl ?_
          refine z_ifb_eq (tgt := 58) ok dX7_goesTo_48 (by decide) (fun c48 => ?_) (fun c48 => ?_)
          · -- t
            refine z_iinc (lv' := [(3, .int (iI (k + 1))), (4, .int (iI (nb now (pk now p 3) (sides_2 k)))), (0, .ref (q 0)), (1, .int (iI p)), (2, .int (iI r2))]) ok dX7_goesTo_58 4 rfl (by decide) rfl ?_
            refine z_goto (tgt := 8) ok dX7_goesTo_61 (by decide) ?_
            refine z_lsub ok (lv' := [(0, .ref (q 0)), (1, .int (iI p)), (2, .int (iI r2)), (3, .int (iI (k + 1)))]) [2, 3, 4, 0] rfl ?_
            exact ih8 _ (by omega) (by omega) (zall h8_2 (fun z => z.elim c39 c48)) (by omega)
          · -- f
            refine z_aload_n ok dX7_goesTo_51 rfl ?_
            refine z_get (v := .ref (q 10)) ok zc7 0 rfl 12 (by decide) qf_RX7_38 rfl rfl dX7_goesTo_52 ?_
            refine z_iload_n ok dX7_goesTo_55 rfl ?_
            refine z_iald (f := sides_2) ok 10 rfl dX7_goesTo_56 (by omega) (by decide) ?_
            exact fin (sides_2 k) (sides_2, far_2, many_2, laid_2) 57 _ _ _ dX7_goesTo_57 (trivial) (⟨isF_gos (isF_at hs2 ⟨by omega, by omega⟩ (by first | exact Or.inl c39 | exact Or.inr c48) h8_2), hc2⟩) (by decide) (by decide)
  refine z_lsub ok (lv' := [(0, .ref (q 0)), (1, .int (iI p)), (2, .int (iI r2)), (3, .int (iI 0))]) [2, 3, 1, 0] rfl ?_
  exact L8 _ _ (by omega) (by omega) (fun j h0 h1 => absurd h1 (by omega)) (Nat.lt_succ_self _)
set_option maxRecDepth 20000 in
theorem c_X7_move {l : Launch} {Z : zZ} {q : Nat → Nat} {now kept hist : Int → Int} {und : Int} {sav isv pad : Int → Int} {sg it : Int} {far many laid sides stuck ord : Int → Int} {rd pl wr : Int} {p d : Int} (hw : wf now) (hp : 0 ≤ p ∧ p < now 6) (hd : 0 ≤ d ∧ d ≤ 3) (hnb : 0 ≤ nb now (pk now p 3) d ∧ nb now (pk now p 3) d < now 4 * now 5) : zN (T := Unit) l yX7_move (Cond.code yX7_move cX7_move 6 none :: wsL_law) ({ frames := 2, cells := 0, slots := 0, locals := 47 } : Room) Z [.ref (q 0), .int (iI p), .int (iI d)] (mW Z q now kept hist und sav isv pad sg it far many laid sides stuck ord rd pl wr) (fun _ => mW Z q (mvN now p d) kept hist und sav isv pad sg it far many laid sides stuck ord rd pl wr) (fun _ => True) := by
  refine zN_of (C := RX7) (by decide +kernel) rfl (Nat.le_of_ble_eq_true rfl) (fun X ok fin => ?_)
  obtain ⟨w0, w1, w2, hc, hr, w6, wl, wp⟩ := id hw
  have hcr := cr_rng hc hr
  have wpp := wp p hp.1 hp.2
  have hst := stg_rng hw hp
  refine z_lsub ok (lv' := [(0, .ref (q 0)), (1, .int (iI p)), (2, .int (iI d))]) [0, 1, 2] rfl ?_
  refine z_aload_n ok dX7_move_0 rfl ?_
  refine z_iload_n ok dX7_move_1 rfl ?_
  refine z_iconst ok dX7_move_2 ?_
  refine z_callVi0 ok (fun l => c_X7_of  (by omega) (by omega)) zm_X7_of zv_X7_of qm_RX7_98 dX7_move_3 (by decide) (by decide) rfl rfl (Nat.le_of_ble_eq_true rfl) (q0 := 0) rfl rfl rfl (fun ρ _ hρ => ?_)
  subst hρ
  refine z_eq (ws' := mW Z q now kept hist und sav isv pad sg it far many laid sides stuck ord rd pl wr) rfl ?_
  refine z_istore_n (lv' := [(3, .int (iI (pk now p 3))), (0, .ref (q 0)), (1, .int (iI p)), (2, .int (iI d))]) ok dX7_move_6 (by decide) rfl ?_
  refine z_aload_n ok dX7_move_7 rfl ?_
  refine z_iload_n ok dX7_move_8 rfl ?_
  refine z_iconst ok dX7_move_9 ?_
  refine z_callVi0 ok (fun l => c_X7_of  (by omega) (by omega)) zm_X7_of zv_X7_of qm_RX7_98 dX7_move_10 (by decide) (by decide) rfl rfl (Nat.le_of_ble_eq_true rfl) (q0 := 0) rfl rfl rfl (fun ρ _ hρ => ?_)
  subst hρ
  refine z_eq (ws' := mW Z q now kept hist und sav isv pad sg it far many laid sides stuck ord rd pl wr) rfl ?_
  refine z_istore (lv' := [(4, .int (iI (pk now p 1))), (3, .int (iI (pk now p 3))), (0, .ref (q 0)), (1, .int (iI p)), (2, .int (iI d))]) ok dX7_move_13 (by decide) rfl ?_
  refine z_aload_n ok dX7_move_15 rfl ?_
  refine z_iload_n ok dX7_move_16 rfl ?_
  refine z_iload_n ok dX7_move_17 rfl ?_
  refine z_callVi0 ok (fun l => c_X7_beside  (by omega) (by omega) (by omega) (by omega)) zm_X7_beside zv_X7_beside qm_RX7_63 dX7_move_18 (by decide) (by decide) rfl rfl (Nat.le_of_ble_eq_true rfl) (q0 := 0) rfl rfl rfl (fun ρ _ hρ => ?_)
  subst hρ
  refine z_eq (ws' := mW Z q now kept hist und sav isv pad sg it far many laid sides stuck ord rd pl wr) rfl ?_
  rw [nbm_nn hnb.1]
  refine z_istore (lv' := [(5, .int (iI (nb now (pk now p 3) d))), (4, .int (iI (pk now p 1))), (3, .int (iI (pk now p 3))), (0, .ref (q 0)), (1, .int (iI p)), (2, .int (iI d))]) ok dX7_move_21 (by decide) rfl ?_
  refine z_aload_n ok dX7_move_23 rfl ?_
  refine z_iload_n ok dX7_move_24 rfl ?_
  refine z_iconst ok dX7_move_25 ?_
  refine z_aload_n ok dX7_move_26 rfl ?_
  refine z_iload_n ok dX7_move_27 rfl ?_
  refine z_iconst ok dX7_move_28 ?_
  refine z_callVi0 ok (fun l => c_X7_of  (by omega) (by omega)) zm_X7_of zv_X7_of qm_RX7_98 dX7_move_29 (by decide) (by decide) rfl rfl (Nat.le_of_ble_eq_true rfl) (q0 := 0) rfl rfl rfl (fun ρ _ hρ => ?_)
  subst hρ
  refine z_eq (ws' := mW Z q now kept hist und sav isv pad sg it far many laid sides stuck ord rd pl wr) rfl ?_
  refine z_iconst ok dX7_move_32 ?_
  refine z_iadd ok dX7_move_33 ?_
  refine z_callVv0 ok (fun l => c_X7_book  (by omega) (by omega)) zm_X7_book zv_X7_book qm_RX7_111 dX7_move_34 (by decide) (by decide) rfl rfl (Nat.le_of_ble_eq_true rfl) (q0 := 0) rfl rfl rfl (fun _ hp34 => ?_)
  refine z_eq (ws' := mW Z q (bk now p 4 ((pk now p 4) + 1)) kept hist und sav isv pad sg it far many laid sides stuck ord rd pl wr) rfl ?_
  refine z_aload_n ok dX7_move_37 rfl ?_
  refine z_iload_n ok dX7_move_38 rfl ?_
  refine z_iconst ok dX7_move_39 ?_
  refine z_aload_n ok dX7_move_40 rfl ?_
  refine z_iload_n ok dX7_move_41 rfl ?_
  refine z_iconst ok dX7_move_42 ?_
  refine z_callVi0 ok (fun l => c_X7_of  (by omega) (by omega)) zm_X7_of zv_X7_of qm_RX7_98 dX7_move_43 (by decide) (by decide) rfl rfl (Nat.le_of_ble_eq_true rfl) (q0 := 0) rfl rfl rfl (fun ρ _ hρ => ?_)
  subst hρ
  refine z_eq (ws' := mW Z q (bk now p 4 ((pk now p 4) + 1)) kept hist und sav isv pad sg it far many laid sides stuck ord rd pl wr) rfl ?_
  rw [pk_bn (by decide)]
  refine z_aload_n ok dX7_move_46 rfl ?_
  refine z_iload_n ok dX7_move_47 rfl ?_
  refine z_iload ok dX7_move_48 rfl ?_
  refine z_iload ok dX7_move_50 rfl ?_
  refine z_callVi0 ok (fun l => c_X7_isDetour  (by rw [bk_lo hp.1 (by omega) (by omega)]; exact hc) (by rw [bk_lo hp.1 (by omega) (by omega)]; exact hr) (by omega) (by omega) (by omega)) zm_X7_isDetour zv_X7_isDetour qm_RX7_87 dX7_move_52 (by decide) (by decide) rfl rfl (Nat.le_of_ble_eq_true rfl) (q0 := 0) rfl rfl rfl (fun ρ _ hρ => ?_)
  subst hρ
  refine z_eq (ws' := mW Z q (bk now p 4 ((pk now p 4) + 1)) kept hist und sav isv pad sg it far many laid sides stuck ord rd pl wr) rfl ?_
  rw [dtr_lo (N := now) (bk_lo hp.1 (by omega) (by omega))]
  refine z_ifb_eq (tgt := 62) ok dX7_move_55 (by decide) (fun c55 => ?_) (fun c55 => ?_)
  · -- t
    refine z_iconst ok dX7_move_62 ?_
    refine z_iadd ok dX7_move_63 ?_
    refine z_callVv0 ok (fun l => c_X7_book  (by omega) (by omega)) zm_X7_book zv_X7_book qm_RX7_111 dX7_move_64 (by decide) (by decide) rfl rfl (Nat.le_of_ble_eq_true rfl) (q0 := 0) rfl rfl rfl (fun _ hp64 => ?_)
    refine z_eq (ws' := mW Z q (bk (bk now p 4 ((pk now p 4) + 1)) p 5 ((pk now p 5) + 0)) kept hist und sav isv pad sg it far many laid sides stuck ord rd pl wr) rfl ?_
    refine z_aload_n ok dX7_move_67 rfl ?_
    refine z_iload_n ok dX7_move_68 rfl ?_
    refine z_bipush ok dX7_move_69 (by decide) ?_
    refine z_iload_n ok dX7_move_71 rfl ?_
    refine z_if_ne (tgt := 85) ok dX7_move_72 (by decide) (by omega) (fun c72 => ?_) (fun c72 => ?_)
    · -- t
      refine z_iconst ok dX7_move_85 ?_
      refine z_callVv0 ok (fun l => c_X7_book  (by omega) (by omega)) zm_X7_book zv_X7_book qm_RX7_111 dX7_move_86 (by decide) (by decide) rfl rfl (Nat.le_of_ble_eq_true rfl) (q0 := 0) rfl rfl rfl (fun _ hp86 => ?_)
      refine z_eq (ws' := mW Z q (bk (bk (bk now p 4 ((pk now p 4) + 1)) p 5 ((pk now p 5) + 0)) p 9 1) kept hist und sav isv pad sg it far many laid sides stuck ord rd pl wr) rfl ?_
      refine z_aload_n ok dX7_move_89 rfl ?_
      refine z_iload_n ok dX7_move_90 rfl ?_
      refine z_iconst ok dX7_move_91 ?_
      refine z_iload ok dX7_move_92 rfl ?_
      refine z_callVv0 ok (fun l => c_X7_book  (by omega) (by omega)) zm_X7_book zv_X7_book qm_RX7_111 dX7_move_94 (by decide) (by decide) rfl rfl (Nat.le_of_ble_eq_true rfl) (q0 := 0) rfl rfl rfl (fun _ hp94 => ?_)
      refine z_eq (ws' := mW Z q (bk (bk (bk (bk now p 4 ((pk now p 4) + 1)) p 5 ((pk now p 5) + 0)) p 9 1) p 3 (nb now (pk now p 3) d)) kept hist und sav isv pad sg it far many laid sides stuck ord rd pl wr) rfl ?_
      refine z_aload_n ok dX7_move_97 rfl ?_
      refine z_get (v := .ref (q 1)) ok zc7 0 rfl 0 (by decide) qf_RX7_7 rfl rfl dX7_move_98 ?_
      refine z_bipush ok dX7_move_101 (by decide) ?_
      refine z_iconst ok dX7_move_103 ?_
      refine z_iload_n ok dX7_move_104 rfl ?_
      refine z_imul ok dX7_move_105 ?_
      refine z_iadd ok dX7_move_106 ?_
      refine z_iload_n ok dX7_move_107 rfl ?_
      refine z_iadd ok dX7_move_108 ?_
      refine z_dup2 ok dX7_move_109 rfl rfl ?_
      refine z_iald (f := bk (bk (bk (bk now p 4 ((pk now p 4) + 1)) p 5 ((pk now p 5) + 0)) p 9 1) p 3 (nb now (pk now p 3) d)) ok 1 rfl dX7_move_110 (by omega) (by decide) ?_
      refine z_iconst ok dX7_move_111 ?_
      refine z_iadd ok dX7_move_112 ?_
      refine z_iast (f := bk (bk (bk (bk now p 4 ((pk now p 4) + 1)) p 5 ((pk now p 5) + 0)) p 9 1) p 3 (nb now (pk now p 3) d)) (v := ((bk (bk (bk (bk now p 4 ((pk now p 4) + 1)) p 5 ((pk now p 5) + 0)) p 9 1) p 3 (nb now (pk now p 3) d)) ((60 + (4 * (pk now p 3))) + d)) + 1) (ws' := mW Z q (zu (bk (bk (bk (bk now p 4 ((pk now p 4) + 1)) p 5 ((pk now p 5) + 0)) p 9 1) p 3 (nb now (pk now p 3) d)) ((60 + (4 * (pk now p 3))) + d) (((bk (bk (bk (bk now p 4 ((pk now p 4) + 1)) p 5 ((pk now p 5) + 0)) p 9 1) p 3 (nb now (pk now p 3) d)) ((60 + (4 * (pk now p 3))) + d)) + 1)) kept hist und sav isv pad sg it far many laid sides stuck ord rd pl wr) ok 1 rfl dX7_move_113 (by omega) (by decide) rfl ?_
      refine z_iload ok dX7_move_114 rfl ?_
      refine z_iload ok dX7_move_116 rfl ?_
      refine z_icmp_ne (tgt := 141) ok dX7_move_118 (by decide) (by omega) (by omega) (fun c118 => ?_) (fun c118 => ?_)
      · -- t
        refine z_eq (ws' := mW Z q (mvN now p d) kept hist und sav isv pad sg it far many laid sides stuck ord rd pl wr) (by unfold mvN; (first | rw [zb_t c55] | rw [zb_f c55]); (first | rw [if_pos c118, if_pos c72] | rw [if_pos c118, if_neg c72] | rw [if_neg c118, if_pos c72] | rw [if_neg c118, if_neg c72]); rfl) ?_
        exact fin () 141 _ _ _ dX7_move_141 (trivial) (by decide) (by decide)
      · -- f
        refine z_aload_n ok dX7_move_121 rfl ?_
        refine z_iload_n ok dX7_move_122 rfl ?_
        refine z_iconst ok dX7_move_123 ?_
        refine z_iconst ok dX7_move_124 ?_
        refine z_callVv0 ok (fun l => c_X7_book  (by omega) (by omega)) zm_X7_book zv_X7_book qm_RX7_111 dX7_move_125 (by decide) (by decide) rfl rfl (Nat.le_of_ble_eq_true rfl) (q0 := 0) rfl rfl rfl (fun _ hp125 => ?_)
        refine z_eq (ws' := mW Z q (bk (zu (bk (bk (bk (bk now p 4 ((pk now p 4) + 1)) p 5 ((pk now p 5) + 0)) p 9 1) p 3 (nb now (pk now p 3) d)) ((60 + (4 * (pk now p 3))) + d) (((bk (bk (bk (bk now p 4 ((pk now p 4) + 1)) p 5 ((pk now p 5) + 0)) p 9 1) p 3 (nb now (pk now p 3) d)) ((60 + (4 * (pk now p 3))) + d)) + 1)) p 2 2) kept hist und sav isv pad sg it far many laid sides stuck ord rd pl wr) rfl ?_
        refine z_aload_n ok dX7_move_128 rfl ?_
        refine z_iload_n ok dX7_move_129 rfl ?_
        refine z_bipush ok dX7_move_130 (by decide) ?_
        refine z_aload_n ok dX7_move_132 rfl ?_
        refine z_get (v := .ref (q 1)) ok zc7 0 rfl 0 (by decide) qf_RX7_7 rfl rfl dX7_move_133 ?_
        refine z_iconst ok dX7_move_136 ?_
        refine z_iald (f := bk (zu (bk (bk (bk (bk now p 4 ((pk now p 4) + 1)) p 5 ((pk now p 5) + 0)) p 9 1) p 3 (nb now (pk now p 3) d)) ((60 + (4 * (pk now p 3))) + d) (((bk (bk (bk (bk now p 4 ((pk now p 4) + 1)) p 5 ((pk now p 5) + 0)) p 9 1) p 3 (nb now (pk now p 3) d)) ((60 + (4 * (pk now p 3))) + d)) + 1)) p 2 2) ok 1 rfl dX7_move_137 (by omega) (by decide) ?_
        refine z_callVv0 ok (fun l => c_X7_book  (by omega) (by omega)) zm_X7_book zv_X7_book qm_RX7_111 dX7_move_138 (by decide) (by decide) rfl rfl (Nat.le_of_ble_eq_true rfl) (q0 := 0) rfl rfl rfl (fun _ hp138 => ?_)
        refine z_eq (ws' := mW Z q (bk (bk (zu (bk (bk (bk (bk now p 4 ((pk now p 4) + 1)) p 5 ((pk now p 5) + 0)) p 9 1) p 3 (nb now (pk now p 3) d)) ((60 + (4 * (pk now p 3))) + d) (((bk (bk (bk (bk now p 4 ((pk now p 4) + 1)) p 5 ((pk now p 5) + 0)) p 9 1) p 3 (nb now (pk now p 3) d)) ((60 + (4 * (pk now p 3))) + d)) + 1)) p 2 2) p 8 ((bk (zu (bk (bk (bk (bk now p 4 ((pk now p 4) + 1)) p 5 ((pk now p 5) + 0)) p 9 1) p 3 (nb now (pk now p 3) d)) ((60 + (4 * (pk now p 3))) + d) (((bk (bk (bk (bk now p 4 ((pk now p 4) + 1)) p 5 ((pk now p 5) + 0)) p 9 1) p 3 (nb now (pk now p 3) d)) ((60 + (4 * (pk now p 3))) + d)) + 1)) p 2 2) 3)) kept hist und sav isv pad sg it far many laid sides stuck ord rd pl wr) rfl ?_
        refine z_eq (ws' := mW Z q (mvN now p d) kept hist und sav isv pad sg it far many laid sides stuck ord rd pl wr) (by unfold mvN; (first | rw [zb_t c55] | rw [zb_f c55]); (first | rw [if_pos c118, if_pos c72] | rw [if_pos c118, if_neg c72] | rw [if_neg c118, if_pos c72] | rw [if_neg c118, if_neg c72]); rfl) ?_
        exact fin () 141 _ _ _ dX7_move_141 (trivial) (by decide) (by decide)
    · -- f
      refine z_aload_n ok dX7_move_75 rfl ?_
      refine z_iload_n ok dX7_move_76 rfl ?_
      refine z_bipush ok dX7_move_77 (by decide) ?_
      refine z_callVi0 ok (fun l => c_X7_of  (by omega) (by omega)) zm_X7_of zv_X7_of qm_RX7_98 dX7_move_79 (by decide) (by decide) rfl rfl (Nat.le_of_ble_eq_true rfl) (q0 := 0) rfl rfl rfl (fun ρ _ hρ => ?_)
      subst hρ
      refine z_eq (ws' := mW Z q (bk (bk now p 4 ((pk now p 4) + 1)) p 5 ((pk now p 5) + 0)) kept hist und sav isv pad sg it far many laid sides stuck ord rd pl wr) rfl ?_
      rw [pk_bn (by decide), pk_bn (by decide)]
      refine z_goto (tgt := 86) ok dX7_move_82 (by decide) ?_
      refine z_callVv0 ok (fun l => c_X7_book  (by omega) (by omega)) zm_X7_book zv_X7_book qm_RX7_111 dX7_move_86 (by decide) (by decide) rfl rfl (Nat.le_of_ble_eq_true rfl) (q0 := 0) rfl rfl rfl (fun _ hp86 => ?_)
      refine z_eq (ws' := mW Z q (bk (bk (bk now p 4 ((pk now p 4) + 1)) p 5 ((pk now p 5) + 0)) p 9 (pk now p 9)) kept hist und sav isv pad sg it far many laid sides stuck ord rd pl wr) rfl ?_
      refine z_aload_n ok dX7_move_89 rfl ?_
      refine z_iload_n ok dX7_move_90 rfl ?_
      refine z_iconst ok dX7_move_91 ?_
      refine z_iload ok dX7_move_92 rfl ?_
      refine z_callVv0 ok (fun l => c_X7_book  (by omega) (by omega)) zm_X7_book zv_X7_book qm_RX7_111 dX7_move_94 (by decide) (by decide) rfl rfl (Nat.le_of_ble_eq_true rfl) (q0 := 0) rfl rfl rfl (fun _ hp94 => ?_)
      refine z_eq (ws' := mW Z q (bk (bk (bk (bk now p 4 ((pk now p 4) + 1)) p 5 ((pk now p 5) + 0)) p 9 (pk now p 9)) p 3 (nb now (pk now p 3) d)) kept hist und sav isv pad sg it far many laid sides stuck ord rd pl wr) rfl ?_
      refine z_aload_n ok dX7_move_97 rfl ?_
      refine z_get (v := .ref (q 1)) ok zc7 0 rfl 0 (by decide) qf_RX7_7 rfl rfl dX7_move_98 ?_
      refine z_bipush ok dX7_move_101 (by decide) ?_
      refine z_iconst ok dX7_move_103 ?_
      refine z_iload_n ok dX7_move_104 rfl ?_
      refine z_imul ok dX7_move_105 ?_
      refine z_iadd ok dX7_move_106 ?_
      refine z_iload_n ok dX7_move_107 rfl ?_
      refine z_iadd ok dX7_move_108 ?_
      refine z_dup2 ok dX7_move_109 rfl rfl ?_
      refine z_iald (f := bk (bk (bk (bk now p 4 ((pk now p 4) + 1)) p 5 ((pk now p 5) + 0)) p 9 (pk now p 9)) p 3 (nb now (pk now p 3) d)) ok 1 rfl dX7_move_110 (by omega) (by decide) ?_
      refine z_iconst ok dX7_move_111 ?_
      refine z_iadd ok dX7_move_112 ?_
      refine z_iast (f := bk (bk (bk (bk now p 4 ((pk now p 4) + 1)) p 5 ((pk now p 5) + 0)) p 9 (pk now p 9)) p 3 (nb now (pk now p 3) d)) (v := ((bk (bk (bk (bk now p 4 ((pk now p 4) + 1)) p 5 ((pk now p 5) + 0)) p 9 (pk now p 9)) p 3 (nb now (pk now p 3) d)) ((60 + (4 * (pk now p 3))) + d)) + 1) (ws' := mW Z q (zu (bk (bk (bk (bk now p 4 ((pk now p 4) + 1)) p 5 ((pk now p 5) + 0)) p 9 (pk now p 9)) p 3 (nb now (pk now p 3) d)) ((60 + (4 * (pk now p 3))) + d) (((bk (bk (bk (bk now p 4 ((pk now p 4) + 1)) p 5 ((pk now p 5) + 0)) p 9 (pk now p 9)) p 3 (nb now (pk now p 3) d)) ((60 + (4 * (pk now p 3))) + d)) + 1)) kept hist und sav isv pad sg it far many laid sides stuck ord rd pl wr) ok 1 rfl dX7_move_113 (by omega) (by decide) rfl ?_
      refine z_iload ok dX7_move_114 rfl ?_
      refine z_iload ok dX7_move_116 rfl ?_
      refine z_icmp_ne (tgt := 141) ok dX7_move_118 (by decide) (by omega) (by omega) (fun c118 => ?_) (fun c118 => ?_)
      · -- t
        refine z_eq (ws' := mW Z q (mvN now p d) kept hist und sav isv pad sg it far many laid sides stuck ord rd pl wr) (by unfold mvN; (first | rw [zb_t c55] | rw [zb_f c55]); (first | rw [if_pos c118, if_pos c72] | rw [if_pos c118, if_neg c72] | rw [if_neg c118, if_pos c72] | rw [if_neg c118, if_neg c72]); rfl) ?_
        exact fin () 141 _ _ _ dX7_move_141 (trivial) (by decide) (by decide)
      · -- f
        refine z_aload_n ok dX7_move_121 rfl ?_
        refine z_iload_n ok dX7_move_122 rfl ?_
        refine z_iconst ok dX7_move_123 ?_
        refine z_iconst ok dX7_move_124 ?_
        refine z_callVv0 ok (fun l => c_X7_book  (by omega) (by omega)) zm_X7_book zv_X7_book qm_RX7_111 dX7_move_125 (by decide) (by decide) rfl rfl (Nat.le_of_ble_eq_true rfl) (q0 := 0) rfl rfl rfl (fun _ hp125 => ?_)
        refine z_eq (ws' := mW Z q (bk (zu (bk (bk (bk (bk now p 4 ((pk now p 4) + 1)) p 5 ((pk now p 5) + 0)) p 9 (pk now p 9)) p 3 (nb now (pk now p 3) d)) ((60 + (4 * (pk now p 3))) + d) (((bk (bk (bk (bk now p 4 ((pk now p 4) + 1)) p 5 ((pk now p 5) + 0)) p 9 (pk now p 9)) p 3 (nb now (pk now p 3) d)) ((60 + (4 * (pk now p 3))) + d)) + 1)) p 2 2) kept hist und sav isv pad sg it far many laid sides stuck ord rd pl wr) rfl ?_
        refine z_aload_n ok dX7_move_128 rfl ?_
        refine z_iload_n ok dX7_move_129 rfl ?_
        refine z_bipush ok dX7_move_130 (by decide) ?_
        refine z_aload_n ok dX7_move_132 rfl ?_
        refine z_get (v := .ref (q 1)) ok zc7 0 rfl 0 (by decide) qf_RX7_7 rfl rfl dX7_move_133 ?_
        refine z_iconst ok dX7_move_136 ?_
        refine z_iald (f := bk (zu (bk (bk (bk (bk now p 4 ((pk now p 4) + 1)) p 5 ((pk now p 5) + 0)) p 9 (pk now p 9)) p 3 (nb now (pk now p 3) d)) ((60 + (4 * (pk now p 3))) + d) (((bk (bk (bk (bk now p 4 ((pk now p 4) + 1)) p 5 ((pk now p 5) + 0)) p 9 (pk now p 9)) p 3 (nb now (pk now p 3) d)) ((60 + (4 * (pk now p 3))) + d)) + 1)) p 2 2) ok 1 rfl dX7_move_137 (by omega) (by decide) ?_
        refine z_callVv0 ok (fun l => c_X7_book  (by omega) (by omega)) zm_X7_book zv_X7_book qm_RX7_111 dX7_move_138 (by decide) (by decide) rfl rfl (Nat.le_of_ble_eq_true rfl) (q0 := 0) rfl rfl rfl (fun _ hp138 => ?_)
        refine z_eq (ws' := mW Z q (bk (bk (zu (bk (bk (bk (bk now p 4 ((pk now p 4) + 1)) p 5 ((pk now p 5) + 0)) p 9 (pk now p 9)) p 3 (nb now (pk now p 3) d)) ((60 + (4 * (pk now p 3))) + d) (((bk (bk (bk (bk now p 4 ((pk now p 4) + 1)) p 5 ((pk now p 5) + 0)) p 9 (pk now p 9)) p 3 (nb now (pk now p 3) d)) ((60 + (4 * (pk now p 3))) + d)) + 1)) p 2 2) p 8 ((bk (zu (bk (bk (bk (bk now p 4 ((pk now p 4) + 1)) p 5 ((pk now p 5) + 0)) p 9 (pk now p 9)) p 3 (nb now (pk now p 3) d)) ((60 + (4 * (pk now p 3))) + d) (((bk (bk (bk (bk now p 4 ((pk now p 4) + 1)) p 5 ((pk now p 5) + 0)) p 9 (pk now p 9)) p 3 (nb now (pk now p 3) d)) ((60 + (4 * (pk now p 3))) + d)) + 1)) p 2 2) 3)) kept hist und sav isv pad sg it far many laid sides stuck ord rd pl wr) rfl ?_
        refine z_eq (ws' := mW Z q (mvN now p d) kept hist und sav isv pad sg it far many laid sides stuck ord rd pl wr) (by unfold mvN; (first | rw [zb_t c55] | rw [zb_f c55]); (first | rw [if_pos c118, if_pos c72] | rw [if_pos c118, if_neg c72] | rw [if_neg c118, if_pos c72] | rw [if_neg c118, if_neg c72]); rfl) ?_
        exact fin () 141 _ _ _ dX7_move_141 (trivial) (by decide) (by decide)
  · -- f
    refine z_iconst ok dX7_move_58 ?_
    refine z_goto (tgt := 63) ok dX7_move_59 (by decide) ?_
    refine z_iadd ok dX7_move_63 ?_
    refine z_callVv0 ok (fun l => c_X7_book  (by omega) (by omega)) zm_X7_book zv_X7_book qm_RX7_111 dX7_move_64 (by decide) (by decide) rfl rfl (Nat.le_of_ble_eq_true rfl) (q0 := 0) rfl rfl rfl (fun _ hp64 => ?_)
    refine z_eq (ws' := mW Z q (bk (bk now p 4 ((pk now p 4) + 1)) p 5 ((pk now p 5) + 1)) kept hist und sav isv pad sg it far many laid sides stuck ord rd pl wr) rfl ?_
    refine z_aload_n ok dX7_move_67 rfl ?_
    refine z_iload_n ok dX7_move_68 rfl ?_
    refine z_bipush ok dX7_move_69 (by decide) ?_
    refine z_iload_n ok dX7_move_71 rfl ?_
    refine z_if_ne (tgt := 85) ok dX7_move_72 (by decide) (by omega) (fun c72 => ?_) (fun c72 => ?_)
    · -- t
      refine z_iconst ok dX7_move_85 ?_
      refine z_callVv0 ok (fun l => c_X7_book  (by omega) (by omega)) zm_X7_book zv_X7_book qm_RX7_111 dX7_move_86 (by decide) (by decide) rfl rfl (Nat.le_of_ble_eq_true rfl) (q0 := 0) rfl rfl rfl (fun _ hp86 => ?_)
      refine z_eq (ws' := mW Z q (bk (bk (bk now p 4 ((pk now p 4) + 1)) p 5 ((pk now p 5) + 1)) p 9 1) kept hist und sav isv pad sg it far many laid sides stuck ord rd pl wr) rfl ?_
      refine z_aload_n ok dX7_move_89 rfl ?_
      refine z_iload_n ok dX7_move_90 rfl ?_
      refine z_iconst ok dX7_move_91 ?_
      refine z_iload ok dX7_move_92 rfl ?_
      refine z_callVv0 ok (fun l => c_X7_book  (by omega) (by omega)) zm_X7_book zv_X7_book qm_RX7_111 dX7_move_94 (by decide) (by decide) rfl rfl (Nat.le_of_ble_eq_true rfl) (q0 := 0) rfl rfl rfl (fun _ hp94 => ?_)
      refine z_eq (ws' := mW Z q (bk (bk (bk (bk now p 4 ((pk now p 4) + 1)) p 5 ((pk now p 5) + 1)) p 9 1) p 3 (nb now (pk now p 3) d)) kept hist und sav isv pad sg it far many laid sides stuck ord rd pl wr) rfl ?_
      refine z_aload_n ok dX7_move_97 rfl ?_
      refine z_get (v := .ref (q 1)) ok zc7 0 rfl 0 (by decide) qf_RX7_7 rfl rfl dX7_move_98 ?_
      refine z_bipush ok dX7_move_101 (by decide) ?_
      refine z_iconst ok dX7_move_103 ?_
      refine z_iload_n ok dX7_move_104 rfl ?_
      refine z_imul ok dX7_move_105 ?_
      refine z_iadd ok dX7_move_106 ?_
      refine z_iload_n ok dX7_move_107 rfl ?_
      refine z_iadd ok dX7_move_108 ?_
      refine z_dup2 ok dX7_move_109 rfl rfl ?_
      refine z_iald (f := bk (bk (bk (bk now p 4 ((pk now p 4) + 1)) p 5 ((pk now p 5) + 1)) p 9 1) p 3 (nb now (pk now p 3) d)) ok 1 rfl dX7_move_110 (by omega) (by decide) ?_
      refine z_iconst ok dX7_move_111 ?_
      refine z_iadd ok dX7_move_112 ?_
      refine z_iast (f := bk (bk (bk (bk now p 4 ((pk now p 4) + 1)) p 5 ((pk now p 5) + 1)) p 9 1) p 3 (nb now (pk now p 3) d)) (v := ((bk (bk (bk (bk now p 4 ((pk now p 4) + 1)) p 5 ((pk now p 5) + 1)) p 9 1) p 3 (nb now (pk now p 3) d)) ((60 + (4 * (pk now p 3))) + d)) + 1) (ws' := mW Z q (zu (bk (bk (bk (bk now p 4 ((pk now p 4) + 1)) p 5 ((pk now p 5) + 1)) p 9 1) p 3 (nb now (pk now p 3) d)) ((60 + (4 * (pk now p 3))) + d) (((bk (bk (bk (bk now p 4 ((pk now p 4) + 1)) p 5 ((pk now p 5) + 1)) p 9 1) p 3 (nb now (pk now p 3) d)) ((60 + (4 * (pk now p 3))) + d)) + 1)) kept hist und sav isv pad sg it far many laid sides stuck ord rd pl wr) ok 1 rfl dX7_move_113 (by omega) (by decide) rfl ?_
      refine z_iload ok dX7_move_114 rfl ?_
      refine z_iload ok dX7_move_116 rfl ?_
      refine z_icmp_ne (tgt := 141) ok dX7_move_118 (by decide) (by omega) (by omega) (fun c118 => ?_) (fun c118 => ?_)
      · -- t
        refine z_eq (ws' := mW Z q (mvN now p d) kept hist und sav isv pad sg it far many laid sides stuck ord rd pl wr) (by unfold mvN; (first | rw [zb_t c55] | rw [zb_f c55]); (first | rw [if_pos c118, if_pos c72] | rw [if_pos c118, if_neg c72] | rw [if_neg c118, if_pos c72] | rw [if_neg c118, if_neg c72]); rfl) ?_
        exact fin () 141 _ _ _ dX7_move_141 (trivial) (by decide) (by decide)
      · -- f
        refine z_aload_n ok dX7_move_121 rfl ?_
        refine z_iload_n ok dX7_move_122 rfl ?_
        refine z_iconst ok dX7_move_123 ?_
        refine z_iconst ok dX7_move_124 ?_
        refine z_callVv0 ok (fun l => c_X7_book  (by omega) (by omega)) zm_X7_book zv_X7_book qm_RX7_111 dX7_move_125 (by decide) (by decide) rfl rfl (Nat.le_of_ble_eq_true rfl) (q0 := 0) rfl rfl rfl (fun _ hp125 => ?_)
        refine z_eq (ws' := mW Z q (bk (zu (bk (bk (bk (bk now p 4 ((pk now p 4) + 1)) p 5 ((pk now p 5) + 1)) p 9 1) p 3 (nb now (pk now p 3) d)) ((60 + (4 * (pk now p 3))) + d) (((bk (bk (bk (bk now p 4 ((pk now p 4) + 1)) p 5 ((pk now p 5) + 1)) p 9 1) p 3 (nb now (pk now p 3) d)) ((60 + (4 * (pk now p 3))) + d)) + 1)) p 2 2) kept hist und sav isv pad sg it far many laid sides stuck ord rd pl wr) rfl ?_
        refine z_aload_n ok dX7_move_128 rfl ?_
        refine z_iload_n ok dX7_move_129 rfl ?_
        refine z_bipush ok dX7_move_130 (by decide) ?_
        refine z_aload_n ok dX7_move_132 rfl ?_
        refine z_get (v := .ref (q 1)) ok zc7 0 rfl 0 (by decide) qf_RX7_7 rfl rfl dX7_move_133 ?_
        refine z_iconst ok dX7_move_136 ?_
        refine z_iald (f := bk (zu (bk (bk (bk (bk now p 4 ((pk now p 4) + 1)) p 5 ((pk now p 5) + 1)) p 9 1) p 3 (nb now (pk now p 3) d)) ((60 + (4 * (pk now p 3))) + d) (((bk (bk (bk (bk now p 4 ((pk now p 4) + 1)) p 5 ((pk now p 5) + 1)) p 9 1) p 3 (nb now (pk now p 3) d)) ((60 + (4 * (pk now p 3))) + d)) + 1)) p 2 2) ok 1 rfl dX7_move_137 (by omega) (by decide) ?_
        refine z_callVv0 ok (fun l => c_X7_book  (by omega) (by omega)) zm_X7_book zv_X7_book qm_RX7_111 dX7_move_138 (by decide) (by decide) rfl rfl (Nat.le_of_ble_eq_true rfl) (q0 := 0) rfl rfl rfl (fun _ hp138 => ?_)
        refine z_eq (ws' := mW Z q (bk (bk (zu (bk (bk (bk (bk now p 4 ((pk now p 4) + 1)) p 5 ((pk now p 5) + 1)) p 9 1) p 3 (nb now (pk now p 3) d)) ((60 + (4 * (pk now p 3))) + d) (((bk (bk (bk (bk now p 4 ((pk now p 4) + 1)) p 5 ((pk now p 5) + 1)) p 9 1) p 3 (nb now (pk now p 3) d)) ((60 + (4 * (pk now p 3))) + d)) + 1)) p 2 2) p 8 ((bk (zu (bk (bk (bk (bk now p 4 ((pk now p 4) + 1)) p 5 ((pk now p 5) + 1)) p 9 1) p 3 (nb now (pk now p 3) d)) ((60 + (4 * (pk now p 3))) + d) (((bk (bk (bk (bk now p 4 ((pk now p 4) + 1)) p 5 ((pk now p 5) + 1)) p 9 1) p 3 (nb now (pk now p 3) d)) ((60 + (4 * (pk now p 3))) + d)) + 1)) p 2 2) 3)) kept hist und sav isv pad sg it far many laid sides stuck ord rd pl wr) rfl ?_
        refine z_eq (ws' := mW Z q (mvN now p d) kept hist und sav isv pad sg it far many laid sides stuck ord rd pl wr) (by unfold mvN; (first | rw [zb_t c55] | rw [zb_f c55]); (first | rw [if_pos c118, if_pos c72] | rw [if_pos c118, if_neg c72] | rw [if_neg c118, if_pos c72] | rw [if_neg c118, if_neg c72]); rfl) ?_
        exact fin () 141 _ _ _ dX7_move_141 (trivial) (by decide) (by decide)
    · -- f
      refine z_aload_n ok dX7_move_75 rfl ?_
      refine z_iload_n ok dX7_move_76 rfl ?_
      refine z_bipush ok dX7_move_77 (by decide) ?_
      refine z_callVi0 ok (fun l => c_X7_of  (by omega) (by omega)) zm_X7_of zv_X7_of qm_RX7_98 dX7_move_79 (by decide) (by decide) rfl rfl (Nat.le_of_ble_eq_true rfl) (q0 := 0) rfl rfl rfl (fun ρ _ hρ => ?_)
      subst hρ
      refine z_eq (ws' := mW Z q (bk (bk now p 4 ((pk now p 4) + 1)) p 5 ((pk now p 5) + 1)) kept hist und sav isv pad sg it far many laid sides stuck ord rd pl wr) rfl ?_
      rw [pk_bn (by decide), pk_bn (by decide)]
      refine z_goto (tgt := 86) ok dX7_move_82 (by decide) ?_
      refine z_callVv0 ok (fun l => c_X7_book  (by omega) (by omega)) zm_X7_book zv_X7_book qm_RX7_111 dX7_move_86 (by decide) (by decide) rfl rfl (Nat.le_of_ble_eq_true rfl) (q0 := 0) rfl rfl rfl (fun _ hp86 => ?_)
      refine z_eq (ws' := mW Z q (bk (bk (bk now p 4 ((pk now p 4) + 1)) p 5 ((pk now p 5) + 1)) p 9 (pk now p 9)) kept hist und sav isv pad sg it far many laid sides stuck ord rd pl wr) rfl ?_
      refine z_aload_n ok dX7_move_89 rfl ?_
      refine z_iload_n ok dX7_move_90 rfl ?_
      refine z_iconst ok dX7_move_91 ?_
      refine z_iload ok dX7_move_92 rfl ?_
      refine z_callVv0 ok (fun l => c_X7_book  (by omega) (by omega)) zm_X7_book zv_X7_book qm_RX7_111 dX7_move_94 (by decide) (by decide) rfl rfl (Nat.le_of_ble_eq_true rfl) (q0 := 0) rfl rfl rfl (fun _ hp94 => ?_)
      refine z_eq (ws' := mW Z q (bk (bk (bk (bk now p 4 ((pk now p 4) + 1)) p 5 ((pk now p 5) + 1)) p 9 (pk now p 9)) p 3 (nb now (pk now p 3) d)) kept hist und sav isv pad sg it far many laid sides stuck ord rd pl wr) rfl ?_
      refine z_aload_n ok dX7_move_97 rfl ?_
      refine z_get (v := .ref (q 1)) ok zc7 0 rfl 0 (by decide) qf_RX7_7 rfl rfl dX7_move_98 ?_
      refine z_bipush ok dX7_move_101 (by decide) ?_
      refine z_iconst ok dX7_move_103 ?_
      refine z_iload_n ok dX7_move_104 rfl ?_
      refine z_imul ok dX7_move_105 ?_
      refine z_iadd ok dX7_move_106 ?_
      refine z_iload_n ok dX7_move_107 rfl ?_
      refine z_iadd ok dX7_move_108 ?_
      refine z_dup2 ok dX7_move_109 rfl rfl ?_
      refine z_iald (f := bk (bk (bk (bk now p 4 ((pk now p 4) + 1)) p 5 ((pk now p 5) + 1)) p 9 (pk now p 9)) p 3 (nb now (pk now p 3) d)) ok 1 rfl dX7_move_110 (by omega) (by decide) ?_
      refine z_iconst ok dX7_move_111 ?_
      refine z_iadd ok dX7_move_112 ?_
      refine z_iast (f := bk (bk (bk (bk now p 4 ((pk now p 4) + 1)) p 5 ((pk now p 5) + 1)) p 9 (pk now p 9)) p 3 (nb now (pk now p 3) d)) (v := ((bk (bk (bk (bk now p 4 ((pk now p 4) + 1)) p 5 ((pk now p 5) + 1)) p 9 (pk now p 9)) p 3 (nb now (pk now p 3) d)) ((60 + (4 * (pk now p 3))) + d)) + 1) (ws' := mW Z q (zu (bk (bk (bk (bk now p 4 ((pk now p 4) + 1)) p 5 ((pk now p 5) + 1)) p 9 (pk now p 9)) p 3 (nb now (pk now p 3) d)) ((60 + (4 * (pk now p 3))) + d) (((bk (bk (bk (bk now p 4 ((pk now p 4) + 1)) p 5 ((pk now p 5) + 1)) p 9 (pk now p 9)) p 3 (nb now (pk now p 3) d)) ((60 + (4 * (pk now p 3))) + d)) + 1)) kept hist und sav isv pad sg it far many laid sides stuck ord rd pl wr) ok 1 rfl dX7_move_113 (by omega) (by decide) rfl ?_
      refine z_iload ok dX7_move_114 rfl ?_
      refine z_iload ok dX7_move_116 rfl ?_
      refine z_icmp_ne (tgt := 141) ok dX7_move_118 (by decide) (by omega) (by omega) (fun c118 => ?_) (fun c118 => ?_)
      · -- t
        refine z_eq (ws' := mW Z q (mvN now p d) kept hist und sav isv pad sg it far many laid sides stuck ord rd pl wr) (by unfold mvN; (first | rw [zb_t c55] | rw [zb_f c55]); (first | rw [if_pos c118, if_pos c72] | rw [if_pos c118, if_neg c72] | rw [if_neg c118, if_pos c72] | rw [if_neg c118, if_neg c72]); rfl) ?_
        exact fin () 141 _ _ _ dX7_move_141 (trivial) (by decide) (by decide)
      · -- f
        refine z_aload_n ok dX7_move_121 rfl ?_
        refine z_iload_n ok dX7_move_122 rfl ?_
        refine z_iconst ok dX7_move_123 ?_
        refine z_iconst ok dX7_move_124 ?_
        refine z_callVv0 ok (fun l => c_X7_book  (by omega) (by omega)) zm_X7_book zv_X7_book qm_RX7_111 dX7_move_125 (by decide) (by decide) rfl rfl (Nat.le_of_ble_eq_true rfl) (q0 := 0) rfl rfl rfl (fun _ hp125 => ?_)
        refine z_eq (ws' := mW Z q (bk (zu (bk (bk (bk (bk now p 4 ((pk now p 4) + 1)) p 5 ((pk now p 5) + 1)) p 9 (pk now p 9)) p 3 (nb now (pk now p 3) d)) ((60 + (4 * (pk now p 3))) + d) (((bk (bk (bk (bk now p 4 ((pk now p 4) + 1)) p 5 ((pk now p 5) + 1)) p 9 (pk now p 9)) p 3 (nb now (pk now p 3) d)) ((60 + (4 * (pk now p 3))) + d)) + 1)) p 2 2) kept hist und sav isv pad sg it far many laid sides stuck ord rd pl wr) rfl ?_
        refine z_aload_n ok dX7_move_128 rfl ?_
        refine z_iload_n ok dX7_move_129 rfl ?_
        refine z_bipush ok dX7_move_130 (by decide) ?_
        refine z_aload_n ok dX7_move_132 rfl ?_
        refine z_get (v := .ref (q 1)) ok zc7 0 rfl 0 (by decide) qf_RX7_7 rfl rfl dX7_move_133 ?_
        refine z_iconst ok dX7_move_136 ?_
        refine z_iald (f := bk (zu (bk (bk (bk (bk now p 4 ((pk now p 4) + 1)) p 5 ((pk now p 5) + 1)) p 9 (pk now p 9)) p 3 (nb now (pk now p 3) d)) ((60 + (4 * (pk now p 3))) + d) (((bk (bk (bk (bk now p 4 ((pk now p 4) + 1)) p 5 ((pk now p 5) + 1)) p 9 (pk now p 9)) p 3 (nb now (pk now p 3) d)) ((60 + (4 * (pk now p 3))) + d)) + 1)) p 2 2) ok 1 rfl dX7_move_137 (by omega) (by decide) ?_
        refine z_callVv0 ok (fun l => c_X7_book  (by omega) (by omega)) zm_X7_book zv_X7_book qm_RX7_111 dX7_move_138 (by decide) (by decide) rfl rfl (Nat.le_of_ble_eq_true rfl) (q0 := 0) rfl rfl rfl (fun _ hp138 => ?_)
        refine z_eq (ws' := mW Z q (bk (bk (zu (bk (bk (bk (bk now p 4 ((pk now p 4) + 1)) p 5 ((pk now p 5) + 1)) p 9 (pk now p 9)) p 3 (nb now (pk now p 3) d)) ((60 + (4 * (pk now p 3))) + d) (((bk (bk (bk (bk now p 4 ((pk now p 4) + 1)) p 5 ((pk now p 5) + 1)) p 9 (pk now p 9)) p 3 (nb now (pk now p 3) d)) ((60 + (4 * (pk now p 3))) + d)) + 1)) p 2 2) p 8 ((bk (zu (bk (bk (bk (bk now p 4 ((pk now p 4) + 1)) p 5 ((pk now p 5) + 1)) p 9 (pk now p 9)) p 3 (nb now (pk now p 3) d)) ((60 + (4 * (pk now p 3))) + d) (((bk (bk (bk (bk now p 4 ((pk now p 4) + 1)) p 5 ((pk now p 5) + 1)) p 9 (pk now p 9)) p 3 (nb now (pk now p 3) d)) ((60 + (4 * (pk now p 3))) + d)) + 1)) p 2 2) 3)) kept hist und sav isv pad sg it far many laid sides stuck ord rd pl wr) rfl ?_
        refine z_eq (ws' := mW Z q (mvN now p d) kept hist und sav isv pad sg it far many laid sides stuck ord rd pl wr) (by unfold mvN; (first | rw [zb_t c55] | rw [zb_f c55]); (first | rw [if_pos c118, if_pos c72] | rw [if_pos c118, if_neg c72] | rw [if_neg c118, if_pos c72] | rw [if_neg c118, if_neg c72]); rfl) ?_
        exact fin () 141 _ _ _ dX7_move_141 (trivial) (by decide) (by decide)
