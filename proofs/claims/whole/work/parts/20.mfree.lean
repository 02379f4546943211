set_option maxRecDepth 20000 in
theorem c_X7_isFree {l : Launch} {Z : zZ} {q : Nat → Nat} {now kept hist : Int → Int} {und : Int} {sav isv pad : Int → Int} {sg it : Int} {far many laid sides stuck ord : Int → Int} {rd pl wr : Int} {p : Int} (hw : wf now) (hp : 0 ≤ p ∧ p < now 6) (hsk : ∀ x : Int, 0 ≤ x → x < 40 → stuck x = 0 ∨ stuck x = 1) (hca : cacheOK now laid far many) : zI (T := (Int → Int) × (Int → Int) × (Int → Int) × (Int → Int)) l yX7_isFree (Cond.code yX7_isFree cX7_isFree 7 (some .boolean) :: wsL_law) ({ frames := 8, cells := 0, slots := 0, locals := 198 } : Room) Z [.ref (q 0), .int (iI p)] (mW Z q now kept hist und sav isv pad sg it far many laid sides stuck ord rd pl wr) (fun u => mW Z q now kept hist und sav isv pad sg it u.2.1 u.2.2.1 u.2.2.2 u.1 stuck ord rd pl wr) (fun ρ u => ρ = zb (free now (stS now stuck) p) ∧ cacheOK now u.2.2.2 u.2.1 u.2.2.1) := by
  refine zI_of (C := RX7) (by decide +kernel) rfl (Nat.le_of_ble_eq_true rfl) (fun ρ => ρ = 0 ∨ ρ = 1) znZ (fun X ok fin => ?_)
  obtain ⟨w0, w1, w2, hc, hr, w6, wl, wp⟩ := id hw
  have hcr := cr_rng hc hr
  have wpp := wp p hp.1 hp.2
  have hst := stg_rng hw hp
  refine z_lsub ok (lv' := [(0, .ref (q 0)), (1, .int (iI p))]) [0, 1] rfl ?_
  refine z_aload_n ok dX7_isFree_0 rfl ?_
  refine z_iload_n ok dX7_isFree_1 rfl ?_
  refine z_callVi0 ok (fun l => c_X7_laySides  (hw) (hp) (hca)) zm_X7_laySides zv_X7_laySides qm_RX7_115 dX7_isFree_2 (by decide) (by decide) rfl rfl (Nat.le_of_ble_eq_true rfl) (q0 := 0) rfl rfl rfl (fun r2 u2 hp2 => ?_)
  obtain ⟨sides_2, far_2, many_2, laid_2⟩ := u2
  try dsimp only at hp2
  obtain ⟨hs2, hc2⟩ := hp2
  refine z_eq (ws' := mW Z q now kept hist und sav isv pad sg it far_2 many_2 laid_2 sides_2 stuck ord rd pl wr) rfl ?_
  refine z_istore_n (lv' := [(2, .int (iI r2)), (0, .ref (q 0)), (1, .int (iI p))]) ok dX7_isFree_5 (by decide) rfl ?_
  have hr2 := hs2.1
  have hr4 := hs2.2.1
  refine z_iconst ok dX7_isFree_6 ?_
  refine z_istore_n (lv' := [(3, .int (iI 0)), (2, .int (iI r2)), (0, .ref (q 0)), (1, .int (iI p))]) ok dX7_isFree_7 (by decide) rfl ?_
  refine z_iconst ok dX7_isFree_8 ?_
  refine z_istore (lv' := [(4, .int (iI 0)), (3, .int (iI 0)), (2, .int (iI r2)), (0, .ref (q 0)), (1, .int (iI p))]) ok dX7_isFree_9 (by decide) rfl ?_
  have L11 : ∀ (fuel : Nat) (k fv : Int), (0 ≤ k) → (k ≤ r2) → ((fv = 1 ∧ ∃ j : Int, 0 ≤ j ∧ j < r2 ∧ frq now (stS now stuck) p (sides_2 j)) ∨ (fv = 0 ∧ ∀ j : Int, 0 ≤ j → j < k → ¬ frq now (stS now stuck) p (sides_2 j))) → (r2 - k).toNat < fuel → zV X 0 0 (mW Z q now kept hist und sav isv pad sg it far_2 many_2 laid_2 sides_2 stuck ord rd pl wr) 11 [(0, .ref (q 0)), (1, .int (iI p)), (2, .int (iI r2)), (3, .int (iI fv)), (4, .int (iI k))] [] := by
    intro fuel
    induction fuel with
    | zero => intro k fv h11_0 h11_1 h11_2 hf; exact absurd hf (Nat.not_lt_zero _)
    | succ fuel ih11 =>
      intro k fv h11_0 h11_1 h11_2 hf
      have hfv : fv = 0 ∨ fv = 1 := by omega
      refine z_iload ok dX7_isFree_11 rfl ?_
      refine z_iload_n ok dX7_isFree_13 rfl ?_
      refine z_icmp_ge (tgt := 136) ok dX7_isFree_14 (by decide) (by omega) (by omega) (fun c14 => ?_) (fun c14 => ?_)
      · -- t
        refine z_iload_n ok dX7_isFree_136 rfl ?_
        exact fin fv (sides_2, far_2, many_2, laid_2) 137 _ _ _ dX7_isFree_137 (by omega) (⟨isfree_end hs2 h11_2 (by omega) hfv, hc2⟩) (by decide) (by decide)
      · -- f
        refine z_iload_n ok dX7_isFree_17 rfl ?_
        refine z_if_ne (tgt := 136) ok dX7_isFree_18 (by decide) (by omega) (fun c18 => ?_) (fun c18 => ?_)
        · -- t
          refine z_iload_n ok dX7_isFree_136 rfl ?_
          exact fin fv (sides_2, far_2, many_2, laid_2) 137 _ _ _ dX7_isFree_137 (by omega) (⟨isfree_end hs2 h11_2 (by omega) hfv, hc2⟩) (by decide) (by decide)
        · -- f
          have h11b := h11_2.resolve_left (fun z => by omega)
          have n3k := hs2.2.2.1 k (by omega) (by omega)
          have hnb := pss_nb hw hp ⟨by omega, by omega⟩ n3k.2.2
          refine z_aload_n ok dX7_isFree_21 rfl ?_
          refine z_aload_n ok dX7_isFree_22 rfl ?_
          refine z_iload_n ok dX7_isFree_23 rfl ?_
          refine z_iconst ok dX7_isFree_24 ?_
          refine z_callVi0 ok (fun l => c_X7_of  (by omega) (by omega)) zm_X7_of zv_X7_of qm_RX7_98 dX7_isFree_25 (by decide) (by decide) rfl rfl (Nat.le_of_ble_eq_true rfl) (q0 := 0) rfl rfl rfl (fun ρ _ hρ => ?_)
          subst hρ
          refine z_eq (ws' := mW Z q now kept hist und sav isv pad sg it far_2 many_2 laid_2 sides_2 stuck ord rd pl wr) rfl ?_
          refine z_aload_n ok dX7_isFree_28 rfl ?_
          refine z_get (v := .ref (q 10)) ok zc7 0 rfl 12 (by decide) qf_RX7_38 rfl rfl dX7_isFree_29 ?_
          refine z_iload ok dX7_isFree_32 rfl ?_
          refine z_iald (f := sides_2) ok 10 rfl dX7_isFree_34 (by omega) (by decide) ?_
          refine z_callVi0 ok (fun l => c_X7_beside  (by omega) (by omega) (by omega) (by omega)) zm_X7_beside zv_X7_beside qm_RX7_63 dX7_isFree_35 (by decide) (by decide) rfl rfl (Nat.le_of_ble_eq_true rfl) (q0 := 0) rfl rfl rfl (fun ρ _ hρ => ?_)
          subst hρ
          refine z_eq (ws' := mW Z q now kept hist und sav isv pad sg it far_2 many_2 laid_2 sides_2 stuck ord rd pl wr) rfl ?_
          rw [nbm_nn hnb.1]
          refine z_istore (lv' := [(5, .int (iI (nb now (pk now p 3) (sides_2 k)))), (0, .ref (q 0)), (1, .int (iI p)), (2, .int (iI r2)), (3, .int (iI fv)), (4, .int (iI k))]) ok dX7_isFree_38 (by decide) rfl ?_
          refine z_iload ok dX7_isFree_40 rfl ?_
          refine z_aload_n ok dX7_isFree_42 rfl ?_
          refine z_iload_n ok dX7_isFree_43 rfl ?_
          refine z_iconst ok dX7_isFree_44 ?_
          refine z_callVi0 ok (fun l => c_X7_of  (by omega) (by omega)) zm_X7_of zv_X7_of qm_RX7_98 dX7_isFree_45 (by decide) (by decide) rfl rfl (Nat.le_of_ble_eq_true rfl) (q0 := 0) rfl rfl rfl (fun ρ _ hρ => ?_)
          subst hρ
          refine z_eq (ws' := mW Z q now kept hist und sav isv pad sg it far_2 many_2 laid_2 sides_2 stuck ord rd pl wr) rfl ?_
          refine z_icmp_eq (tgt := 60) ok dX7_isFree_48 (by decide) (by omega) (by omega) (fun c48 => ?_) (fun c48 => ?_)
          · -- t
            refine z_iconst ok dX7_isFree_60 ?_
            refine z_goto (tgt := 65) ok dX7_isFree_61 (by decide) ?_
            refine z_istore_n (lv' := [(3, .int (iI 1)), (5, .int (iI (nb now (pk now p 3) (sides_2 k)))), (0, .ref (q 0)), (1, .int (iI p)), (2, .int (iI r2)), (4, .int (iI k))]) ok dX7_isFree_65 (by decide) rfl ?_
            refine z_iconst ok dX7_isFree_66 ?_
            refine z_istore (lv' := [(6, .int (iI 0)), (3, .int (iI 1)), (5, .int (iI (nb now (pk now p 3) (sides_2 k)))), (0, .ref (q 0)), (1, .int (iI p)), (2, .int (iI r2)), (4, .int (iI k))]) ok dX7_isFree_67 (by decide) rfl ?_
            have L69 : ∀ (fuel : Nat) (i fi : Int), (0 ≤ i) → (i ≤ now 6) → ((fi = 1 ∧ frq now (stS now stuck) p (sides_2 k)) ∨ (fi = 0 ∧ ¬ rmP now p (sides_2 k) ∧ ∀ j : Int, 0 ≤ j → j < i → ¬ (pk now j 2 = 1 ∧ pk now j 3 = nb now (pk now p 3) (sides_2 k) ∧ ¬ stuck j = 1))) → (now 6 - i).toNat < fuel → zV X 0 0 (mW Z q now kept hist und sav isv pad sg it far_2 many_2 laid_2 sides_2 stuck ord rd pl wr) 69 [(0, .ref (q 0)), (1, .int (iI p)), (2, .int (iI r2)), (3, .int (iI fi)), (4, .int (iI k)), (5, .int (iI (nb now (pk now p 3) (sides_2 k)))), (6, .int (iI i))] [] := by
              intro fuel
              induction fuel with
              | zero => intro i fi h69_0 h69_1 h69_2 hf; exact absurd hf (Nat.not_lt_zero _)
              | succ fuel ih69 =>
                intro i fi h69_0 h69_1 h69_2 hf
                have hfi : fi = 0 ∨ fi = 1 := by omega
                refine z_iload ok dX7_isFree_69 rfl ?_
                refine z_aload_n ok dX7_isFree_71 rfl ?_
                refine z_get (v := .ref (q 1)) ok zc7 0 rfl 0 (by decide) qf_RX7_7 rfl rfl dX7_isFree_72 ?_
                refine z_bipush ok dX7_isFree_75 (by decide) ?_
                refine z_iald (f := now) ok 1 rfl dX7_isFree_77 (by omega) (by decide) ?_
                refine z_icmp_ge (tgt := 130) ok dX7_isFree_78 (by decide) (by omega) (by omega) (fun c78 => ?_) (fun c78 => ?_)
                · -- t
                  refine z_iinc (lv' := [(4, .int (iI (k + 1))), (0, .ref (q 0)), (1, .int (iI p)), (2, .int (iI r2)), (3, .int (iI fi)), (5, .int (iI (nb now (pk now p 3) (sides_2 k)))), (6, .int (iI i))]) ok dX7_isFree_130 4 rfl (by decide) rfl ?_
                  refine z_goto (tgt := 11) ok dX7_isFree_133 (by decide) ?_
                  refine z_lsub ok (lv' := [(0, .ref (q 0)), (1, .int (iI p)), (2, .int (iI r2)), (3, .int (iI fi)), (4, .int (iI (k + 1)))]) [1, 2, 3, 4, 0] rfl ?_
                  exact ih11 _ _ (by omega) (by omega) (h69_2.elim (fun z => Or.inl ⟨z.1, k, by omega, by omega, z.2⟩) (fun z => Or.inr ⟨z.1, zall h11b.2 (fun y => y.elim z.2.1 (fun ⟨x, a, b, c, e, g⟩ => z.2.2 x a (by have := z.1; omega) ⟨c, e, fun w => g ⟨a, b, w⟩⟩))⟩)) (by omega)
                · -- f
                  refine z_iload_n ok dX7_isFree_81 rfl ?_
                  refine z_if_ne (tgt := 130) ok dX7_isFree_82 (by decide) (by omega) (fun c82 => ?_) (fun c82 => ?_)
                  · -- t
                    refine z_iinc (lv' := [(4, .int (iI (k + 1))), (0, .ref (q 0)), (1, .int (iI p)), (2, .int (iI r2)), (3, .int (iI fi)), (5, .int (iI (nb now (pk now p 3) (sides_2 k)))), (6, .int (iI i))]) ok dX7_isFree_130 4 rfl (by decide) rfl ?_
                    refine z_goto (tgt := 11) ok dX7_isFree_133 (by decide) ?_
                    refine z_lsub ok (lv' := [(0, .ref (q 0)), (1, .int (iI p)), (2, .int (iI r2)), (3, .int (iI fi)), (4, .int (iI (k + 1)))]) [1, 2, 3, 4, 0] rfl ?_
                    exact ih11 _ _ (by omega) (by omega) (h69_2.elim (fun z => Or.inl ⟨z.1, k, by omega, by omega, z.2⟩) (fun z => Or.inr ⟨z.1, zall h11b.2 (fun y => y.elim z.2.1 (fun ⟨x, a, b, c, e, g⟩ => z.2.2 x a (by have := z.1; omega) ⟨c, e, fun w => g ⟨a, b, w⟩⟩))⟩)) (by omega)
                  · -- f
                    have h69b := h69_2.resolve_left (fun z => by omega)
                    have wpi := wp i (by omega) (by omega)
                    refine z_aload_n ok dX7_isFree_85 rfl ?_
                    refine z_iload ok dX7_isFree_86 rfl ?_
                    refine z_iconst ok dX7_isFree_88 ?_
                    refine z_callVi0 ok (fun l => c_X7_of  (by omega) (by omega)) zm_X7_of zv_X7_of qm_RX7_98 dX7_isFree_89 (by decide) (by decide) rfl rfl (Nat.le_of_ble_eq_true rfl) (q0 := 0) rfl rfl rfl (fun ρ _ hρ => ?_)
                    subst hρ
                    refine z_eq (ws' := mW Z q now kept hist und sav isv pad sg it far_2 many_2 laid_2 sides_2 stuck ord rd pl wr) rfl ?_
                    refine z_iconst ok dX7_isFree_92 ?_
                    refine z_icmp_ne (tgt := 122) ok dX7_isFree_93 (by decide) (by omega) (by omega) (fun c93 => ?_) (fun c93 => ?_)
                    · -- t
                      refine z_iconst ok dX7_isFree_122 ?_
                      refine z_istore_n (lv' := [(3, .int (iI 0)), (0, .ref (q 0)), (1, .int (iI p)), (2, .int (iI r2)), (4, .int (iI k)), (5, .int (iI (nb now (pk now p 3) (sides_2 k)))), (6, .int (iI i))]) ok dX7_isFree_123 (by decide) rfl ?_
                      refine z_iinc (lv' := [(6, .int (iI (i + 1))), (3, .int (iI 0)), (0, .ref (q 0)), (1, .int (iI p)), (2, .int (iI r2)), (4, .int (iI k)), (5, .int (iI (nb now (pk now p 3) (sides_2 k))))]) ok dX7_isFree_124 6 rfl (by decide) rfl ?_
                      refine z_goto (tgt := 69) ok dX7_isFree_127 (by decide) ?_
                      refine z_lsub ok (lv' := [(0, .ref (q 0)), (1, .int (iI p)), (2, .int (iI r2)), (3, .int (iI 0)), (4, .int (iI k)), (5, .int (iI (nb now (pk now p 3) (sides_2 k)))), (6, .int (iI (i + 1)))]) [2, 3, 4, 1, 5, 6, 0] rfl ?_
                      exact ih69 _ _ (by omega) (by omega) (by first | exact Or.inl ⟨rfl, Or.inr ⟨i, by omega, by omega, c93, c105, fun z => by have := z.2.2; omega⟩⟩ | exact Or.inr ⟨rfl, h69b.2.1, zall h69b.2.2 (fun z => by first | exact c93 z.1 | exact c105 z.2.1 | (have := z.2.2; omega))⟩) (by omega)
                    · -- f
                      refine z_aload_n ok dX7_isFree_96 rfl ?_
                      refine z_iload ok dX7_isFree_97 rfl ?_
                      refine z_iconst ok dX7_isFree_99 ?_
                      refine z_callVi0 ok (fun l => c_X7_of  (by omega) (by omega)) zm_X7_of zv_X7_of qm_RX7_98 dX7_isFree_100 (by decide) (by decide) rfl rfl (Nat.le_of_ble_eq_true rfl) (q0 := 0) rfl rfl rfl (fun ρ _ hρ => ?_)
                      subst hρ
                      refine z_eq (ws' := mW Z q now kept hist und sav isv pad sg it far_2 many_2 laid_2 sides_2 stuck ord rd pl wr) rfl ?_
                      refine z_iload ok dX7_isFree_103 rfl ?_
                      refine z_icmp_ne (tgt := 122) ok dX7_isFree_105 (by decide) (by omega) (by omega) (fun c105 => ?_) (fun c105 => ?_)
                      · -- t
                        refine z_iconst ok dX7_isFree_122 ?_
                        refine z_istore_n (lv' := [(3, .int (iI 0)), (0, .ref (q 0)), (1, .int (iI p)), (2, .int (iI r2)), (4, .int (iI k)), (5, .int (iI (nb now (pk now p 3) (sides_2 k)))), (6, .int (iI i))]) ok dX7_isFree_123 (by decide) rfl ?_
                        refine z_iinc (lv' := [(6, .int (iI (i + 1))), (3, .int (iI 0)), (0, .ref (q 0)), (1, .int (iI p)), (2, .int (iI r2)), (4, .int (iI k)), (5, .int (iI (nb now (pk now p 3) (sides_2 k))))]) ok dX7_isFree_124 6 rfl (by decide) rfl ?_
                        refine z_goto (tgt := 69) ok dX7_isFree_127 (by decide) ?_
                        refine z_lsub ok (lv' := [(0, .ref (q 0)), (1, .int (iI p)), (2, .int (iI r2)), (3, .int (iI 0)), (4, .int (iI k)), (5, .int (iI (nb now (pk now p 3) (sides_2 k)))), (6, .int (iI (i + 1)))]) [2, 3, 4, 1, 5, 6, 0] rfl ?_
                        exact ih69 _ _ (by omega) (by omega) (by first | exact Or.inl ⟨rfl, Or.inr ⟨i, by omega, by omega, c93, c105, fun z => by have := z.2.2; omega⟩⟩ | exact Or.inr ⟨rfl, h69b.2.1, zall h69b.2.2 (fun z => by first | exact c93 z.1 | exact c105 z.2.1 | (have := z.2.2; omega))⟩) (by omega)
                      · -- f
                        have hsi := hsk i (by omega) (by omega)
                        refine z_aload_n ok dX7_isFree_108 rfl ?_
                        refine z_get (v := .ref (q 11)) ok zc7 0 rfl 13 (by decide) qf_RX7_41 rfl rfl dX7_isFree_109 ?_
                        refine z_iload ok dX7_isFree_112 rfl ?_
                        refine z_zald (f := stuck) ok 11 rfl dX7_isFree_114 (by omega) (by decide) ?_
                        refine z_if_ne (tgt := 122) ok dX7_isFree_115 (by decide) (by omega) (fun c115 => ?_) (fun c115 => ?_)
                        · -- t
                          refine z_iconst ok dX7_isFree_122 ?_
                          refine z_istore_n (lv' := [(3, .int (iI 0)), (0, .ref (q 0)), (1, .int (iI p)), (2, .int (iI r2)), (4, .int (iI k)), (5, .int (iI (nb now (pk now p 3) (sides_2 k)))), (6, .int (iI i))]) ok dX7_isFree_123 (by decide) rfl ?_
                          refine z_iinc (lv' := [(6, .int (iI (i + 1))), (3, .int (iI 0)), (0, .ref (q 0)), (1, .int (iI p)), (2, .int (iI r2)), (4, .int (iI k)), (5, .int (iI (nb now (pk now p 3) (sides_2 k))))]) ok dX7_isFree_124 6 rfl (by decide) rfl ?_
                          refine z_goto (tgt := 69) ok dX7_isFree_127 (by decide) ?_
                          refine z_lsub ok (lv' := [(0, .ref (q 0)), (1, .int (iI p)), (2, .int (iI r2)), (3, .int (iI 0)), (4, .int (iI k)), (5, .int (iI (nb now (pk now p 3) (sides_2 k)))), (6, .int (iI (i + 1)))]) [2, 3, 4, 1, 5, 6, 0] rfl ?_
                          exact ih69 _ _ (by omega) (by omega) (by first | exact Or.inl ⟨rfl, Or.inr ⟨i, by omega, by omega, c93, c105, fun z => by have := z.2.2; omega⟩⟩ | exact Or.inr ⟨rfl, h69b.2.1, zall h69b.2.2 (fun z => by first | exact c93 z.1 | exact c105 z.2.1 | (have := z.2.2; omega))⟩) (by omega)
                        · -- f
                          refine z_iconst ok dX7_isFree_118 ?_
                          refine z_goto (tgt := 123) ok dX7_isFree_119 (by decide) ?_
                          refine z_istore_n (lv' := [(3, .int (iI 1)), (0, .ref (q 0)), (1, .int (iI p)), (2, .int (iI r2)), (4, .int (iI k)), (5, .int (iI (nb now (pk now p 3) (sides_2 k)))), (6, .int (iI i))]) ok dX7_isFree_123 (by decide) rfl ?_
                          refine z_iinc (lv' := [(6, .int (iI (i + 1))), (3, .int (iI 1)), (0, .ref (q 0)), (1, .int (iI p)), (2, .int (iI r2)), (4, .int (iI k)), (5, .int (iI (nb now (pk now p 3) (sides_2 k))))]) ok dX7_isFree_124 6 rfl (by decide) rfl ?_
                          refine z_goto (tgt := 69) ok dX7_isFree_127 (by decide) ?_
                          refine z_lsub ok (lv' := [(0, .ref (q 0)), (1, .int (iI p)), (2, .int (iI r2)), (3, .int (iI 1)), (4, .int (iI k)), (5, .int (iI (nb now (pk now p 3) (sides_2 k)))), (6, .int (iI (i + 1)))]) [2, 3, 4, 1, 5, 6, 0] rfl ?_
                          exact ih69 _ _ (by omega) (by omega) (by first | exact Or.inl ⟨rfl, Or.inr ⟨i, by omega, by omega, c93, c105, fun z => by have := z.2.2; omega⟩⟩ | exact Or.inr ⟨rfl, h69b.2.1, zall h69b.2.2 (fun z => by first | exact c93 z.1 | exact c105 z.2.1 | (have := z.2.2; omega))⟩) (by omega)
            refine z_lsub ok (lv' := [(0, .ref (q 0)), (1, .int (iI p)), (2, .int (iI r2)), (3, .int (iI 1)), (4, .int (iI k)), (5, .int (iI (nb now (pk now p 3) (sides_2 k)))), (6, .int (iI 0))]) [3, 4, 5, 1, 6, 2, 0] rfl ?_
            exact L69 _ _ _ (by omega) (by omega) (by first | exact Or.inl ⟨rfl, Or.inl (Or.inl c48)⟩ | exact Or.inl ⟨rfl, Or.inl (Or.inr c57)⟩ | exact Or.inr ⟨rfl, fun z => z.elim c48 c57, fun j h0 h1 => absurd h1 (by omega)⟩) (Nat.lt_succ_self _)
          · -- f
            refine z_aload_n ok dX7_isFree_51 rfl ?_
            refine z_iload ok dX7_isFree_52 rfl ?_
            refine z_callVi0 ok (fun l => c_X7_hasRoom  (hw) (by omega)) zm_X7_hasRoom zv_X7_hasRoom qm_RX7_118 dX7_isFree_54 (by decide) (by decide) rfl rfl (Nat.le_of_ble_eq_true rfl) (q0 := 0) rfl rfl rfl (fun ρ _ hρ => ?_)
            subst hρ
            refine z_eq (ws' := mW Z q now kept hist und sav isv pad sg it far_2 many_2 laid_2 sides_2 stuck ord rd pl wr) rfl ?_
            refine z_ifb_eq (tgt := 64) ok dX7_isFree_57 (by decide) (fun c57 => ?_) (fun c57 => ?_)
            · -- t
              refine z_iconst ok dX7_isFree_64 ?_
              refine z_istore_n (lv' := [(3, .int (iI 0)), (5, .int (iI (nb now (pk now p 3) (sides_2 k)))), (0, .ref (q 0)), (1, .int (iI p)), (2, .int (iI r2)), (4, .int (iI k))]) ok dX7_isFree_65 (by decide) rfl ?_
              refine z_iconst ok dX7_isFree_66 ?_
              refine z_istore (lv' := [(6, .int (iI 0)), (3, .int (iI 0)), (5, .int (iI (nb now (pk now p 3) (sides_2 k)))), (0, .ref (q 0)), (1, .int (iI p)), (2, .int (iI r2)), (4, .int (iI k))]) ok dX7_isFree_67 (by decide) rfl ?_
              have L69 : ∀ (fuel : Nat) (i fi : Int), (0 ≤ i) → (i ≤ now 6) → ((fi = 1 ∧ frq now (stS now stuck) p (sides_2 k)) ∨ (fi = 0 ∧ ¬ rmP now p (sides_2 k) ∧ ∀ j : Int, 0 ≤ j → j < i → ¬ (pk now j 2 = 1 ∧ pk now j 3 = nb now (pk now p 3) (sides_2 k) ∧ ¬ stuck j = 1))) → (now 6 - i).toNat < fuel → zV X 0 0 (mW Z q now kept hist und sav isv pad sg it far_2 many_2 laid_2 sides_2 stuck ord rd pl wr) 69 [(0, .ref (q 0)), (1, .int (iI p)), (2, .int (iI r2)), (3, .int (iI fi)), (4, .int (iI k)), (5, .int (iI (nb now (pk now p 3) (sides_2 k)))), (6, .int (iI i))] [] := by
                intro fuel
                induction fuel with
                | zero => intro i fi h69_0 h69_1 h69_2 hf; exact absurd hf (Nat.not_lt_zero _)
                | succ fuel ih69 =>
                  intro i fi h69_0 h69_1 h69_2 hf
                  have hfi : fi = 0 ∨ fi = 1 := by omega
                  refine z_iload ok dX7_isFree_69 rfl ?_
                  refine z_aload_n ok dX7_isFree_71 rfl ?_
                  refine z_get (v := .ref (q 1)) ok zc7 0 rfl 0 (by decide) qf_RX7_7 rfl rfl dX7_isFree_72 ?_
                  refine z_bipush ok dX7_isFree_75 (by decide) ?_
                  refine z_iald (f := now) ok 1 rfl dX7_isFree_77 (by omega) (by decide) ?_
                  refine z_icmp_ge (tgt := 130) ok dX7_isFree_78 (by decide) (by omega) (by omega) (fun c78 => ?_) (fun c78 => ?_)
                  · -- t
                    refine z_iinc (lv' := [(4, .int (iI (k + 1))), (0, .ref (q 0)), (1, .int (iI p)), (2, .int (iI r2)), (3, .int (iI fi)), (5, .int (iI (nb now (pk now p 3) (sides_2 k)))), (6, .int (iI i))]) ok dX7_isFree_130 4 rfl (by decide) rfl ?_
                    refine z_goto (tgt := 11) ok dX7_isFree_133 (by decide) ?_
                    refine z_lsub ok (lv' := [(0, .ref (q 0)), (1, .int (iI p)), (2, .int (iI r2)), (3, .int (iI fi)), (4, .int (iI (k + 1)))]) [1, 2, 3, 4, 0] rfl ?_
                    exact ih11 _ _ (by omega) (by omega) (h69_2.elim (fun z => Or.inl ⟨z.1, k, by omega, by omega, z.2⟩) (fun z => Or.inr ⟨z.1, zall h11b.2 (fun y => y.elim z.2.1 (fun ⟨x, a, b, c, e, g⟩ => z.2.2 x a (by have := z.1; omega) ⟨c, e, fun w => g ⟨a, b, w⟩⟩))⟩)) (by omega)
                  · -- f
                    refine z_iload_n ok dX7_isFree_81 rfl ?_
                    refine z_if_ne (tgt := 130) ok dX7_isFree_82 (by decide) (by omega) (fun c82 => ?_) (fun c82 => ?_)
                    · -- t
                      refine z_iinc (lv' := [(4, .int (iI (k + 1))), (0, .ref (q 0)), (1, .int (iI p)), (2, .int (iI r2)), (3, .int (iI fi)), (5, .int (iI (nb now (pk now p 3) (sides_2 k)))), (6, .int (iI i))]) ok dX7_isFree_130 4 rfl (by decide) rfl ?_
                      refine z_goto (tgt := 11) ok dX7_isFree_133 (by decide) ?_
                      refine z_lsub ok (lv' := [(0, .ref (q 0)), (1, .int (iI p)), (2, .int (iI r2)), (3, .int (iI fi)), (4, .int (iI (k + 1)))]) [1, 2, 3, 4, 0] rfl ?_
                      exact ih11 _ _ (by omega) (by omega) (h69_2.elim (fun z => Or.inl ⟨z.1, k, by omega, by omega, z.2⟩) (fun z => Or.inr ⟨z.1, zall h11b.2 (fun y => y.elim z.2.1 (fun ⟨x, a, b, c, e, g⟩ => z.2.2 x a (by have := z.1; omega) ⟨c, e, fun w => g ⟨a, b, w⟩⟩))⟩)) (by omega)
                    · -- f
                      have h69b := h69_2.resolve_left (fun z => by omega)
                      have wpi := wp i (by omega) (by omega)
                      refine z_aload_n ok dX7_isFree_85 rfl ?_
                      refine z_iload ok dX7_isFree_86 rfl ?_
                      refine z_iconst ok dX7_isFree_88 ?_
                      refine z_callVi0 ok (fun l => c_X7_of  (by omega) (by omega)) zm_X7_of zv_X7_of qm_RX7_98 dX7_isFree_89 (by decide) (by decide) rfl rfl (Nat.le_of_ble_eq_true rfl) (q0 := 0) rfl rfl rfl (fun ρ _ hρ => ?_)
                      subst hρ
                      refine z_eq (ws' := mW Z q now kept hist und sav isv pad sg it far_2 many_2 laid_2 sides_2 stuck ord rd pl wr) rfl ?_
                      refine z_iconst ok dX7_isFree_92 ?_
                      refine z_icmp_ne (tgt := 122) ok dX7_isFree_93 (by decide) (by omega) (by omega) (fun c93 => ?_) (fun c93 => ?_)
                      · -- t
                        refine z_iconst ok dX7_isFree_122 ?_
                        refine z_istore_n (lv' := [(3, .int (iI 0)), (0, .ref (q 0)), (1, .int (iI p)), (2, .int (iI r2)), (4, .int (iI k)), (5, .int (iI (nb now (pk now p 3) (sides_2 k)))), (6, .int (iI i))]) ok dX7_isFree_123 (by decide) rfl ?_
                        refine z_iinc (lv' := [(6, .int (iI (i + 1))), (3, .int (iI 0)), (0, .ref (q 0)), (1, .int (iI p)), (2, .int (iI r2)), (4, .int (iI k)), (5, .int (iI (nb now (pk now p 3) (sides_2 k))))]) ok dX7_isFree_124 6 rfl (by decide) rfl ?_
                        refine z_goto (tgt := 69) ok dX7_isFree_127 (by decide) ?_
                        refine z_lsub ok (lv' := [(0, .ref (q 0)), (1, .int (iI p)), (2, .int (iI r2)), (3, .int (iI 0)), (4, .int (iI k)), (5, .int (iI (nb now (pk now p 3) (sides_2 k)))), (6, .int (iI (i + 1)))]) [2, 3, 4, 1, 5, 6, 0] rfl ?_
                        exact ih69 _ _ (by omega) (by omega) (by first | exact Or.inl ⟨rfl, Or.inr ⟨i, by omega, by omega, c93, c105, fun z => by have := z.2.2; omega⟩⟩ | exact Or.inr ⟨rfl, h69b.2.1, zall h69b.2.2 (fun z => by first | exact c93 z.1 | exact c105 z.2.1 | (have := z.2.2; omega))⟩) (by omega)
                      · -- f
                        refine z_aload_n ok dX7_isFree_96 rfl ?_
                        refine z_iload ok dX7_isFree_97 rfl ?_
                        refine z_iconst ok dX7_isFree_99 ?_
                        refine z_callVi0 ok (fun l => c_X7_of  (by omega) (by omega)) zm_X7_of zv_X7_of qm_RX7_98 dX7_isFree_100 (by decide) (by decide) rfl rfl (Nat.le_of_ble_eq_true rfl) (q0 := 0) rfl rfl rfl (fun ρ _ hρ => ?_)
                        subst hρ
                        refine z_eq (ws' := mW Z q now kept hist und sav isv pad sg it far_2 many_2 laid_2 sides_2 stuck ord rd pl wr) rfl ?_
                        refine z_iload ok dX7_isFree_103 rfl ?_
                        refine z_icmp_ne (tgt := 122) ok dX7_isFree_105 (by decide) (by omega) (by omega) (fun c105 => ?_) (fun c105 => ?_)
                        · -- t
                          refine z_iconst ok dX7_isFree_122 ?_
                          refine z_istore_n (lv' := [(3, .int (iI 0)), (0, .ref (q 0)), (1, .int (iI p)), (2, .int (iI r2)), (4, .int (iI k)), (5, .int (iI (nb now (pk now p 3) (sides_2 k)))), (6, .int (iI i))]) ok dX7_isFree_123 (by decide) rfl ?_
                          refine z_iinc (lv' := [(6, .int (iI (i + 1))), (3, .int (iI 0)), (0, .ref (q 0)), (1, .int (iI p)), (2, .int (iI r2)), (4, .int (iI k)), (5, .int (iI (nb now (pk now p 3) (sides_2 k))))]) ok dX7_isFree_124 6 rfl (by decide) rfl ?_
                          refine z_goto (tgt := 69) ok dX7_isFree_127 (by decide) ?_
                          refine z_lsub ok (lv' := [(0, .ref (q 0)), (1, .int (iI p)), (2, .int (iI r2)), (3, .int (iI 0)), (4, .int (iI k)), (5, .int (iI (nb now (pk now p 3) (sides_2 k)))), (6, .int (iI (i + 1)))]) [2, 3, 4, 1, 5, 6, 0] rfl ?_
                          exact ih69 _ _ (by omega) (by omega) (by first | exact Or.inl ⟨rfl, Or.inr ⟨i, by omega, by omega, c93, c105, fun z => by have := z.2.2; omega⟩⟩ | exact Or.inr ⟨rfl, h69b.2.1, zall h69b.2.2 (fun z => by first | exact c93 z.1 | exact c105 z.2.1 | (have := z.2.2; omega))⟩) (by omega)
                        · -- f
                          have hsi := hsk i (by omega) (by omega)
                          refine z_aload_n ok dX7_isFree_108 rfl ?_
                          refine z_get (v := .ref (q 11)) ok zc7 0 rfl 13 (by decide) qf_RX7_41 rfl rfl dX7_isFree_109 ?_
                          refine z_iload ok dX7_isFree_112 rfl ?_
                          refine z_zald (f := stuck) ok 11 rfl dX7_isFree_114 (by omega) (by decide) ?_
                          refine z_if_ne (tgt := 122) ok dX7_isFree_115 (by decide) (by omega) (fun c115 => ?_) (fun c115 => ?_)
                          · -- t
                            refine z_iconst ok dX7_isFree_122 ?_
                            refine z_istore_n (lv' := [(3, .int (iI 0)), (0, .ref (q 0)), (1, .int (iI p)), (2, .int (iI r2)), (4, .int (iI k)), (5, .int (iI (nb now (pk now p 3) (sides_2 k)))), (6, .int (iI i))]) ok dX7_isFree_123 (by decide) rfl ?_
                            refine z_iinc (lv' := [(6, .int (iI (i + 1))), (3, .int (iI 0)), (0, .ref (q 0)), (1, .int (iI p)), (2, .int (iI r2)), (4, .int (iI k)), (5, .int (iI (nb now (pk now p 3) (sides_2 k))))]) ok dX7_isFree_124 6 rfl (by decide) rfl ?_
                            refine z_goto (tgt := 69) ok dX7_isFree_127 (by decide) ?_
                            refine z_lsub ok (lv' := [(0, .ref (q 0)), (1, .int (iI p)), (2, .int (iI r2)), (3, .int (iI 0)), (4, .int (iI k)), (5, .int (iI (nb now (pk now p 3) (sides_2 k)))), (6, .int (iI (i + 1)))]) [2, 3, 4, 1, 5, 6, 0] rfl ?_
                            exact ih69 _ _ (by omega) (by omega) (by first | exact Or.inl ⟨rfl, Or.inr ⟨i, by omega, by omega, c93, c105, fun z => by have := z.2.2; omega⟩⟩ | exact Or.inr ⟨rfl, h69b.2.1, zall h69b.2.2 (fun z => by first | exact c93 z.1 | exact c105 z.2.1 | (have := z.2.2; omega))⟩) (by omega)
                          · -- f
                            refine z_iconst ok dX7_isFree_118 ?_
                            refine z_goto (tgt := 123) ok dX7_isFree_119 (by decide) ?_
                            refine z_istore_n (lv' := [(3, .int (iI 1)), (0, .ref (q 0)), (1, .int (iI p)), (2, .int (iI r2)), (4, .int (iI k)), (5, .int (iI (nb now (pk now p 3) (sides_2 k)))), (6, .int (iI i))]) ok dX7_isFree_123 (by decide) rfl ?_
                            refine z_iinc (lv' := [(6, .int (iI (i + 1))), (3, .int (iI 1)), (0, .ref (q 0)), (1, .int (iI p)), (2, .int (iI r2)), (4, .int (iI k)), (5, .int (iI (nb now (pk now p 3) (sides_2 k))))]) ok dX7_isFree_124 6 rfl (by decide) rfl ?_
                            refine z_goto (tgt := 69) ok dX7_isFree_127 (by decide) ?_
                            refine z_lsub ok (lv' := [(0, .ref (q 0)), (1, .int (iI p)), (2, .int (iI r2)), (3, .int (iI 1)), (4, .int (iI k)), (5, .int (iI (nb now (pk now p 3) (sides_2 k)))), (6, .int (iI (i + 1)))]) [2, 3, 4, 1, 5, 6, 0] rfl ?_
                            exact ih69 _ _ (by omega) (by omega) (by first | exact Or.inl ⟨rfl, Or.inr ⟨i, by omega, by omega, c93, c105, fun z => by have := z.2.2; omega⟩⟩ | exact Or.inr ⟨rfl, h69b.2.1, zall h69b.2.2 (fun z => by first | exact c93 z.1 | exact c105 z.2.1 | (have := z.2.2; omega))⟩) (by omega)
              refine z_lsub ok (lv' := [(0, .ref (q 0)), (1, .int (iI p)), (2, .int (iI r2)), (3, .int (iI 0)), (4, .int (iI k)), (5, .int (iI (nb now (pk now p 3) (sides_2 k)))), (6, .int (iI 0))]) [3, 4, 5, 1, 6, 2, 0] rfl ?_
              exact L69 _ _ _ (by omega) (by omega) (by first | exact Or.inl ⟨rfl, Or.inl (Or.inl c48)⟩ | exact Or.inl ⟨rfl, Or.inl (Or.inr c57)⟩ | exact Or.inr ⟨rfl, fun z => z.elim c48 c57, fun j h0 h1 => absurd h1 (by omega)⟩) (Nat.lt_succ_self _)
            · -- f
              refine z_iconst ok dX7_isFree_60 ?_
              refine z_goto (tgt := 65) ok dX7_isFree_61 (by decide) ?_
              refine z_istore_n (lv' := [(3, .int (iI 1)), (5, .int (iI (nb now (pk now p 3) (sides_2 k)))), (0, .ref (q 0)), (1, .int (iI p)), (2, .int (iI r2)), (4, .int (iI k))]) ok dX7_isFree_65 (by decide) rfl ?_
              refine z_iconst ok dX7_isFree_66 ?_
              refine z_istore (lv' := [(6, .int (iI 0)), (3, .int (iI 1)), (5, .int (iI (nb now (pk now p 3) (sides_2 k)))), (0, .ref (q 0)), (1, .int (iI p)), (2, .int (iI r2)), (4, .int (iI k))]) ok dX7_isFree_67 (by decide) rfl ?_
              have L69 : ∀ (fuel : Nat) (i fi : Int), (0 ≤ i) → (i ≤ now 6) → ((fi = 1 ∧ frq now (stS now stuck) p (sides_2 k)) ∨ (fi = 0 ∧ ¬ rmP now p (sides_2 k) ∧ ∀ j : Int, 0 ≤ j → j < i → ¬ (pk now j 2 = 1 ∧ pk now j 3 = nb now (pk now p 3) (sides_2 k) ∧ ¬ stuck j = 1))) → (now 6 - i).toNat < fuel → zV X 0 0 (mW Z q now kept hist und sav isv pad sg it far_2 many_2 laid_2 sides_2 stuck ord rd pl wr) 69 [(0, .ref (q 0)), (1, .int (iI p)), (2, .int (iI r2)), (3, .int (iI fi)), (4, .int (iI k)), (5, .int (iI (nb now (pk now p 3) (sides_2 k)))), (6, .int (iI i))] [] := by
                intro fuel
                induction fuel with
                | zero => intro i fi h69_0 h69_1 h69_2 hf; exact absurd hf (Nat.not_lt_zero _)
                | succ fuel ih69 =>
                  intro i fi h69_0 h69_1 h69_2 hf
                  have hfi : fi = 0 ∨ fi = 1 := by omega
                  refine z_iload ok dX7_isFree_69 rfl ?_
                  refine z_aload_n ok dX7_isFree_71 rfl ?_
                  refine z_get (v := .ref (q 1)) ok zc7 0 rfl 0 (by decide) qf_RX7_7 rfl rfl dX7_isFree_72 ?_
                  refine z_bipush ok dX7_isFree_75 (by decide) ?_
                  refine z_iald (f := now) ok 1 rfl dX7_isFree_77 (by omega) (by decide) ?_
                  refine z_icmp_ge (tgt := 130) ok dX7_isFree_78 (by decide) (by omega) (by omega) (fun c78 => ?_) (fun c78 => ?_)
                  · -- t
                    refine z_iinc (lv' := [(4, .int (iI (k + 1))), (0, .ref (q 0)), (1, .int (iI p)), (2, .int (iI r2)), (3, .int (iI fi)), (5, .int (iI (nb now (pk now p 3) (sides_2 k)))), (6, .int (iI i))]) ok dX7_isFree_130 4 rfl (by decide) rfl ?_
                    refine z_goto (tgt := 11) ok dX7_isFree_133 (by decide) ?_
                    refine z_lsub ok (lv' := [(0, .ref (q 0)), (1, .int (iI p)), (2, .int (iI r2)), (3, .int (iI fi)), (4, .int (iI (k + 1)))]) [1, 2, 3, 4, 0] rfl ?_
                    exact ih11 _ _ (by omega) (by omega) (h69_2.elim (fun z => Or.inl ⟨z.1, k, by omega, by omega, z.2⟩) (fun z => Or.inr ⟨z.1, zall h11b.2 (fun y => y.elim z.2.1 (fun ⟨x, a, b, c, e, g⟩ => z.2.2 x a (by have := z.1; omega) ⟨c, e, fun w => g ⟨a, b, w⟩⟩))⟩)) (by omega)
                  · -- f
                    refine z_iload_n ok dX7_isFree_81 rfl ?_
                    refine z_if_ne (tgt := 130) ok dX7_isFree_82 (by decide) (by omega) (fun c82 => ?_) (fun c82 => ?_)
                    · -- t
                      refine z_iinc (lv' := [(4, .int (iI (k + 1))), (0, .ref (q 0)), (1, .int (iI p)), (2, .int (iI r2)), (3, .int (iI fi)), (5, .int (iI (nb now (pk now p 3) (sides_2 k)))), (6, .int (iI i))]) ok dX7_isFree_130 4 rfl (by decide) rfl ?_
                      refine z_goto (tgt := 11) ok dX7_isFree_133 (by decide) ?_
                      refine z_lsub ok (lv' := [(0, .ref (q 0)), (1, .int (iI p)), (2, .int (iI r2)), (3, .int (iI fi)), (4, .int (iI (k + 1)))]) [1, 2, 3, 4, 0] rfl ?_
                      exact ih11 _ _ (by omega) (by omega) (h69_2.elim (fun z => Or.inl ⟨z.1, k, by omega, by omega, z.2⟩) (fun z => Or.inr ⟨z.1, zall h11b.2 (fun y => y.elim z.2.1 (fun ⟨x, a, b, c, e, g⟩ => z.2.2 x a (by have := z.1; omega) ⟨c, e, fun w => g ⟨a, b, w⟩⟩))⟩)) (by omega)
                    · -- f
                      have h69b := h69_2.resolve_left (fun z => by omega)
                      have wpi := wp i (by omega) (by omega)
                      refine z_aload_n ok dX7_isFree_85 rfl ?_
                      refine z_iload ok dX7_isFree_86 rfl ?_
                      refine z_iconst ok dX7_isFree_88 ?_
                      refine z_callVi0 ok (fun l => c_X7_of  (by omega) (by omega)) zm_X7_of zv_X7_of qm_RX7_98 dX7_isFree_89 (by decide) (by decide) rfl rfl (Nat.le_of_ble_eq_true rfl) (q0 := 0) rfl rfl rfl (fun ρ _ hρ => ?_)
                      subst hρ
                      refine z_eq (ws' := mW Z q now kept hist und sav isv pad sg it far_2 many_2 laid_2 sides_2 stuck ord rd pl wr) rfl ?_
                      refine z_iconst ok dX7_isFree_92 ?_
                      refine z_icmp_ne (tgt := 122) ok dX7_isFree_93 (by decide) (by omega) (by omega) (fun c93 => ?_) (fun c93 => ?_)
                      · -- t
                        refine z_iconst ok dX7_isFree_122 ?_
                        refine z_istore_n (lv' := [(3, .int (iI 0)), (0, .ref (q 0)), (1, .int (iI p)), (2, .int (iI r2)), (4, .int (iI k)), (5, .int (iI (nb now (pk now p 3) (sides_2 k)))), (6, .int (iI i))]) ok dX7_isFree_123 (by decide) rfl ?_
                        refine z_iinc (lv' := [(6, .int (iI (i + 1))), (3, .int (iI 0)), (0, .ref (q 0)), (1, .int (iI p)), (2, .int (iI r2)), (4, .int (iI k)), (5, .int (iI (nb now (pk now p 3) (sides_2 k))))]) ok dX7_isFree_124 6 rfl (by decide) rfl ?_
                        refine z_goto (tgt := 69) ok dX7_isFree_127 (by decide) ?_
                        refine z_lsub ok (lv' := [(0, .ref (q 0)), (1, .int (iI p)), (2, .int (iI r2)), (3, .int (iI 0)), (4, .int (iI k)), (5, .int (iI (nb now (pk now p 3) (sides_2 k)))), (6, .int (iI (i + 1)))]) [2, 3, 4, 1, 5, 6, 0] rfl ?_
                        exact ih69 _ _ (by omega) (by omega) (by first | exact Or.inl ⟨rfl, Or.inr ⟨i, by omega, by omega, c93, c105, fun z => by have := z.2.2; omega⟩⟩ | exact Or.inr ⟨rfl, h69b.2.1, zall h69b.2.2 (fun z => by first | exact c93 z.1 | exact c105 z.2.1 | (have := z.2.2; omega))⟩) (by omega)
                      · -- f
                        refine z_aload_n ok dX7_isFree_96 rfl ?_
                        refine z_iload ok dX7_isFree_97 rfl ?_
                        refine z_iconst ok dX7_isFree_99 ?_
                        refine z_callVi0 ok (fun l => c_X7_of  (by omega) (by omega)) zm_X7_of zv_X7_of qm_RX7_98 dX7_isFree_100 (by decide) (by decide) rfl rfl (Nat.le_of_ble_eq_true rfl) (q0 := 0) rfl rfl rfl (fun ρ _ hρ => ?_)
                        subst hρ
                        refine z_eq (ws' := mW Z q now kept hist und sav isv pad sg it far_2 many_2 laid_2 sides_2 stuck ord rd pl wr) rfl ?_
                        refine z_iload ok dX7_isFree_103 rfl ?_
                        refine z_icmp_ne (tgt := 122) ok dX7_isFree_105 (by decide) (by omega) (by omega) (fun c105 => ?_) (fun c105 => ?_)
                        · -- t
                          refine z_iconst ok dX7_isFree_122 ?_
                          refine z_istore_n (lv' := [(3, .int (iI 0)), (0, .ref (q 0)), (1, .int (iI p)), (2, .int (iI r2)), (4, .int (iI k)), (5, .int (iI (nb now (pk now p 3) (sides_2 k)))), (6, .int (iI i))]) ok dX7_isFree_123 (by decide) rfl ?_
                          refine z_iinc (lv' := [(6, .int (iI (i + 1))), (3, .int (iI 0)), (0, .ref (q 0)), (1, .int (iI p)), (2, .int (iI r2)), (4, .int (iI k)), (5, .int (iI (nb now (pk now p 3) (sides_2 k))))]) ok dX7_isFree_124 6 rfl (by decide) rfl ?_
                          refine z_goto (tgt := 69) ok dX7_isFree_127 (by decide) ?_
                          refine z_lsub ok (lv' := [(0, .ref (q 0)), (1, .int (iI p)), (2, .int (iI r2)), (3, .int (iI 0)), (4, .int (iI k)), (5, .int (iI (nb now (pk now p 3) (sides_2 k)))), (6, .int (iI (i + 1)))]) [2, 3, 4, 1, 5, 6, 0] rfl ?_
                          exact ih69 _ _ (by omega) (by omega) (by first | exact Or.inl ⟨rfl, Or.inr ⟨i, by omega, by omega, c93, c105, fun z => by have := z.2.2; omega⟩⟩ | exact Or.inr ⟨rfl, h69b.2.1, zall h69b.2.2 (fun z => by first | exact c93 z.1 | exact c105 z.2.1 | (have := z.2.2; omega))⟩) (by omega)
                        · -- f
                          have hsi := hsk i (by omega) (by omega)
                          refine z_aload_n ok dX7_isFree_108 rfl ?_
                          refine z_get (v := .ref (q 11)) ok zc7 0 rfl 13 (by decide) qf_RX7_41 rfl rfl dX7_isFree_109 ?_
                          refine z_iload ok dX7_isFree_112 rfl ?_
                          refine z_zald (f := stuck) ok 11 rfl dX7_isFree_114 (by omega) (by decide) ?_
                          refine z_if_ne (tgt := 122) ok dX7_isFree_115 (by decide) (by omega) (fun c115 => ?_) (fun c115 => ?_)
                          · -- t
                            refine z_iconst ok dX7_isFree_122 ?_
                            refine z_istore_n (lv' := [(3, .int (iI 0)), (0, .ref (q 0)), (1, .int (iI p)), (2, .int (iI r2)), (4, .int (iI k)), (5, .int (iI (nb now (pk now p 3) (sides_2 k)))), (6, .int (iI i))]) ok dX7_isFree_123 (by decide) rfl ?_
                            refine z_iinc (lv' := [(6, .int (iI (i + 1))), (3, .int (iI 0)), (0, .ref (q 0)), (1, .int (iI p)), (2, .int (iI r2)), (4, .int (iI k)), (5, .int (iI (nb now (pk now p 3) (sides_2 k))))]) ok dX7_isFree_124 6 rfl (by decide) rfl ?_
                            refine z_goto (tgt := 69) ok dX7_isFree_127 (by decide) ?_
                            refine z_lsub ok (lv' := [(0, .ref (q 0)), (1, .int (iI p)), (2, .int (iI r2)), (3, .int (iI 0)), (4, .int (iI k)), (5, .int (iI (nb now (pk now p 3) (sides_2 k)))), (6, .int (iI (i + 1)))]) [2, 3, 4, 1, 5, 6, 0] rfl ?_
                            exact ih69 _ _ (by omega) (by omega) (by first | exact Or.inl ⟨rfl, Or.inr ⟨i, by omega, by omega, c93, c105, fun z => by have := z.2.2; omega⟩⟩ | exact Or.inr ⟨rfl, h69b.2.1, zall h69b.2.2 (fun z => by first | exact c93 z.1 | exact c105 z.2.1 | (have := z.2.2; omega))⟩) (by omega)
                          · -- f
                            refine z_iconst ok dX7_isFree_118 ?_
                            refine z_goto (tgt := 123) ok dX7_isFree_119 (by decide) ?_
                            refine z_istore_n (lv' := [(3, .int (iI 1)), (0, .ref (q 0)), (1, .int (iI p)), (2, .int (iI r2)), (4, .int (iI k)), (5, .int (iI (nb now (pk now p 3) (sides_2 k)))), (6, .int (iI i))]) ok dX7_isFree_123 (by decide) rfl ?_
                            refine z_iinc (lv' := [(6, .int (iI (i + 1))), (3, .int (iI 1)), (0, .ref (q 0)), (1, .int (iI p)), (2, .int (iI r2)), (4, .int (iI k)), (5, .int (iI (nb now (pk now p 3) (sides_2 k))))]) ok dX7_isFree_124 6 rfl (by decide) rfl ?_
                            refine z_goto (tgt := 69) ok dX7_isFree_127 (by decide) ?_
                            refine z_lsub ok (lv' := [(0, .ref (q 0)), (1, .int (iI p)), (2, .int (iI r2)), (3, .int (iI 1)), (4, .int (iI k)), (5, .int (iI (nb now (pk now p 3) (sides_2 k)))), (6, .int (iI (i + 1)))]) [2, 3, 4, 1, 5, 6, 0] rfl ?_
                            exact ih69 _ _ (by omega) (by omega) (by first | exact Or.inl ⟨rfl, Or.inr ⟨i, by omega, by omega, c93, c105, fun z => by have := z.2.2; omega⟩⟩ | exact Or.inr ⟨rfl, h69b.2.1, zall h69b.2.2 (fun z => by first | exact c93 z.1 | exact c105 z.2.1 | (have := z.2.2; omega))⟩) (by omega)
              refine z_lsub ok (lv' := [(0, .ref (q 0)), (1, .int (iI p)), (2, .int (iI r2)), (3, .int (iI 1)), (4, .int (iI k)), (5, .int (iI (nb now (pk now p 3) (sides_2 k)))), (6, .int (iI 0))]) [3, 4, 5, 1, 6, 2, 0] rfl ?_
              exact L69 _ _ _ (by omega) (by omega) (by first | exact Or.inl ⟨rfl, Or.inl (Or.inl c48)⟩ | exact Or.inl ⟨rfl, Or.inl (Or.inr c57)⟩ | exact Or.inr ⟨rfl, fun z => z.elim c48 c57, fun j h0 h1 => absurd h1 (by omega)⟩) (Nat.lt_succ_self _)
  refine z_lsub ok (lv' := [(0, .ref (q 0)), (1, .int (iI p)), (2, .int (iI r2)), (3, .int (iI 0)), (4, .int (iI 0))]) [3, 4, 2, 1, 0] rfl ?_
  exact L11 _ _ _ (by omega) (by omega) (Or.inr ⟨rfl, fun j h0 h1 => absurd h1 (by omega)⟩) (Nat.lt_succ_self _)
