set_option maxHeartbeats 4000000 in
set_option maxRecDepth 20000 in
theorem c_X7_send {l : Launch} {Z : zZ} {q : Nat → Nat} {now kept hist : Int → Int} {und : Int} {sav isv pad : Int → Int} {sg it : Int} {far many laid sides stuck ord : Int → Int} {rd pl wr : Int} {a b : Int} (hw : wf now) (hu : 0 ≤ und ∧ und ≤ 6) (hit : 0 ≤ it ∧ it ≤ 1) (ha : -2147483648 ≤ a ∧ a < 2147483648) (hb : -2147483648 ≤ b ∧ b < 2147483648) (hca : cacheOK now laid far many) : zI (T := (Int → Int) × (Int → Int) × Int × (Int → Int) × (Int → Int) × (Int → Int)) l yX7_send (Cond.code yX7_send cX7_send 5 (some .int) :: wsL_law) ({ frames := 7, cells := 0, slots := 0, locals := 171 } : Room) Z [.ref (q 0), .int (iI a), .int (iI b)] (mW Z q now kept hist und sav isv pad sg it far many laid sides stuck ord rd pl wr) (fun u => mW Z q u.1 kept u.2.1 u.2.2.1 sav isv pad sg it u.2.2.2.1 u.2.2.2.2.1 u.2.2.2.2.2 sides stuck ord rd pl wr) (fun ρ u => cacheOK u.1 u.2.2.2.2.2 u.2.2.2.1 u.2.2.2.2.1 ∧ ((¬ sndE now a b = 0 ∧ ρ = sndE now a b ∧ u.1 = now ∧ u.2.1 = hist ∧ u.2.2.1 = und) ∨ (sndE now a b = 0 ∧ ρ = now 6 ∧ u.1 = sndN now a b ∧ u.2.1 = recH it und hist now ∧ u.2.2.1 = recU it und))) := by
  refine zI_of (C := RX7) (by decide +kernel) rfl (Nat.le_of_ble_eq_true rfl) (fun _ => True) znI (fun X ok fin => ?_)
  obtain ⟨w0, w1, w2, hc, hr, w6, wl, wp⟩ := id hw
  have hcr := cr_rng hc hr
  refine z_lsub ok (lv' := [(0, .ref (q 0)), (1, .int (iI a)), (2, .int (iI b))]) [0, 1, 2] rfl ?_
  refine z_aload_n ok dX7_send_0 rfl ?_
  refine z_iload_n ok dX7_send_1 rfl ?_
  refine z_callVi0 ok (fun l => c_X7_isBox  (by omega) (by omega) (by omega)) zm_X7_isBox zv_X7_isBox qm_RX7_76 dX7_send_2 (by decide) (by decide) rfl rfl (Nat.le_of_ble_eq_true rfl) (q0 := 0) rfl rfl rfl (fun ρ _ hρ => ?_)
  subst hρ
  refine z_eq (ws' := mW Z q now kept hist und sav isv pad sg it far many laid sides stuck ord rd pl wr) rfl ?_
  refine z_ifb_eq (tgt := 21) ok dX7_send_5 (by decide) (fun c5 => ?_) (fun c5 => ?_)
  · -- t
    refine z_iconst ok dX7_send_21 ?_
    have he : sndE now a b = -1 := by unfold sndE; exact zif_f (fun z => by first | exact c5 z.1 | exact c13 z.2.1 | exact z.2.2 c18)
    exact fin (-1) (now, hist, und, far, many, laid) 22 _ _ _ dX7_send_22 (trivial) (⟨hca, Or.inl ⟨by rw [he]; decide, he.symm, rfl, rfl, rfl⟩⟩) (by decide) (by decide)
  · -- f
    refine z_aload_n ok dX7_send_8 rfl ?_
    refine z_iload_n ok dX7_send_9 rfl ?_
    refine z_callVi0 ok (fun l => c_X7_isBox  (by omega) (by omega) (by omega)) zm_X7_isBox zv_X7_isBox qm_RX7_76 dX7_send_10 (by decide) (by decide) rfl rfl (Nat.le_of_ble_eq_true rfl) (q0 := 0) rfl rfl rfl (fun ρ _ hρ => ?_)
    subst hρ
    refine z_eq (ws' := mW Z q now kept hist und sav isv pad sg it far many laid sides stuck ord rd pl wr) rfl ?_
    refine z_ifb_eq (tgt := 21) ok dX7_send_13 (by decide) (fun c13 => ?_) (fun c13 => ?_)
    · -- t
      refine z_iconst ok dX7_send_21 ?_
      have he : sndE now a b = -1 := by unfold sndE; exact zif_f (fun z => by first | exact c5 z.1 | exact c13 z.2.1 | exact z.2.2 c18)
      exact fin (-1) (now, hist, und, far, many, laid) 22 _ _ _ dX7_send_22 (trivial) (⟨hca, Or.inl ⟨by rw [he]; decide, he.symm, rfl, rfl, rfl⟩⟩) (by decide) (by decide)
    · -- f
      refine z_iload_n ok dX7_send_16 rfl ?_
      refine z_iload_n ok dX7_send_17 rfl ?_
      refine z_icmp_ne (tgt := 23) ok dX7_send_18 (by decide) (by omega) (by omega) (fun c18 => ?_) (fun c18 => ?_)
      · -- t
        refine z_aload_n ok dX7_send_23 rfl ?_
        refine z_get (v := .ref (q 1)) ok zc7 0 rfl 0 (by decide) qf_RX7_7 rfl rfl dX7_send_24 ?_
        refine z_bipush ok dX7_send_27 (by decide) ?_
        refine z_iald (f := now) ok 1 rfl dX7_send_29 (by omega) (by decide) ?_
        refine z_bipush ok dX7_send_30 (by decide) ?_
        refine z_icmp_ne (tgt := 38) ok dX7_send_32 (by decide) (by omega) (by omega) (fun c32 => ?_) (fun c32 => ?_)
        · -- t
          refine z_aload_n ok dX7_send_38 rfl ?_
          refine z_bipush ok dX7_send_39 (by decide) ?_
          refine z_iload_n ok dX7_send_41 rfl ?_
          refine z_imul ok dX7_send_42 ?_
          refine z_iload_n ok dX7_send_43 rfl ?_
          refine z_callVi0 ok (fun l => c_X7_farOf  (hw) (by omega) (by omega) (hca)) zm_X7_farOf zv_X7_farOf qm_RX7_105 dX7_send_44 (by decide) (by decide) rfl rfl (Nat.le_of_ble_eq_true rfl) (q0 := 0) rfl rfl rfl (fun r44 u44 hp44 => ?_)
          obtain ⟨far_44, many_44, laid_44⟩ := u44
          try dsimp only at hp44
          obtain ⟨rfl, hc44⟩ := hp44
          refine z_eq (ws' := mW Z q now kept hist und sav isv pad sg it far_44 many_44 laid_44 sides stuck ord rd pl wr) rfl ?_
          have hfr := fr_rng (to := b) (s := 10 * a) hw (by omega) (by omega)
          refine z_if_ge (tgt := 53) ok dX7_send_47 (by decide) (by omega) (fun c47 => ?_) (fun c47 => ?_)
          · -- t
            refine z_aload_n ok dX7_send_53 rfl ?_
            refine z_callVv0 ok (fun l => c_X7_record  (by omega) (by omega)) zm_X7_record zv_X7_record qm_RX7_70 dX7_send_54 (by decide) (by decide) rfl rfl (Nat.le_of_ble_eq_true rfl) (q0 := 0) rfl rfl rfl (fun _ hp54 => ?_)
            refine z_eq (ws' := mW Z q now kept (recH it und hist now) (recU it und) sav isv pad sg it far_44 many_44 laid_44 sides stuck ord rd pl wr) rfl ?_
            refine z_aload_n ok dX7_send_57 rfl ?_
            refine z_get (v := .ref (q 1)) ok zc7 0 rfl 0 (by decide) qf_RX7_7 rfl rfl dX7_send_58 ?_
            refine z_bipush ok dX7_send_61 (by decide) ?_
            refine z_iald (f := now) ok 1 rfl dX7_send_63 (by omega) (by decide) ?_
            refine z_istore_n (lv' := [(3, .int (iI (now 6))), (0, .ref (q 0)), (1, .int (iI a)), (2, .int (iI b))]) ok dX7_send_64 (by decide) rfl ?_
            refine z_aload_n ok dX7_send_65 rfl ?_
            refine z_get (v := .ref (q 1)) ok zc7 0 rfl 0 (by decide) qf_RX7_7 rfl rfl dX7_send_66 ?_
            refine z_bipush ok dX7_send_69 (by decide) ?_
            refine z_dup2 ok dX7_send_71 rfl rfl ?_
            refine z_iald (f := now) ok 1 rfl dX7_send_72 (by omega) (by decide) ?_
            refine z_iconst ok dX7_send_73 ?_
            refine z_iadd ok dX7_send_74 ?_
            refine z_iast (f := now) (v := (now 6) + 1) (ws' := mW Z q (zu now 6 ((now 6) + 1)) kept (recH it und hist now) (recU it und) sav isv pad sg it far_44 many_44 laid_44 sides stuck ord rd pl wr) ok 1 rfl dX7_send_75 (by omega) (by decide) rfl ?_
            refine z_iconst ok dX7_send_76 ?_
            refine z_istore (lv' := [(4, .int (iI 0)), (3, .int (iI (now 6))), (0, .ref (q 0)), (1, .int (iI a)), (2, .int (iI b))]) ok dX7_send_77 (by decide) rfl ?_
            have L79 : ∀ (fuel : Nat) (k : Int) (N : Int → Int), (0 ≤ k) → (k ≤ 10) → (N = zcp (zu now 6 (now 6 + 1)) (fun _ => 0) (160 + 10 * now 6) k) → (10 - k).toNat < fuel → zV X 0 0 (mW Z q N kept (recH it und hist now) (recU it und) sav isv pad sg it far_44 many_44 laid_44 sides stuck ord rd pl wr) 79 [(0, .ref (q 0)), (1, .int (iI a)), (2, .int (iI b)), (3, .int (iI (now 6))), (4, .int (iI k))] [] := by
              intro fuel
              induction fuel with
              | zero => intro k N h79_0 h79_1 h79_2 hf; exact absurd hf (Nat.not_lt_zero _)
              | succ fuel ih79 =>
                intro k N h79_0 h79_1 h79_2 hf
                refine z_iload ok dX7_send_79 rfl ?_
                refine z_bipush ok dX7_send_81 (by decide) ?_
                refine z_icmp_ge (tgt := 100) ok dX7_send_83 (by decide) (by omega) (by omega) (fun c83 => ?_) (fun c83 => ?_)
                · -- t
                  refine z_aload_n ok dX7_send_100 rfl ?_
                  refine z_iload_n ok dX7_send_101 rfl ?_
                  refine z_iconst ok dX7_send_102 ?_
                  refine z_iload_n ok dX7_send_103 rfl ?_
                  refine z_callVv0 ok (fun l => c_X7_book  (by omega) (by omega)) zm_X7_book zv_X7_book qm_RX7_111 dX7_send_104 (by decide) (by decide) rfl rfl (Nat.le_of_ble_eq_true rfl) (q0 := 0) rfl rfl rfl (fun _ hp104 => ?_)
                  refine z_eq (ws' := mW Z q (bk N (now 6) 0 a) kept (recH it und hist now) (recU it und) sav isv pad sg it far_44 many_44 laid_44 sides stuck ord rd pl wr) rfl ?_
                  refine z_aload_n ok dX7_send_107 rfl ?_
                  refine z_iload_n ok dX7_send_108 rfl ?_
                  refine z_iconst ok dX7_send_109 ?_
                  refine z_iload_n ok dX7_send_110 rfl ?_
                  refine z_callVv0 ok (fun l => c_X7_book  (by omega) (by omega)) zm_X7_book zv_X7_book qm_RX7_111 dX7_send_111 (by decide) (by decide) rfl rfl (Nat.le_of_ble_eq_true rfl) (q0 := 0) rfl rfl rfl (fun _ hp111 => ?_)
                  refine z_eq (ws' := mW Z q (bk (bk N (now 6) 0 a) (now 6) 1 b) kept (recH it und hist now) (recU it und) sav isv pad sg it far_44 many_44 laid_44 sides stuck ord rd pl wr) rfl ?_
                  refine z_aload_n ok dX7_send_114 rfl ?_
                  refine z_iload_n ok dX7_send_115 rfl ?_
                  refine z_iconst ok dX7_send_116 ?_
                  refine z_iload_n ok dX7_send_117 rfl ?_
                  refine z_callVv0 ok (fun l => c_X7_book  (by omega) (by omega)) zm_X7_book zv_X7_book qm_RX7_111 dX7_send_118 (by decide) (by decide) rfl rfl (Nat.le_of_ble_eq_true rfl) (q0 := 0) rfl rfl rfl (fun _ hp118 => ?_)
                  refine z_eq (ws' := mW Z q (bk (bk (bk N (now 6) 0 a) (now 6) 1 b) (now 6) 3 a) kept (recH it und hist now) (recU it und) sav isv pad sg it far_44 many_44 laid_44 sides stuck ord rd pl wr) rfl ?_
                  refine z_aload_n ok dX7_send_121 rfl ?_
                  refine z_iload_n ok dX7_send_122 rfl ?_
                  refine z_bipush ok dX7_send_123 (by decide) ?_
                  refine z_aload_n ok dX7_send_125 rfl ?_
                  refine z_get (v := .ref (q 1)) ok zc7 0 rfl 0 (by decide) qf_RX7_7 rfl rfl dX7_send_126 ?_
                  refine z_iconst ok dX7_send_129 ?_
                  refine z_iald (f := bk (bk (bk N (now 6) 0 a) (now 6) 1 b) (now 6) 3 a) ok 1 rfl dX7_send_130 (by omega) (by decide) ?_
                  refine z_callVv0 ok (fun l => c_X7_book  (by omega) (by omega)) zm_X7_book zv_X7_book qm_RX7_111 dX7_send_131 (by decide) (by decide) rfl rfl (Nat.le_of_ble_eq_true rfl) (q0 := 0) rfl rfl rfl (fun _ hp131 => ?_)
                  refine z_eq (ws' := mW Z q (bk (bk (bk (bk N (now 6) 0 a) (now 6) 1 b) (now 6) 3 a) (now 6) 7 ((bk (bk (bk N (now 6) 0 a) (now 6) 1 b) (now 6) 3 a) 3)) kept (recH it und hist now) (recU it und) sav isv pad sg it far_44 many_44 laid_44 sides stuck ord rd pl wr) rfl ?_
                  refine z_aload_n ok dX7_send_134 rfl ?_
                  refine z_iload_n ok dX7_send_135 rfl ?_
                  refine z_bipush ok dX7_send_136 (by decide) ?_
                  refine z_bipush ok dX7_send_138 (by decide) ?_
                  refine z_callVv0 ok (fun l => c_X7_book  (by omega) (by omega)) zm_X7_book zv_X7_book qm_RX7_111 dX7_send_140 (by decide) (by decide) rfl rfl (Nat.le_of_ble_eq_true rfl) (q0 := 0) rfl rfl rfl (fun _ hp140 => ?_)
                  refine z_eq (ws' := mW Z q (bk (bk (bk (bk (bk N (now 6) 0 a) (now 6) 1 b) (now 6) 3 a) (now 6) 7 ((bk (bk (bk N (now 6) 0 a) (now 6) 1 b) (now 6) 3 a) 3)) (now 6) 8 (-6)) kept (recH it und hist now) (recU it und) sav isv pad sg it far_44 many_44 laid_44 sides stuck ord rd pl wr) rfl ?_
                  refine z_iload_n ok dX7_send_143 rfl ?_
                  have he : sndE now a b = 0 := by unfold sndE; rw [zif_t ⟨c5, c13, c18⟩, zif_f c32, zif_f (by omega)]
                  have hk : k = 10 := by omega
                  have h3 : bk (bk (bk N (now 6) 0 a) (now 6) 1 b) (now 6) 3 a 3 = now 3 := by rw [bk_lo w6.1 (by omega) (by omega), bk_lo w6.1 (by omega) (by omega), bk_lo w6.1 (by omega) (by omega), h79_2, zcp_out (by omega), zu_n (by omega)]
                  have hN : (bk (bk (bk (bk (bk N (now 6) 0 a) (now 6) 1 b) (now 6) 3 a) (now 6) 7 ((bk (bk (bk N (now 6) 0 a) (now 6) 1 b) (now 6) 3 a) 3)) (now 6) 8 (-6)) = sndN now a b := by unfold sndN clrN; rw [h3, h79_2, hk]
                  exact fin (now 6) (bk (bk (bk (bk (bk N (now 6) 0 a) (now 6) 1 b) (now 6) 3 a) (now 6) 7 ((bk (bk (bk N (now 6) 0 a) (now 6) 1 b) (now 6) 3 a) 3)) (now 6) 8 (-6), recH it und hist now, recU it und, far_44, many_44, laid_44) 144 _ _ _ dX7_send_144 (trivial) (⟨by rw [hN]; exact cache_same hw (snd_same w6.1) hc44, Or.inr ⟨he, rfl, hN, rfl, rfl⟩⟩) (by decide) (by decide)
                · -- f
                  refine z_aload_n ok dX7_send_86 rfl ?_
                  refine z_iload_n ok dX7_send_87 rfl ?_
                  refine z_iload ok dX7_send_88 rfl ?_
                  refine z_iconst ok dX7_send_90 ?_
                  refine z_callVv0 ok (fun l => c_X7_book  (by omega) (by omega)) zm_X7_book zv_X7_book qm_RX7_111 dX7_send_91 (by decide) (by decide) rfl rfl (Nat.le_of_ble_eq_true rfl) (q0 := 0) rfl rfl rfl (fun _ hp91 => ?_)
                  refine z_eq (ws' := mW Z q (bk N (now 6) k 0) kept (recH it und hist now) (recU it und) sav isv pad sg it far_44 many_44 laid_44 sides stuck ord rd pl wr) rfl ?_
                  refine z_iinc (lv' := [(4, .int (iI (k + 1))), (0, .ref (q 0)), (1, .int (iI a)), (2, .int (iI b)), (3, .int (iI (now 6)))]) ok dX7_send_94 4 rfl (by decide) rfl ?_
                  refine z_goto (tgt := 79) ok dX7_send_97 (by decide) ?_
                  refine z_lsub ok (lv' := [(0, .ref (q 0)), (1, .int (iI a)), (2, .int (iI b)), (3, .int (iI (now 6))), (4, .int (iI (k + 1)))]) [1, 2, 3, 4, 0] rfl ?_
                  exact ih79 _ _ (by omega) (by omega) (by rw [h79_2]; exact zcp_s (by omega)) (by omega)
            refine z_lsub ok (lv' := [(0, .ref (q 0)), (1, .int (iI a)), (2, .int (iI b)), (3, .int (iI (now 6))), (4, .int (iI 0))]) [2, 3, 4, 1, 0] rfl ?_
            exact L79 _ _ _ (by omega) (by omega) (zcp_0.symm) (Nat.lt_succ_self _)
          · -- f
            refine z_bipush ok dX7_send_50 (by decide) ?_
            have he : sndE now a b = -5 := by unfold sndE; rw [zif_t ⟨c5, c13, c18⟩, zif_f c32, zif_t (by omega)]
            exact fin (-5) (now, hist, und, far_44, many_44, laid_44) 52 _ _ _ dX7_send_52 (trivial) (⟨hc44, Or.inl ⟨by rw [he]; decide, he.symm, rfl, rfl, rfl⟩⟩) (by decide) (by decide)
        · -- f
          refine z_bipush ok dX7_send_35 (by decide) ?_
          have he : sndE now a b = -4 := by unfold sndE; rw [zif_t ⟨c5, c13, c18⟩, zif_t c32]
          exact fin (-4) (now, hist, und, far, many, laid) 37 _ _ _ dX7_send_37 (trivial) (⟨hca, Or.inl ⟨by rw [he]; decide, he.symm, rfl, rfl, rfl⟩⟩) (by decide) (by decide)
      · -- f
        refine z_iconst ok dX7_send_21 ?_
        have he : sndE now a b = -1 := by unfold sndE; exact zif_f (fun z => by first | exact c5 z.1 | exact c13 z.2.1 | exact z.2.2 c18)
        exact fin (-1) (now, hist, und, far, many, laid) 22 _ _ _ dX7_send_22 (trivial) (⟨hca, Or.inl ⟨by rw [he]; decide, he.symm, rfl, rfl, rfl⟩⟩) (by decide) (by decide)
set_option maxRecDepth 20000 in
theorem c_X7_ticks {l : Launch} {Z : zZ} {q : Nat → Nat} {now kept hist : Int → Int} {und : Int} {sav isv pad : Int → Int} {sg it : Int} {far many laid sides stuck ord : Int → Int} {rd pl wr : Int} {n : Int} (hw : wf now) (hu : 0 ≤ und ∧ und ≤ 6) (hit : 0 ≤ it ∧ it ≤ 1) (hn : -2147483648 ≤ n ∧ n < 2147483648) (hca : cacheOK now laid far many) : zI (T := (Int → Int) × (Int → Int) × Int × (Int → Int) × (Int → Int) × (Int → Int) × (Int → Int)) l yX7_ticks (Cond.code yX7_ticks cX7_ticks 3 (some .int) :: wsL_law) ({ frames := 10, cells := 0, slots := 0, locals := 244 } : Room) Z [.ref (q 0), .int (iI n)] (mW Z q now kept hist und sav isv pad sg it far many laid sides stuck ord rd pl wr) (fun u => mW Z q u.1 kept u.2.1 u.2.2.1 sav isv pad sg it u.2.2.2.1 u.2.2.2.2.1 u.2.2.2.2.2.1 u.2.2.2.2.2.2 stuck ord rd pl wr) (fun ρ u => cacheOK u.1 u.2.2.2.2.2.1 u.2.2.2.1 u.2.2.2.2.1 ∧ ((¬ (1 ≤ n ∧ n ≤ 300) ∧ ρ = -2 ∧ u.1 = now ∧ u.2.1 = hist ∧ u.2.2.1 = und) ∨ ((1 ≤ n ∧ n ≤ 300) ∧ ρ = now 3 + n ∧ u.1 = tkN now n.toNat ∧ u.2.1 = recH it und hist now ∧ u.2.2.1 = recU it und))) := by
  refine zI_of (C := RX7) (by decide +kernel) rfl (Nat.le_of_ble_eq_true rfl) (fun _ => True) znI (fun X ok fin => ?_)
  refine z_lsub ok (lv' := [(0, .ref (q 0)), (1, .int (iI n))]) [0, 1] rfl ?_
  refine z_iload_n ok dX7_ticks_0 rfl ?_
  refine z_iconst ok dX7_ticks_1 ?_
  refine z_sipush ok dX7_ticks_2 (by decide) ?_
  refine z_callSie ok (fun l => c_X7_in  (by omega) (by omega) (by omega)) zm_X7_in qt_X7_in qm_RX7_59 dX7_ticks_5 (by decide) (by decide) rfl rfl (Nat.le_of_ble_eq_true rfl) (fun ρ _ hρ => ?_)
  subst hρ
  refine z_ifb_ne (tgt := 14) ok dX7_ticks_8 (by decide) (fun c8 => ?_) (fun c8 => ?_)
  · -- t
    refine z_aload_n ok dX7_ticks_14 rfl ?_
    refine z_callVv0 ok (fun l => c_X7_record  (by omega) (by omega)) zm_X7_record zv_X7_record qm_RX7_70 dX7_ticks_15 (by decide) (by decide) rfl rfl (Nat.le_of_ble_eq_true rfl) (q0 := 0) rfl rfl rfl (fun _ hp15 => ?_)
    refine z_eq (ws' := mW Z q now kept (recH it und hist now) (recU it und) sav isv pad sg it far many laid sides stuck ord rd pl wr) rfl ?_
    refine z_iconst ok dX7_ticks_18 ?_
    refine z_istore_n (lv' := [(2, .int (iI 0)), (0, .ref (q 0)), (1, .int (iI n))]) ok dX7_ticks_19 (by decide) rfl ?_
    have L20 : ∀ (fuel : Nat) (k : Int) (N sd f m ld : Int → Int), (0 ≤ k) → (k ≤ n) → (N = tkN now k.toNat) → (cacheOK N ld f m) → (n - k).toNat < fuel → zV X 0 0 (mW Z q N kept (recH it und hist now) (recU it und) sav isv pad sg it f m ld sd stuck ord rd pl wr) 20 [(0, .ref (q 0)), (1, .int (iI n)), (2, .int (iI k))] [] := by
      intro fuel
      induction fuel with
      | zero => intro k N sd f m ld h20_0 h20_1 h20_2 h20_3 hf; exact absurd hf (Nat.not_lt_zero _)
      | succ fuel ih20 =>
        intro k N sd f m ld h20_0 h20_1 h20_2 h20_3 hf
        have hwf := wf_tks hw k.toNat
        rw [← h20_2] at hwf
        obtain ⟨hwN, hloN, htkN⟩ := hwf
        refine z_iload_n ok dX7_ticks_20 rfl ?_
        refine z_iload_n ok dX7_ticks_21 rfl ?_
        refine z_icmp_ge (tgt := 35) ok dX7_ticks_22 (by decide) (by omega) (by omega) (fun c22 => ?_) (fun c22 => ?_)
        · -- t
          refine z_aload_n ok dX7_ticks_35 rfl ?_
          refine z_get (v := .ref (q 1)) ok zc7 0 rfl 0 (by decide) qf_RX7_7 rfl rfl dX7_ticks_36 ?_
          refine z_iconst ok dX7_ticks_39 ?_
          refine z_iald (f := N) ok 1 rfl dX7_ticks_40 (by omega) (by decide) ?_
          have hk : k = n := by omega
          exact fin (N 3) (N, recH it und hist now, recU it und, f, m, ld, sd) 41 _ _ _ dX7_ticks_41 (trivial) (⟨h20_3, Or.inr ⟨c8, by rw [htkN, hk]; omega, by rw [← hk]; exact h20_2, rfl, rfl⟩⟩) (by decide) (by decide)
        · -- f
          refine z_aload_n ok dX7_ticks_25 rfl ?_
          refine z_callVv0 ok (fun l => c_X7_pass  (hwN) (h20_3)) zm_X7_pass zv_X7_pass qm_RX7_128 dX7_ticks_26 (by decide) (by decide) rfl rfl (Nat.le_of_ble_eq_true rfl) (q0 := 0) rfl rfl rfl (fun u26 hp26 => ?_)
          obtain ⟨sides_26, far_26, many_26, laid_26⟩ := u26
          try dsimp only at hp26
          have hc26 := hp26
          refine z_eq (ws' := mW Z q (pasN N) kept (recH it und hist now) (recU it und) sav isv pad sg it far_26 many_26 laid_26 sides_26 stuck ord rd pl wr) rfl ?_
          refine z_iinc (lv' := [(2, .int (iI (k + 1))), (0, .ref (q 0)), (1, .int (iI n))]) ok dX7_ticks_29 2 rfl (by decide) rfl ?_
          refine z_goto (tgt := 20) ok dX7_ticks_32 (by decide) ?_
          refine z_lsub ok (lv' := [(0, .ref (q 0)), (1, .int (iI n)), (2, .int (iI (k + 1)))]) [1, 2, 0] rfl ?_
          exact ih20 _ _ _ _ _ _ (by omega) (by omega) (by rw [tkN_s (by omega) h20_2]) (hc26) (by omega)
    refine z_lsub ok (lv' := [(0, .ref (q 0)), (1, .int (iI n)), (2, .int (iI 0))]) [1, 2, 0] rfl ?_
    exact L20 _ _ _ _ _ _ _ (by omega) (by omega) (rfl) (hca) (Nat.lt_succ_self _)
  · -- f
    refine z_bipush ok dX7_ticks_11 (by decide) ?_
    exact fin (-2) (now, hist, und, far, many, laid, sides) 13 _ _ _ dX7_ticks_13 (trivial) (⟨hca, Or.inl ⟨c8, rfl, rfl, rfl, rfl⟩⟩) (by decide) (by decide)
set_option maxRecDepth 20000 in
theorem c_X7_undo {l : Launch} {Z : zZ} {q : Nat → Nat} {now kept hist : Int → Int} {und : Int} {sav isv pad : Int → Int} {sg it : Int} {far many laid sides stuck ord : Int → Int} {rd pl wr : Int} (hu : 0 ≤ und ∧ und ≤ 6) : zI (T := (Int → Int) × (Int → Int) × Int × (Int → Int)) l yX7_undo (Cond.code yX7_undo cX7_undo 2 (some .int) :: wsL_law) ({ frames := 1, cells := 0, slots := 0, locals := 21 } : Room) Z [.ref (q 0)] (mW Z q now kept hist und sav isv pad sg it far many laid sides stuck ord rd pl wr) (fun u => mW Z q u.1 kept u.2.1 u.2.2.1 sav isv pad sg it far many u.2.2.2 sides stuck ord rd pl wr) (fun ρ u => (und = 0 ∧ ρ = -5 ∧ u = (now, hist, und, laid)) ∨ (¬ und = 0 ∧ ρ = und - 1 ∧ u = (zcp now (fun j => hist ((und - 1) * 560 + j)) 0 560, hist, und - 1, zcp laid (fun _ => 0) 0 25))) := by
  refine zI_of (C := RX7) (by decide +kernel) rfl (Nat.le_of_ble_eq_true rfl) (fun _ => True) znI (fun X ok fin => ?_)
  refine z_lsub ok (lv' := [(0, .ref (q 0))]) [0] rfl ?_
  refine z_aload_n ok dX7_undo_0 rfl ?_
  refine z_get (v := .int (iI und)) ok zc7 0 rfl 3 (by decide) qf_RX7_51 rfl rfl dX7_undo_1 ?_
  refine z_if_ne (tgt := 10) ok dX7_undo_4 (by decide) (by omega) (fun c4 => ?_) (fun c4 => ?_)
  · -- t
    refine z_aload_n ok dX7_undo_10 rfl ?_
    refine z_dup ok dX7_undo_11 rfl ?_
    refine z_get (v := .int (iI und)) ok zc7 0 rfl 3 (by decide) qf_RX7_51 rfl rfl dX7_undo_12 ?_
    refine z_iconst ok dX7_undo_15 ?_
    refine z_isub ok dX7_undo_16 ?_
    refine z_put (ws' := mW Z q now kept hist (und - 1) sav isv pad sg it far many laid sides stuck ord rd pl wr) ok zc7 0 rfl 3 (by decide) qf_RX7_51 rfl rfl rfl rfl (Nat.le_of_ble_eq_true rfl) dX7_undo_17 rfl ?_
    refine z_iconst ok dX7_undo_20 ?_
    refine z_istore_n (lv' := [(1, .int (iI 0)), (0, .ref (q 0))]) ok dX7_undo_21 (by decide) rfl ?_
    have L22 : ∀ (fuel : Nat) (k : Int) (N : Int → Int), (0 ≤ k) → (k ≤ 560) → (N = zcp now (fun j => hist ((und - 1) * 560 + j)) 0 k) → (560 - k).toNat < fuel → zV X 0 0 (mW Z q N kept hist (und - 1) sav isv pad sg it far many laid sides stuck ord rd pl wr) 22 [(0, .ref (q 0)), (1, .int (iI k))] [] := by
      intro fuel
      induction fuel with
      | zero => intro k N h22_0 h22_1 h22_2 hf; exact absurd hf (Nat.not_lt_zero _)
      | succ fuel ih22 =>
        intro k N h22_0 h22_1 h22_2 hf
        refine z_iload_n ok dX7_undo_22 rfl ?_
        refine z_sipush ok dX7_undo_23 (by decide) ?_
        refine z_icmp_ge (tgt := 56) ok dX7_undo_26 (by decide) (by omega) (by omega) (fun c26 => ?_) (fun c26 => ?_)
        · -- t
          refine z_aload_n ok dX7_undo_56 rfl ?_
          refine z_callVv0 ok (fun l => c_X7_forget  ) zm_X7_forget zv_X7_forget qm_RX7_73 dX7_undo_57 (by decide) (by decide) rfl rfl (Nat.le_of_ble_eq_true rfl) (q0 := 0) rfl rfl rfl (fun _ hp57 => ?_)
          refine z_eq (ws' := mW Z q N kept hist (und - 1) sav isv pad sg it far many (zcp laid (fun _ => 0) 0 25) sides stuck ord rd pl wr) rfl ?_
          refine z_aload_n ok dX7_undo_60 rfl ?_
          refine z_get (v := .int (iI (und - 1))) ok zc7 0 rfl 3 (by decide) qf_RX7_51 rfl rfl dX7_undo_61 ?_
          have hk : k = 560 := by omega
          exact fin (und - 1) (N, hist, und - 1, zcp laid (fun _ => 0) 0 25) 64 _ _ _ dX7_undo_64 (trivial) (Or.inr ⟨c4, rfl, by rw [h22_2, hk]⟩) (by decide) (by decide)
        · -- f
          refine z_aload_n ok dX7_undo_29 rfl ?_
          refine z_get (v := .ref (q 1)) ok zc7 0 rfl 0 (by decide) qf_RX7_7 rfl rfl dX7_undo_30 ?_
          refine z_iload_n ok dX7_undo_33 rfl ?_
          refine z_aload_n ok dX7_undo_34 rfl ?_
          refine z_get (v := .ref (q 3)) ok zc7 0 rfl 2 (by decide) qf_RX7_16 rfl rfl dX7_undo_35 ?_
          refine z_aload_n ok dX7_undo_38 rfl ?_
          refine z_get (v := .int (iI (und - 1))) ok zc7 0 rfl 3 (by decide) qf_RX7_51 rfl rfl dX7_undo_39 ?_
          refine z_sipush ok dX7_undo_42 (by decide) ?_
          refine z_imul ok dX7_undo_45 ?_
          refine z_iload_n ok dX7_undo_46 rfl ?_
          refine z_iadd ok dX7_undo_47 ?_
          refine z_iald (f := hist) ok 3 rfl dX7_undo_48 (by omega) (by decide) ?_
          refine z_iast (f := N) (v := hist (((und - 1) * 560) + k)) (ws' := mW Z q (zu N k (hist (((und - 1) * 560) + k))) kept hist (und - 1) sav isv pad sg it far many laid sides stuck ord rd pl wr) ok 1 rfl dX7_undo_49 (by omega) (by decide) rfl ?_
          refine z_iinc (lv' := [(1, .int (iI (k + 1))), (0, .ref (q 0))]) ok dX7_undo_50 1 rfl (by decide) rfl ?_
          refine z_goto (tgt := 22) ok dX7_undo_53 (by decide) ?_
          refine z_lsub ok (lv' := [(0, .ref (q 0)), (1, .int (iI (k + 1)))]) [1, 0] rfl ?_
          exact ih22 _ _ (by omega) (by omega) (by rw [h22_2]; exact zcp_z (g := fun j => hist ((und - 1) * 560 + j)) (by omega)) (by omega)
    refine z_lsub ok (lv' := [(0, .ref (q 0)), (1, .int (iI 0))]) [1, 0] rfl ?_
    exact L22 _ _ _ (by omega) (by omega) (zcp_0.symm) (Nat.lt_succ_self _)
  · -- f
    refine z_bipush ok dX7_undo_7 (by decide) ?_
    exact fin (-5) (now, hist, und, laid) 9 _ _ _ dX7_undo_9 (trivial) (Or.inl ⟨c4, rfl, rfl⟩) (by decide) (by decide)
set_option maxRecDepth 20000 in
theorem c_X7_save {l : Launch} {Z : zZ} {q : Nat → Nat} {now kept hist : Int → Int} {und : Int} {sav isv pad : Int → Int} {sg it : Int} {far many laid sides stuck ord : Int → Int} {rd pl wr : Int} {s : Int} (hs : -2147483648 ≤ s ∧ s < 2147483648) : zI (T := (Int → Int) × (Int → Int)) l yX7_save (Cond.code yX7_save cX7_save 3 (some .int) :: wsL_law) ({ frames := 1, cells := 0, slots := 0, locals := 22 } : Room) Z [.ref (q 0), .int (iI s)] (mW Z q now kept hist und sav isv pad sg it far many laid sides stuck ord rd pl wr) (fun u => mW Z q now kept hist und u.1 u.2 pad sg it far many laid sides stuck ord rd pl wr) (fun ρ u => (¬ (0 ≤ s ∧ s ≤ 1) ∧ ρ = -2 ∧ u = (sav, isv)) ∨ ((0 ≤ s ∧ s ≤ 1) ∧ ρ = now 3 ∧ u = (zcp sav now (s * 560) 560, zu isv s 1))) := by
  refine zI_of (C := RX7) (by decide +kernel) rfl (Nat.le_of_ble_eq_true rfl) (fun _ => True) znI (fun X ok fin => ?_)
  refine z_lsub ok (lv' := [(0, .ref (q 0)), (1, .int (iI s))]) [0, 1] rfl ?_
  refine z_iload_n ok dX7_save_0 rfl ?_
  refine z_iconst ok dX7_save_1 ?_
  refine z_iconst ok dX7_save_2 ?_
  refine z_callSie ok (fun l => c_X7_in  (by omega) (by omega) (by omega)) zm_X7_in qt_X7_in qm_RX7_59 dX7_save_3 (by decide) (by decide) rfl rfl (Nat.le_of_ble_eq_true rfl) (fun ρ _ hρ => ?_)
  subst hρ
  refine z_ifb_ne (tgt := 12) ok dX7_save_6 (by decide) (fun c6 => ?_) (fun c6 => ?_)
  · -- t
    refine z_iconst ok dX7_save_12 ?_
    refine z_istore_n (lv' := [(2, .int (iI 0)), (0, .ref (q 0)), (1, .int (iI s))]) ok dX7_save_13 (by decide) rfl ?_
    have L14 : ∀ (fuel : Nat) (k : Int) (h : Int → Int), (0 ≤ k) → (k ≤ 560) → (h = zcp sav now (s * 560) k) → (560 - k).toNat < fuel → zV X 0 0 (mW Z q now kept hist und h isv pad sg it far many laid sides stuck ord rd pl wr) 14 [(0, .ref (q 0)), (1, .int (iI s)), (2, .int (iI k))] [] := by
      intro fuel
      induction fuel with
      | zero => intro k h h14_0 h14_1 h14_2 hf; exact absurd hf (Nat.not_lt_zero _)
      | succ fuel ih14 =>
        intro k h h14_0 h14_1 h14_2 hf
        refine z_iload_n ok dX7_save_14 rfl ?_
        refine z_sipush ok dX7_save_15 (by decide) ?_
        refine z_icmp_ge (tgt := 45) ok dX7_save_18 (by decide) (by omega) (by omega) (fun c18 => ?_) (fun c18 => ?_)
        · -- t
          refine z_aload_n ok dX7_save_45 rfl ?_
          refine z_get (v := .ref (q 5)) ok zc7 0 rfl 5 (by decide) qf_RX7_22 rfl rfl dX7_save_46 ?_
          refine z_iload_n ok dX7_save_49 rfl ?_
          refine z_iconst ok dX7_save_50 ?_
          refine z_zast (f := isv) (v := 1) (ws' := mW Z q now kept hist und h (zu isv s 1) pad sg it far many laid sides stuck ord rd pl wr) ok 5 rfl dX7_save_51 (by omega) (by decide) (by first | decide | exact zb_01 _ | omega) rfl ?_
          refine z_aload_n ok dX7_save_52 rfl ?_
          refine z_get (v := .ref (q 1)) ok zc7 0 rfl 0 (by decide) qf_RX7_7 rfl rfl dX7_save_53 ?_
          refine z_iconst ok dX7_save_56 ?_
          refine z_iald (f := now) ok 1 rfl dX7_save_57 (by omega) (by decide) ?_
          have hk : k = 560 := by omega
          exact fin (now 3) (h, zu isv s 1) 58 _ _ _ dX7_save_58 (trivial) (Or.inr ⟨c6, rfl, by rw [h14_2, hk]⟩) (by decide) (by decide)
        · -- f
          refine z_aload_n ok dX7_save_21 rfl ?_
          refine z_get (v := .ref (q 4)) ok zc7 0 rfl 4 (by decide) qf_RX7_19 rfl rfl dX7_save_22 ?_
          refine z_iload_n ok dX7_save_25 rfl ?_
          refine z_sipush ok dX7_save_26 (by decide) ?_
          refine z_imul ok dX7_save_29 ?_
          refine z_iload_n ok dX7_save_30 rfl ?_
          refine z_iadd ok dX7_save_31 ?_
          refine z_aload_n ok dX7_save_32 rfl ?_
          refine z_get (v := .ref (q 1)) ok zc7 0 rfl 0 (by decide) qf_RX7_7 rfl rfl dX7_save_33 ?_
          refine z_iload_n ok dX7_save_36 rfl ?_
          refine z_iald (f := now) ok 1 rfl dX7_save_37 (by omega) (by decide) ?_
          refine z_iast (f := h) (v := now k) (ws' := mW Z q now kept hist und (zu h ((s * 560) + k) (now k)) isv pad sg it far many laid sides stuck ord rd pl wr) ok 4 rfl dX7_save_38 (by omega) (by decide) rfl ?_
          refine z_iinc (lv' := [(2, .int (iI (k + 1))), (0, .ref (q 0)), (1, .int (iI s))]) ok dX7_save_39 2 rfl (by decide) rfl ?_
          refine z_goto (tgt := 14) ok dX7_save_42 (by decide) ?_
          refine z_lsub ok (lv' := [(0, .ref (q 0)), (1, .int (iI s)), (2, .int (iI (k + 1)))]) [1, 2, 0] rfl ?_
          exact ih14 _ _ (by omega) (by omega) (by rw [h14_2]; exact zcp_s (by omega)) (by omega)
    refine z_lsub ok (lv' := [(0, .ref (q 0)), (1, .int (iI s)), (2, .int (iI 0))]) [1, 2, 0] rfl ?_
    exact L14 _ _ _ (by omega) (by omega) (zcp_0.symm) (Nat.lt_succ_self _)
  · -- f
    refine z_bipush ok dX7_save_9 (by decide) ?_
    exact fin (-2) (sav, isv) 11 _ _ _ dX7_save_11 (trivial) (Or.inl ⟨c6, rfl, rfl⟩) (by decide) (by decide)
set_option maxRecDepth 20000 in
theorem c_X7_restore {l : Launch} {Z : zZ} {q : Nat → Nat} {now kept hist : Int → Int} {und : Int} {sav isv pad : Int → Int} {sg it : Int} {far many laid sides stuck ord : Int → Int} {rd pl wr : Int} {s : Int} (hu : 0 ≤ und ∧ und ≤ 6) (hit : 0 ≤ it ∧ it ≤ 1) (hs : -2147483648 ≤ s ∧ s < 2147483648) (hsv : ∀ i : Int, 0 ≤ i → i < 2 → isv i = 0 ∨ isv i = 1) : zI (T := (Int → Int) × (Int → Int) × Int × (Int → Int)) l yX7_restore (Cond.code yX7_restore cX7_restore 3 (some .int) :: wsL_law) ({ frames := 1, cells := 0, slots := 0, locals := 22 } : Room) Z [.ref (q 0), .int (iI s)] (mW Z q now kept hist und sav isv pad sg it far many laid sides stuck ord rd pl wr) (fun u => mW Z q u.1 kept u.2.1 u.2.2.1 sav isv pad sg it far many u.2.2.2 sides stuck ord rd pl wr) (fun ρ u => (¬ (0 ≤ s ∧ s ≤ 1) ∧ ρ = -2 ∧ u = (now, hist, und, laid)) ∨ ((0 ≤ s ∧ s ≤ 1) ∧ isv s = 0 ∧ ρ = -5 ∧ u = (now, hist, und, laid)) ∨ ((0 ≤ s ∧ s ≤ 1) ∧ ¬ isv s = 0 ∧ ρ = sav (s * 560 + 3) ∧ u = (zcp now (fun j => sav (s * 560 + j)) 0 560, recH it und hist now, recU it und, zcp laid (fun _ => 0) 0 25))) := by
  refine zI_of (C := RX7) (by decide +kernel) rfl (Nat.le_of_ble_eq_true rfl) (fun _ => True) znI (fun X ok fin => ?_)
  refine z_lsub ok (lv' := [(0, .ref (q 0)), (1, .int (iI s))]) [0, 1] rfl ?_
  refine z_iload_n ok dX7_restore_0 rfl ?_
  refine z_iconst ok dX7_restore_1 ?_
  refine z_iconst ok dX7_restore_2 ?_
  refine z_callSie ok (fun l => c_X7_in  (by omega) (by omega) (by omega)) zm_X7_in qt_X7_in qm_RX7_59 dX7_restore_3 (by decide) (by decide) rfl rfl (Nat.le_of_ble_eq_true rfl) (fun ρ _ hρ => ?_)
  subst hρ
  refine z_ifb_ne (tgt := 12) ok dX7_restore_6 (by decide) (fun c6 => ?_) (fun c6 => ?_)
  · -- t
    have hss := hsv s (by omega) (by omega)
    refine z_aload_n ok dX7_restore_12 rfl ?_
    refine z_get (v := .ref (q 5)) ok zc7 0 rfl 5 (by decide) qf_RX7_22 rfl rfl dX7_restore_13 ?_
    refine z_iload_n ok dX7_restore_16 rfl ?_
    refine z_zald (f := isv) ok 5 rfl dX7_restore_17 (by omega) (by decide) ?_
    refine z_if_ne (tgt := 24) ok dX7_restore_18 (by decide) (by omega) (fun c18 => ?_) (fun c18 => ?_)
    · -- t
      refine z_aload_n ok dX7_restore_24 rfl ?_
      refine z_callVv0 ok (fun l => c_X7_record  (by omega) (by omega)) zm_X7_record zv_X7_record qm_RX7_70 dX7_restore_25 (by decide) (by decide) rfl rfl (Nat.le_of_ble_eq_true rfl) (q0 := 0) rfl rfl rfl (fun _ hp25 => ?_)
      refine z_eq (ws' := mW Z q now kept (recH it und hist now) (recU it und) sav isv pad sg it far many laid sides stuck ord rd pl wr) rfl ?_
      refine z_iconst ok dX7_restore_28 ?_
      refine z_istore_n (lv' := [(2, .int (iI 0)), (0, .ref (q 0)), (1, .int (iI s))]) ok dX7_restore_29 (by decide) rfl ?_
      have L30 : ∀ (fuel : Nat) (k : Int) (N : Int → Int), (0 ≤ k) → (k ≤ 560) → (N = zcp now (fun j => sav (s * 560 + j)) 0 k) → (560 - k).toNat < fuel → zV X 0 0 (mW Z q N kept (recH it und hist now) (recU it und) sav isv pad sg it far many laid sides stuck ord rd pl wr) 30 [(0, .ref (q 0)), (1, .int (iI s)), (2, .int (iI k))] [] := by
        intro fuel
        induction fuel with
        | zero => intro k N h30_0 h30_1 h30_2 hf; exact absurd hf (Nat.not_lt_zero _)
        | succ fuel ih30 =>
          intro k N h30_0 h30_1 h30_2 hf
          refine z_iload_n ok dX7_restore_30 rfl ?_
          refine z_sipush ok dX7_restore_31 (by decide) ?_
          refine z_icmp_ge (tgt := 61) ok dX7_restore_34 (by decide) (by omega) (by omega) (fun c34 => ?_) (fun c34 => ?_)
          · -- t
            refine z_aload_n ok dX7_restore_61 rfl ?_
            refine z_callVv0 ok (fun l => c_X7_forget  ) zm_X7_forget zv_X7_forget qm_RX7_73 dX7_restore_62 (by decide) (by decide) rfl rfl (Nat.le_of_ble_eq_true rfl) (q0 := 0) rfl rfl rfl (fun _ hp62 => ?_)
            refine z_eq (ws' := mW Z q N kept (recH it und hist now) (recU it und) sav isv pad sg it far many (zcp laid (fun _ => 0) 0 25) sides stuck ord rd pl wr) rfl ?_
            refine z_aload_n ok dX7_restore_65 rfl ?_
            refine z_get (v := .ref (q 1)) ok zc7 0 rfl 0 (by decide) qf_RX7_7 rfl rfl dX7_restore_66 ?_
            refine z_iconst ok dX7_restore_69 ?_
            refine z_iald (f := N) ok 1 rfl dX7_restore_70 (by omega) (by decide) ?_
            have hk : k = 560 := by omega
            exact fin (N 3) (N, recH it und hist now, recU it und, zcp laid (fun _ => 0) 0 25) 71 _ _ _ dX7_restore_71 (trivial) (Or.inr (Or.inr ⟨c6, c18, by rw [h30_2, hk, zcp_in (by omega)]; rfl, by rw [h30_2, hk]⟩)) (by decide) (by decide)
          · -- f
            refine z_aload_n ok dX7_restore_37 rfl ?_
            refine z_get (v := .ref (q 1)) ok zc7 0 rfl 0 (by decide) qf_RX7_7 rfl rfl dX7_restore_38 ?_
            refine z_iload_n ok dX7_restore_41 rfl ?_
            refine z_aload_n ok dX7_restore_42 rfl ?_
            refine z_get (v := .ref (q 4)) ok zc7 0 rfl 4 (by decide) qf_RX7_19 rfl rfl dX7_restore_43 ?_
            refine z_iload_n ok dX7_restore_46 rfl ?_
            refine z_sipush ok dX7_restore_47 (by decide) ?_
            refine z_imul ok dX7_restore_50 ?_
            refine z_iload_n ok dX7_restore_51 rfl ?_
            refine z_iadd ok dX7_restore_52 ?_
            refine z_iald (f := sav) ok 4 rfl dX7_restore_53 (by omega) (by decide) ?_
            refine z_iast (f := N) (v := sav ((s * 560) + k)) (ws' := mW Z q (zu N k (sav ((s * 560) + k))) kept (recH it und hist now) (recU it und) sav isv pad sg it far many laid sides stuck ord rd pl wr) ok 1 rfl dX7_restore_54 (by omega) (by decide) rfl ?_
            refine z_iinc (lv' := [(2, .int (iI (k + 1))), (0, .ref (q 0)), (1, .int (iI s))]) ok dX7_restore_55 2 rfl (by decide) rfl ?_
            refine z_goto (tgt := 30) ok dX7_restore_58 (by decide) ?_
            refine z_lsub ok (lv' := [(0, .ref (q 0)), (1, .int (iI s)), (2, .int (iI (k + 1)))]) [1, 2, 0] rfl ?_
            exact ih30 _ _ (by omega) (by omega) (by rw [h30_2]; exact zcp_z (g := fun j => sav (s * 560 + j)) (by omega)) (by omega)
      refine z_lsub ok (lv' := [(0, .ref (q 0)), (1, .int (iI s)), (2, .int (iI 0))]) [1, 2, 0] rfl ?_
      exact L30 _ _ _ (by omega) (by omega) (zcp_0.symm) (Nat.lt_succ_self _)
    · -- f
      refine z_bipush ok dX7_restore_21 (by decide) ?_
      exact fin (-5) (now, hist, und, laid) 23 _ _ _ dX7_restore_23 (trivial) (Or.inr (Or.inl ⟨c6, c18, rfl, rfl⟩)) (by decide) (by decide)
  · -- f
    refine z_bipush ok dX7_restore_9 (by decide) ?_
    exact fin (-2) (now, hist, und, laid) 11 _ _ _ dX7_restore_11 (trivial) (Or.inl ⟨c6, rfl, rfl⟩) (by decide) (by decide)
set_option maxRecDepth 20000 in
theorem c_X7_wipe {l : Launch} {Z : zZ} {q : Nat → Nat} {now kept hist : Int → Int} {und : Int} {sav isv pad : Int → Int} {sg it : Int} {far many laid sides stuck ord : Int → Int} {rd pl wr : Int}  : zI (T := Unit) l yX7_wipe (Cond.code yX7_wipe cX7_wipe 2 (some .int) :: wsL_law) ({ frames := 0, cells := 0, slots := 0, locals := 0 } : Room) Z [.ref (q 0)] (mW Z q now kept hist und sav isv pad sg it far many laid sides stuck ord rd pl wr) (fun _ => mW Z q now kept hist und sav isv pad 0 it far many laid sides stuck ord rd pl wr) (fun ρ _ => ρ = sg) := by
  refine zI_of (C := RX7) (by decide +kernel) rfl (Nat.le_of_ble_eq_true rfl) (fun _ => True) znI (fun X ok fin => ?_)
  refine z_lsub ok (lv' := [(0, .ref (q 0))]) [0] rfl ?_
  refine z_aload_n ok dX7_wipe_0 rfl ?_
  refine z_get (v := .int (iI sg)) ok zc7 0 rfl 7 (by decide) qf_RX7_152 rfl rfl dX7_wipe_1 ?_
  refine z_istore_n (lv' := [(1, .int (iI sg)), (0, .ref (q 0))]) ok dX7_wipe_4 (by decide) rfl ?_
  refine z_aload_n ok dX7_wipe_5 rfl ?_
  refine z_iconst ok dX7_wipe_6 ?_
  refine z_put (ws' := mW Z q now kept hist und sav isv pad 0 it far many laid sides stuck ord rd pl wr) ok zc7 0 rfl 7 (by decide) qf_RX7_152 rfl rfl rfl rfl (Nat.le_of_ble_eq_true rfl) dX7_wipe_7 rfl ?_
  refine z_iload_n ok dX7_wipe_10 rfl ?_
  exact fin sg () 11 _ _ _ dX7_wipe_11 (trivial) (rfl) (by decide) (by decide)
