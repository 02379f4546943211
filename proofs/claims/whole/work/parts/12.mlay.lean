set_option maxHeartbeats 4000000 in
set_option maxRecDepth 20000 in
theorem c_X7_layFar {l : Launch} {Z : zZ} {q : Nat → Nat} {now kept hist : Int → Int} {und : Int} {sav isv pad : Int → Int} {sg it : Int} {far many laid sides stuck ord : Int → Int} {rd pl wr : Int} {to : Int} (hw : wf now) (ht : 0 ≤ to ∧ to < now 4 * now 5) (hca : cacheOK now laid far many) : zN (T := (Int → Int) × (Int → Int) × (Int → Int)) l yX7_layFar (Cond.code yX7_layFar cX7_layFar 10 none :: wsL_law) ({ frames := 5, cells := 0, slots := 0, locals := 120 } : Room) Z [.ref (q 0), .int (iI to)] (mW Z q now kept hist und sav isv pad sg it far many laid sides stuck ord rd pl wr) (fun u => mW Z q now kept hist und sav isv pad sg it u.1 u.2.1 u.2.2 sides stuck ord rd pl wr) (fun u => cacheOK now u.2.2 u.1 u.2.1 ∧ u.2.2 to = 1) := by
  refine zN_of (C := RX7) (by decide +kernel) rfl (Nat.le_of_ble_eq_true rfl) (fun X ok fin => ?_)
  have hcr := wf_cr hw
  have hl0 := (hca to (by omega) (by omega)).1
  refine z_lsub ok (lv' := [(0, .ref (q 0)), (1, .int (iI to))]) [0, 1] rfl ?_
  refine z_aload_n ok dX7_layFar_0 rfl ?_
  refine z_get (v := .ref (q 9)) ok zc7 0 rfl 11 (by decide) qf_RX7_35 rfl rfl dX7_layFar_1 ?_
  refine z_iload_n ok dX7_layFar_4 rfl ?_
  refine z_zald (f := laid) ok 9 rfl dX7_layFar_5 (by omega) (by decide) ?_
  refine z_if_eq (tgt := 10) ok dX7_layFar_6 (by decide) (by omega) (fun c6 => ?_) (fun c6 => ?_)
  · -- t
    refine z_aload_n ok dX7_layFar_10 rfl ?_
    refine z_get (v := .ref (q 9)) ok zc7 0 rfl 11 (by decide) qf_RX7_35 rfl rfl dX7_layFar_11 ?_
    refine z_iload_n ok dX7_layFar_14 rfl ?_
    refine z_iconst ok dX7_layFar_15 ?_
    refine z_zast (f := laid) (v := 1) (ws' := mW Z q now kept hist und sav isv pad sg it far many (zu laid to 1) sides stuck ord rd pl wr) ok 9 rfl dX7_layFar_16 (by omega) (by decide) (by first | decide | exact zb_01 _ | omega) rfl ?_
    refine z_sipush ok dX7_layFar_17 (by decide) ?_
    refine z_iload_n ok dX7_layFar_20 rfl ?_
    refine z_imul ok dX7_layFar_21 ?_
    refine z_istore_n (lv' := [(2, .int (iI (250 * to))), (0, .ref (q 0)), (1, .int (iI to))]) ok dX7_layFar_22 (by decide) rfl ?_
    refine z_bipush ok dX7_layFar_23 (by decide) ?_
    refine z_aload_n ok dX7_layFar_25 rfl ?_
    refine z_callVi0 ok (fun l => c_X7_boxes  ) zm_X7_boxes zv_X7_boxes qm_RX7_55 dX7_layFar_26 (by decide) (by decide) rfl rfl (Nat.le_of_ble_eq_true rfl) (q0 := 0) rfl rfl rfl (fun ρ _ hρ => ?_)
    subst hρ
    refine z_eq (ws' := mW Z q now kept hist und sav isv pad sg it far many (zu laid to 1) sides stuck ord rd pl wr) rfl ?_
    refine z_imul ok dX7_layFar_29 ?_
    refine z_istore_n (lv' := [(3, .int (iI (10 * (now 4 * now 5)))), (2, .int (iI (250 * to))), (0, .ref (q 0)), (1, .int (iI to))]) ok dX7_layFar_30 (by decide) rfl ?_
    refine z_iconst ok dX7_layFar_31 ?_
    refine z_istore (lv' := [(4, .int (iI 0)), (3, .int (iI (10 * (now 4 * now 5)))), (2, .int (iI (250 * to))), (0, .ref (q 0)), (1, .int (iI to))]) ok dX7_layFar_32 (by decide) rfl ?_
    have L34 : ∀ (fuel : Nat) (i : Int) (f m : Int → Int), (0 ≤ i) → (i ≤ 10 * (now 4 * now 5)) → (∀ j : Int, 0 ≤ j → j < i → lst now to 1 j (f (250 * to + j)) (m (250 * to + j))) → (∀ x : Int, (x < 250 * to ∨ 250 * to + 250 ≤ x) → f x = far x ∧ m x = many x) → (10 * (now 4 * now 5) - i).toNat < fuel → zV X 0 0 (mW Z q now kept hist und sav isv pad sg it f m (zu laid to 1) sides stuck ord rd pl wr) 34 [(0, .ref (q 0)), (1, .int (iI to)), (2, .int (iI (250 * to))), (3, .int (iI (10 * (now 4 * now 5)))), (4, .int (iI i))] [] := by
      intro fuel
      induction fuel with
      | zero => intro i f m h34_0 h34_1 h34_2 h34_3 hf; exact absurd hf (Nat.not_lt_zero _)
      | succ fuel ih34 =>
        intro i f m h34_0 h34_1 h34_2 h34_3 hf
        refine z_iload ok dX7_layFar_34 rfl ?_
        refine z_iload_n ok dX7_layFar_36 rfl ?_
        refine z_icmp_ge (tgt := 93) ok dX7_layFar_37 (by decide) (by omega) (by omega) (fun c37 => ?_) (fun c37 => ?_)
        · -- t
          refine z_iconst ok dX7_layFar_93 ?_
          refine z_istore (lv' := [(4, .int (iI 1)), (0, .ref (q 0)), (1, .int (iI to)), (2, .int (iI (250 * to))), (3, .int (iI (10 * (now 4 * now 5))))]) ok dX7_layFar_94 (by decide) rfl ?_
          refine z_iconst ok dX7_layFar_96 ?_
          refine z_istore (lv' := [(5, .int (iI 1)), (4, .int (iI 1)), (0, .ref (q 0)), (1, .int (iI to)), (2, .int (iI (250 * to))), (3, .int (iI (10 * (now 4 * now 5))))]) ok dX7_layFar_97 (by decide) rfl ?_
          have L99 : ∀ (fuel : Nat) (L : Nat) (mo : Int) (f m : Int → Int), (mo = 0 ∨ mo = 1) → (L ≤ 17 ∧ (mo = 1 → L ≤ 16)) → (∀ s : Int, 0 ≤ s ∧ s < 10 * (now 4 * now 5) → lst now to (L + 1) s (f (250 * to + s)) (m (250 * to + s))) → (mo = 0 → ∀ s : Int, 0 ≤ s ∧ s < 10 * (now 4 * now 5) → ¬ frst now to s L) → (∀ x : Int, (x < 250 * to ∨ 250 * to + 250 ≤ x) → f x = far x ∧ m x = many x) → (18 - (L : Int)).toNat < fuel → zV X 0 0 (mW Z q now kept hist und sav isv pad sg it f m (zu laid to 1) sides stuck ord rd pl wr) 99 [(0, .ref (q 0)), (1, .int (iI to)), (2, .int (iI (250 * to))), (3, .int (iI (10 * (now 4 * now 5)))), (4, .int (iI mo)), (5, .int (iI ((L : Int) + 1)))] [] := by
            intro fuel
            induction fuel with
            | zero => intro L mo f m h99_0 h99_1 h99_2 h99_3 h99_4 hf; exact absurd hf (Nat.not_lt_zero _)
            | succ fuel ih99 =>
              intro L mo f m h99_0 h99_1 h99_2 h99_3 h99_4 hf
              refine z_iload ok dX7_layFar_99 rfl ?_
              refine z_if_eq (tgt := 240) ok dX7_layFar_101 (by decide) (by omega) (fun c101 => ?_) (fun c101 => ?_)
              · -- t
                exact fin (f, m, zu laid to 1) 240 _ _ _ dX7_layFar_240 (lay_cache hw ht hca h99_2 (h99_3 c101) h99_4) (by decide) (by decide)
              · -- f
                refine z_iconst ok dX7_layFar_104 ?_
                refine z_istore (lv' := [(4, .int (iI 0)), (0, .ref (q 0)), (1, .int (iI to)), (2, .int (iI (250 * to))), (3, .int (iI (10 * (now 4 * now 5)))), (5, .int (iI ((L : Int) + 1)))]) ok dX7_layFar_105 (by decide) rfl ?_
                refine z_iconst ok dX7_layFar_107 ?_
                refine z_istore (lv' := [(6, .int (iI 0)), (4, .int (iI 0)), (0, .ref (q 0)), (1, .int (iI to)), (2, .int (iI (250 * to))), (3, .int (iI (10 * (now 4 * now 5)))), (5, .int (iI ((L : Int) + 1)))]) ok dX7_layFar_108 (by decide) rfl ?_
                have L110 : ∀ (fuel : Nat) (i mo2 : Int) (f2 m2 : Int → Int), (0 ≤ i) → (i ≤ 10 * (now 4 * now 5)) → (mo2 = 0 ∨ mo2 = 1) → (∀ s : Int, 0 ≤ s → s < i → lst now to (L + 2) s (f2 (250 * to + s)) (m2 (250 * to + s))) → (∀ s : Int, i ≤ s → s < 10 * (now 4 * now 5) → lst now to (L + 1) s (f2 (250 * to + s)) (m2 (250 * to + s))) → (mo2 = 0 → ∀ s : Int, 0 ≤ s → s < i → ¬ frst now to s (L + 1)) → (mo2 = 1 → L + 1 ≤ 16) → (∀ x : Int, (x < 250 * to ∨ 250 * to + 250 ≤ x) → f2 x = far x ∧ m2 x = many x) → (10 * (now 4 * now 5) - i).toNat < fuel → zV X 0 0 (mW Z q now kept hist und sav isv pad sg it f2 m2 (zu laid to 1) sides stuck ord rd pl wr) 110 [(0, .ref (q 0)), (1, .int (iI to)), (2, .int (iI (250 * to))), (3, .int (iI (10 * (now 4 * now 5)))), (4, .int (iI mo2)), (5, .int (iI ((L : Int) + 1))), (6, .int (iI i))] [] := by
                  intro fuel
                  induction fuel with
                  | zero => intro i mo2 f2 m2 h110_0 h110_1 h110_2 h110_3 h110_4 h110_5 h110_6 h110_7 hf; exact absurd hf (Nat.not_lt_zero _)
                  | succ fuel ih110 =>
                    intro i mo2 f2 m2 h110_0 h110_1 h110_2 h110_3 h110_4 h110_5 h110_6 h110_7 hf
                    refine z_iload ok dX7_layFar_110 rfl ?_
                    refine z_iload_n ok dX7_layFar_112 rfl ?_
                    refine z_icmp_ge (tgt := 234) ok dX7_layFar_113 (by decide) (by omega) (by omega) (fun c113 => ?_) (fun c113 => ?_)
                    · -- t
                      refine z_iinc (lv' := [(5, .int (iI (((L : Int) + 1) + 1))), (0, .ref (q 0)), (1, .int (iI to)), (2, .int (iI (250 * to))), (3, .int (iI (10 * (now 4 * now 5)))), (4, .int (iI mo2)), (6, .int (iI i))]) ok dX7_layFar_234 5 rfl (by decide) rfl ?_
                      refine z_goto (tgt := 99) ok dX7_layFar_237 (by decide) ?_
                      refine z_lsub ok (lv' := [(0, .ref (q 0)), (1, .int (iI to)), (2, .int (iI (250 * to))), (3, .int (iI (10 * (now 4 * now 5)))), (4, .int (iI mo2)), (5, .int (iI (((L : Int) + 1) + 1)))]) [1, 2, 3, 4, 5, 0] rfl ?_
                      have hi : i = 10 * (now 4 * now 5) := by omega
                      rw [show ((L : Int) + 1) + 1 = ((L + 1 : Nat) : Int) + 1 by omega]
                      exact ih99 (L + 1) _ _ _ (by omega) (⟨by omega, h110_6⟩) (fun s hs => h110_3 s hs.1 (by omega)) (fun h s hs => h110_5 h s hs.1 (by omega)) (h110_7) (by omega)
                    · -- f
                      have his : 0 ≤ i ∧ i < 10 * (now 4 * now 5) := ⟨by omega, by omega⟩
                      have hli := h110_4 i (by omega) (by omega)
                      have hlr := lst_rng hw ht his hli
                      refine z_aload_n ok dX7_layFar_116 rfl ?_
                      refine z_get (v := .ref (q 7)) ok zc7 0 rfl 9 (by decide) qf_RX7_29 rfl rfl dX7_layFar_117 ?_
                      refine z_iload_n ok dX7_layFar_120 rfl ?_
                      refine z_iload ok dX7_layFar_121 rfl ?_
                      refine z_iadd ok dX7_layFar_123 ?_
                      refine z_iald (f := f2) ok 7 rfl dX7_layFar_124 (by omega) (by decide) ?_
                      refine z_bipush ok dX7_layFar_125 (by decide) ?_
                      refine z_icmp_ne (tgt := 228) ok dX7_layFar_127 (by decide) (by omega) (by omega) (fun c127 => ?_) (fun c127 => ?_)
                      · -- t
                        have hnew := lst_up hli c127
                        refine z_iinc (lv' := [(6, .int (iI (i + 1))), (0, .ref (q 0)), (1, .int (iI to)), (2, .int (iI (250 * to))), (3, .int (iI (10 * (now 4 * now 5)))), (4, .int (iI mo2)), (5, .int (iI ((L : Int) + 1)))]) ok dX7_layFar_228 6 rfl (by decide) rfl ?_
                        refine z_goto (tgt := 110) ok dX7_layFar_231 (by decide) ?_
                        refine z_lsub ok (lv' := [(0, .ref (q 0)), (1, .int (iI to)), (2, .int (iI (250 * to))), (3, .int (iI (10 * (now 4 * now 5)))), (4, .int (iI mo2)), (5, .int (iI ((L : Int) + 1))), (6, .int (iI (i + 1)))]) [1, 2, 3, 4, 5, 6, 0] rfl ?_
                        exact ih110 _ _ _ _ (by omega) (by omega) (by omega) (by first | exact lay_A h110_3 hnew.1 | exact lay_C h110_3 hnew.1) (by first | exact fun s h0 h1 => h110_4 s (by omega) h1 | exact lay_R h110_4) (by first | exact fun h => absurd h (by decide) | exact fun h s h0 h1 => (if e : s = i then e ▸ hnew.2 else h110_5 h s h0 (by omega))) (by first | exact h110_6 | exact fun _ => hnew.2) (by first | exact h110_7 | exact lay_F (by omega) h110_7) (by omega)
                      · -- f
                        refine z_iconst ok dX7_layFar_130 ?_
                        refine z_istore (lv' := [(7, .int (iI 0)), (0, .ref (q 0)), (1, .int (iI to)), (2, .int (iI (250 * to))), (3, .int (iI (10 * (now 4 * now 5)))), (4, .int (iI mo2)), (5, .int (iI ((L : Int) + 1))), (6, .int (iI i))]) ok dX7_layFar_131 (by decide) rfl ?_
                        refine z_iconst ok dX7_layFar_133 ?_
                        refine z_istore (lv' := [(8, .int (iI 0)), (7, .int (iI 0)), (0, .ref (q 0)), (1, .int (iI to)), (2, .int (iI (250 * to))), (3, .int (iI (10 * (now 4 * now 5)))), (4, .int (iI mo2)), (5, .int (iI ((L : Int) + 1))), (6, .int (iI i))]) ok dX7_layFar_134 (by decide) rfl ?_
                        have L136 : ∀ (fuel : Nat) (d w : Int), (0 ≤ d) → (d ≤ 4) → (w = zS (fun d => zif (0 ≤ mvd now i d to ∧ f2 (250 * to + mvd now i d to) = (L : Int)) (m2 (250 * to + mvd now i d to)) 0) d.toNat) → (4 - d).toNat < fuel → zV X 0 0 (mW Z q now kept hist und sav isv pad sg it f2 m2 (zu laid to 1) sides stuck ord rd pl wr) 136 [(0, .ref (q 0)), (1, .int (iI to)), (2, .int (iI (250 * to))), (3, .int (iI (10 * (now 4 * now 5)))), (4, .int (iI mo2)), (5, .int (iI ((L : Int) + 1))), (6, .int (iI i)), (7, .int (iI w)), (8, .int (iI d))] [] := by
                          intro fuel
                          induction fuel with
                          | zero => intro d w h136_0 h136_1 h136_2 hf; exact absurd hf (Nat.not_lt_zero _)
                          | succ fuel ih136 =>
                            intro d w h136_0 h136_1 h136_2 hf
                            refine z_iload ok dX7_layFar_136 rfl ?_
                            refine z_iconst ok dX7_layFar_138 ?_
                            refine z_icmp_ge (tgt := 198) ok dX7_layFar_139 (by decide) (by omega) (by omega) (fun c139 => ?_) (fun c139 => ?_)
                            · -- t
                              have hd4 : d = 4 := by omega
                              rw [hd4] at h136_2
                              have hm6 := lst_m6 hli c127
                              have hw2 : w = wk now to (L + 1) i := h136_2.trans (wk_sum (L := L) (f := fun x => f2 (250 * to + x)) (m := fun x => m2 (250 * to + x)) hw ht his hm6.1 (fun x hx => (Int.lt_or_le x i).elim (fun z => Or.inr (h110_3 x hx.1 z)) (fun z => Or.inl (h110_4 x z hx.2))))
                              have hwr := wk_rng hw ht (L + 1) his
                              refine z_iload ok dX7_layFar_198 rfl ?_
                              refine z_if_le (tgt := 228) ok dX7_layFar_200 (by decide) (by omega) (fun c200 => ?_) (fun c200 => ?_)
                              · -- t
                                have hnew := lst_no hli c127 hw2 c200
                                refine z_iinc (lv' := [(6, .int (iI (i + 1))), (0, .ref (q 0)), (1, .int (iI to)), (2, .int (iI (250 * to))), (3, .int (iI (10 * (now 4 * now 5)))), (4, .int (iI mo2)), (5, .int (iI ((L : Int) + 1))), (7, .int (iI w)), (8, .int (iI d))]) ok dX7_layFar_228 6 rfl (by decide) rfl ?_
                                refine z_goto (tgt := 110) ok dX7_layFar_231 (by decide) ?_
                                refine z_lsub ok (lv' := [(0, .ref (q 0)), (1, .int (iI to)), (2, .int (iI (250 * to))), (3, .int (iI (10 * (now 4 * now 5)))), (4, .int (iI mo2)), (5, .int (iI ((L : Int) + 1))), (6, .int (iI (i + 1)))]) [1, 2, 3, 4, 5, 6, 0] rfl ?_
                                exact ih110 _ _ _ _ (by omega) (by omega) (by omega) (by first | exact lay_A h110_3 hnew.1 | exact lay_C h110_3 hnew.1) (by first | exact fun s h0 h1 => h110_4 s (by omega) h1 | exact lay_R h110_4) (by first | exact fun h => absurd h (by decide) | exact fun h s h0 h1 => (if e : s = i then e ▸ hnew.2 else h110_5 h s h0 (by omega))) (by first | exact h110_6 | exact fun _ => hnew.2) (by first | exact h110_7 | exact lay_F (by omega) h110_7) (by omega)
                              · -- f
                                have hnew := lst_yes hw ht his hli c127 hw2 c200
                                refine z_aload_n ok dX7_layFar_203 rfl ?_
                                refine z_get (v := .ref (q 7)) ok zc7 0 rfl 9 (by decide) qf_RX7_29 rfl rfl dX7_layFar_204 ?_
                                refine z_iload_n ok dX7_layFar_207 rfl ?_
                                refine z_iload ok dX7_layFar_208 rfl ?_
                                refine z_iadd ok dX7_layFar_210 ?_
                                refine z_iload ok dX7_layFar_211 rfl ?_
                                refine z_iast (f := f2) (v := (L : Int) + 1) (ws' := mW Z q now kept hist und sav isv pad sg it (zu f2 ((250 * to) + i) ((L : Int) + 1)) m2 (zu laid to 1) sides stuck ord rd pl wr) ok 7 rfl dX7_layFar_213 (by omega) (by decide) rfl ?_
                                refine z_aload_n ok dX7_layFar_214 rfl ?_
                                refine z_get (v := .ref (q 8)) ok zc7 0 rfl 10 (by decide) qf_RX7_32 rfl rfl dX7_layFar_215 ?_
                                refine z_iload_n ok dX7_layFar_218 rfl ?_
                                refine z_iload ok dX7_layFar_219 rfl ?_
                                refine z_iadd ok dX7_layFar_221 ?_
                                refine z_iload ok dX7_layFar_222 rfl ?_
                                refine z_iast (f := m2) (v := w) (ws' := mW Z q now kept hist und sav isv pad sg it (zu f2 ((250 * to) + i) ((L : Int) + 1)) (zu m2 ((250 * to) + i) w) (zu laid to 1) sides stuck ord rd pl wr) ok 8 rfl dX7_layFar_224 (by omega) (by decide) rfl ?_
                                refine z_iconst ok dX7_layFar_225 ?_
                                refine z_istore (lv' := [(4, .int (iI 1)), (0, .ref (q 0)), (1, .int (iI to)), (2, .int (iI (250 * to))), (3, .int (iI (10 * (now 4 * now 5)))), (5, .int (iI ((L : Int) + 1))), (6, .int (iI i)), (7, .int (iI w)), (8, .int (iI d))]) ok dX7_layFar_226 (by decide) rfl ?_
                                refine z_iinc (lv' := [(6, .int (iI (i + 1))), (4, .int (iI 1)), (0, .ref (q 0)), (1, .int (iI to)), (2, .int (iI (250 * to))), (3, .int (iI (10 * (now 4 * now 5)))), (5, .int (iI ((L : Int) + 1))), (7, .int (iI w)), (8, .int (iI d))]) ok dX7_layFar_228 6 rfl (by decide) rfl ?_
                                refine z_goto (tgt := 110) ok dX7_layFar_231 (by decide) ?_
                                refine z_lsub ok (lv' := [(0, .ref (q 0)), (1, .int (iI to)), (2, .int (iI (250 * to))), (3, .int (iI (10 * (now 4 * now 5)))), (4, .int (iI 1)), (5, .int (iI ((L : Int) + 1))), (6, .int (iI (i + 1)))]) [2, 3, 4, 5, 1, 6, 0] rfl ?_
                                exact ih110 _ _ _ _ (by omega) (by omega) (by omega) (by first | exact lay_A h110_3 hnew.1 | exact lay_C h110_3 hnew.1) (by first | exact fun s h0 h1 => h110_4 s (by omega) h1 | exact lay_R h110_4) (by first | exact fun h => absurd h (by decide) | exact fun h s h0 h1 => (if e : s = i then e ▸ hnew.2 else h110_5 h s h0 (by omega))) (by first | exact h110_6 | exact fun _ => hnew.2) (by first | exact h110_7 | exact lay_F (by omega) h110_7) (by omega)
                            · -- f
                              have hdd : 0 ≤ d ∧ d ≤ 3 := ⟨by omega, by omega⟩
                              have hmr := mvd_rng (to := to) hw his hdd
                              refine z_aload_n ok dX7_layFar_142 rfl ?_
                              refine z_iload ok dX7_layFar_143 rfl ?_
                              refine z_iload ok dX7_layFar_145 rfl ?_
                              refine z_iload_n ok dX7_layFar_147 rfl ?_
                              refine z_callVi0 ok (fun l => c_X7_moved  (hw) (his) (hdd) (ht)) zm_X7_moved zv_X7_moved qm_RX7_90 dX7_layFar_148 (by decide) (by decide) rfl rfl (Nat.le_of_ble_eq_true rfl) (q0 := 0) rfl rfl rfl (fun ρ _ hρ => ?_)
                              subst hρ
                              refine z_eq (ws' := mW Z q now kept hist und sav isv pad sg it f2 m2 (zu laid to 1) sides stuck ord rd pl wr) rfl ?_
                              refine z_istore (lv' := [(9, .int (iI (mvd now i d to))), (0, .ref (q 0)), (1, .int (iI to)), (2, .int (iI (250 * to))), (3, .int (iI (10 * (now 4 * now 5)))), (4, .int (iI mo2)), (5, .int (iI ((L : Int) + 1))), (6, .int (iI i)), (7, .int (iI w)), (8, .int (iI d))]) ok dX7_layFar_151 (by decide) rfl ?_
                              refine z_iload ok dX7_layFar_153 rfl ?_
                              refine z_iload ok dX7_layFar_155 rfl ?_
                              refine z_if_lt (tgt := 188) ok dX7_layFar_157 (by decide) (by omega) (fun c157 => ?_) (fun c157 => ?_)
                              · -- t
                                refine z_iconst ok dX7_layFar_188 ?_
                                refine z_iadd ok dX7_layFar_189 ?_
                                refine z_istore (lv' := [(7, .int (iI (w + 0))), (9, .int (iI (mvd now i d to))), (0, .ref (q 0)), (1, .int (iI to)), (2, .int (iI (250 * to))), (3, .int (iI (10 * (now 4 * now 5)))), (4, .int (iI mo2)), (5, .int (iI ((L : Int) + 1))), (6, .int (iI i)), (8, .int (iI d))]) ok dX7_layFar_190 (by decide) rfl ?_
                                refine z_iinc (lv' := [(8, .int (iI (d + 1))), (7, .int (iI (w + 0))), (9, .int (iI (mvd now i d to))), (0, .ref (q 0)), (1, .int (iI to)), (2, .int (iI (250 * to))), (3, .int (iI (10 * (now 4 * now 5)))), (4, .int (iI mo2)), (5, .int (iI ((L : Int) + 1))), (6, .int (iI i))]) ok dX7_layFar_192 9 rfl (by decide) rfl ?_
                                refine z_goto (tgt := 136) ok dX7_layFar_195 (by decide) ?_
                                refine z_lsub ok (lv' := [(0, .ref (q 0)), (1, .int (iI to)), (2, .int (iI (250 * to))), (3, .int (iI (10 * (now 4 * now 5)))), (4, .int (iI mo2)), (5, .int (iI ((L : Int) + 1))), (6, .int (iI i)), (7, .int (iI (w + 0))), (8, .int (iI (d + 1)))]) [3, 4, 5, 6, 7, 8, 9, 1, 0] rfl ?_
                                exact ih136 _ _ (by omega) (by omega) (by rw [zS_s (by omega), ← h136_2]; congr 1; first | exact (zif_t ⟨by omega, by omega⟩).symm | exact (zif_f (fun z => by have := z.1; have := z.2; omega)).symm) (by omega)
                              · -- f
                                have hmm : 0 ≤ mvd now i d to ∧ mvd now i d to < 10 * (now 4 * now 5) := by omega
                                have hr2 := lst_rng2 hw ht hmm h110_3 h110_4
                                refine z_aload_n ok dX7_layFar_160 rfl ?_
                                refine z_get (v := .ref (q 7)) ok zc7 0 rfl 9 (by decide) qf_RX7_29 rfl rfl dX7_layFar_161 ?_
                                refine z_iload_n ok dX7_layFar_164 rfl ?_
                                refine z_iload ok dX7_layFar_165 rfl ?_
                                refine z_iadd ok dX7_layFar_167 ?_
                                refine z_iald (f := f2) ok 7 rfl dX7_layFar_168 (by omega) (by decide) ?_
                                refine z_iload ok dX7_layFar_169 rfl ?_
                                refine z_iconst ok dX7_layFar_171 ?_
                                refine z_isub ok dX7_layFar_172 ?_
                                refine z_icmp_ne (tgt := 188) ok dX7_layFar_173 (by decide) (by omega) (by omega) (fun c173 => ?_) (fun c173 => ?_)
                                · -- t
                                  refine z_iconst ok dX7_layFar_188 ?_
                                  refine z_iadd ok dX7_layFar_189 ?_
                                  refine z_istore (lv' := [(7, .int (iI (w + 0))), (9, .int (iI (mvd now i d to))), (0, .ref (q 0)), (1, .int (iI to)), (2, .int (iI (250 * to))), (3, .int (iI (10 * (now 4 * now 5)))), (4, .int (iI mo2)), (5, .int (iI ((L : Int) + 1))), (6, .int (iI i)), (8, .int (iI d))]) ok dX7_layFar_190 (by decide) rfl ?_
                                  refine z_iinc (lv' := [(8, .int (iI (d + 1))), (7, .int (iI (w + 0))), (9, .int (iI (mvd now i d to))), (0, .ref (q 0)), (1, .int (iI to)), (2, .int (iI (250 * to))), (3, .int (iI (10 * (now 4 * now 5)))), (4, .int (iI mo2)), (5, .int (iI ((L : Int) + 1))), (6, .int (iI i))]) ok dX7_layFar_192 9 rfl (by decide) rfl ?_
                                  refine z_goto (tgt := 136) ok dX7_layFar_195 (by decide) ?_
                                  refine z_lsub ok (lv' := [(0, .ref (q 0)), (1, .int (iI to)), (2, .int (iI (250 * to))), (3, .int (iI (10 * (now 4 * now 5)))), (4, .int (iI mo2)), (5, .int (iI ((L : Int) + 1))), (6, .int (iI i)), (7, .int (iI (w + 0))), (8, .int (iI (d + 1)))]) [3, 4, 5, 6, 7, 8, 9, 1, 0] rfl ?_
                                  exact ih136 _ _ (by omega) (by omega) (by rw [zS_s (by omega), ← h136_2]; congr 1; first | exact (zif_t ⟨by omega, by omega⟩).symm | exact (zif_f (fun z => by have := z.1; have := z.2; omega)).symm) (by omega)
                                · -- f
                                  refine z_aload_n ok dX7_layFar_176 rfl ?_
                                  refine z_get (v := .ref (q 8)) ok zc7 0 rfl 10 (by decide) qf_RX7_32 rfl rfl dX7_layFar_177 ?_
                                  refine z_iload_n ok dX7_layFar_180 rfl ?_
                                  refine z_iload ok dX7_layFar_181 rfl ?_
                                  refine z_iadd ok dX7_layFar_183 ?_
                                  refine z_iald (f := m2) ok 8 rfl dX7_layFar_184 (by omega) (by decide) ?_
                                  refine z_goto (tgt := 189) ok dX7_layFar_185 (by decide) ?_
                                  refine z_iadd ok dX7_layFar_189 ?_
                                  refine z_istore (lv' := [(7, .int (iI (w + (m2 ((250 * to) + (mvd now i d to)))))), (9, .int (iI (mvd now i d to))), (0, .ref (q 0)), (1, .int (iI to)), (2, .int (iI (250 * to))), (3, .int (iI (10 * (now 4 * now 5)))), (4, .int (iI mo2)), (5, .int (iI ((L : Int) + 1))), (6, .int (iI i)), (8, .int (iI d))]) ok dX7_layFar_190 (by decide) rfl ?_
                                  refine z_iinc (lv' := [(8, .int (iI (d + 1))), (7, .int (iI (w + (m2 ((250 * to) + (mvd now i d to)))))), (9, .int (iI (mvd now i d to))), (0, .ref (q 0)), (1, .int (iI to)), (2, .int (iI (250 * to))), (3, .int (iI (10 * (now 4 * now 5)))), (4, .int (iI mo2)), (5, .int (iI ((L : Int) + 1))), (6, .int (iI i))]) ok dX7_layFar_192 9 rfl (by decide) rfl ?_
                                  refine z_goto (tgt := 136) ok dX7_layFar_195 (by decide) ?_
                                  refine z_lsub ok (lv' := [(0, .ref (q 0)), (1, .int (iI to)), (2, .int (iI (250 * to))), (3, .int (iI (10 * (now 4 * now 5)))), (4, .int (iI mo2)), (5, .int (iI ((L : Int) + 1))), (6, .int (iI i)), (7, .int (iI (w + (m2 ((250 * to) + (mvd now i d to)))))), (8, .int (iI (d + 1)))]) [3, 4, 5, 6, 7, 8, 9, 1, 0] rfl ?_
                                  exact ih136 _ _ (by omega) (by omega) (by rw [zS_s (by omega), ← h136_2]; congr 1; first | exact (zif_t ⟨by omega, by omega⟩).symm | exact (zif_f (fun z => by have := z.1; have := z.2; omega)).symm) (by omega)
                        refine z_lsub ok (lv' := [(0, .ref (q 0)), (1, .int (iI to)), (2, .int (iI (250 * to))), (3, .int (iI (10 * (now 4 * now 5)))), (4, .int (iI mo2)), (5, .int (iI ((L : Int) + 1))), (6, .int (iI i)), (7, .int (iI 0)), (8, .int (iI 0))]) [2, 3, 4, 5, 6, 7, 8, 1, 0] rfl ?_
                        exact L136 _ _ _ (by omega) (by omega) (rfl) (Nat.lt_succ_self _)
                refine z_lsub ok (lv' := [(0, .ref (q 0)), (1, .int (iI to)), (2, .int (iI (250 * to))), (3, .int (iI (10 * (now 4 * now 5)))), (4, .int (iI 0)), (5, .int (iI ((L : Int) + 1))), (6, .int (iI 0))]) [2, 3, 4, 5, 1, 6, 0] rfl ?_
                exact L110 _ _ _ _ _ (by omega) (by omega) (by omega) (fun s h0 h1 => absurd h1 (by omega)) (fun s h0 h1 => h99_2 s ⟨h0, h1⟩) (fun _ s h0 h1 => absurd h1 (by omega)) (fun h => absurd h (by decide)) (h99_4) (Nat.lt_succ_self _)
          refine z_lsub ok (lv' := [(0, .ref (q 0)), (1, .int (iI to)), (2, .int (iI (250 * to))), (3, .int (iI (10 * (now 4 * now 5)))), (4, .int (iI 1)), (5, .int (iI 1))]) [2, 3, 4, 5, 1, 0] rfl ?_
          have hi : i = 10 * (now 4 * now 5) := by omega
          rw [show (1 : Int) = ((0 : Nat) : Int) + 1 from rfl]
          exact L99 _ 0 _ _ _ (by omega) (by omega) (fun s hs => h34_2 s hs.1 (by omega)) (fun h => absurd h (by decide)) (h34_3) (Nat.lt_succ_self _)
        · -- f
          refine z_aload_n ok dX7_layFar_40 rfl ?_
          refine z_get (v := .ref (q 7)) ok zc7 0 rfl 9 (by decide) qf_RX7_29 rfl rfl dX7_layFar_41 ?_
          refine z_iload_n ok dX7_layFar_44 rfl ?_
          refine z_iload ok dX7_layFar_45 rfl ?_
          refine z_iadd ok dX7_layFar_47 ?_
          refine z_iload ok dX7_layFar_48 rfl ?_
          refine z_bipush ok dX7_layFar_50 (by decide) ?_
          refine z_idiv ok dX7_layFar_52 (by omega) (by omega) ?_
          refine z_iload_n ok dX7_layFar_53 rfl ?_
          refine z_icmp_ne (tgt := 61) ok dX7_layFar_54 (by decide) (by omega) (by omega) (fun c54 => ?_) (fun c54 => ?_)
          · -- t
            refine z_bipush ok dX7_layFar_61 (by decide) ?_
            refine z_iast (f := f) (v := (-6)) (ws' := mW Z q now kept hist und sav isv pad sg it (zu f ((250 * to) + i) (-6)) m (zu laid to 1) sides stuck ord rd pl wr) ok 7 rfl dX7_layFar_63 (by omega) (by decide) rfl ?_
            refine z_aload_n ok dX7_layFar_64 rfl ?_
            refine z_get (v := .ref (q 8)) ok zc7 0 rfl 10 (by decide) qf_RX7_32 rfl rfl dX7_layFar_65 ?_
            refine z_iload_n ok dX7_layFar_68 rfl ?_
            refine z_iload ok dX7_layFar_69 rfl ?_
            refine z_iadd ok dX7_layFar_71 ?_
            refine z_iload ok dX7_layFar_72 rfl ?_
            refine z_bipush ok dX7_layFar_74 (by decide) ?_
            refine z_idiv ok dX7_layFar_76 (by omega) (by omega) ?_
            refine z_iload_n ok dX7_layFar_77 rfl ?_
            refine z_icmp_ne (tgt := 85) ok dX7_layFar_78 (by decide) (by omega) (by omega) (fun c78 => ?_) (fun c78 => ?_)
            · -- t
              refine z_iconst ok dX7_layFar_85 ?_
              refine z_iast (f := m) (v := 0) (ws' := mW Z q now kept hist und sav isv pad sg it (zu f ((250 * to) + i) (-6)) (zu m ((250 * to) + i) 0) (zu laid to 1) sides stuck ord rd pl wr) ok 8 rfl dX7_layFar_86 (by omega) (by decide) rfl ?_
              refine z_iinc (lv' := [(4, .int (iI (i + 1))), (0, .ref (q 0)), (1, .int (iI to)), (2, .int (iI (250 * to))), (3, .int (iI (10 * (now 4 * now 5))))]) ok dX7_layFar_87 4 rfl (by decide) rfl ?_
              refine z_goto (tgt := 34) ok dX7_layFar_90 (by decide) ?_
              refine z_lsub ok (lv' := [(0, .ref (q 0)), (1, .int (iI to)), (2, .int (iI (250 * to))), (3, .int (iI (10 * (now 4 * now 5)))), (4, .int (iI (i + 1)))]) [1, 2, 3, 4, 0] rfl ?_
              exact ih34 _ _ _ (by omega) (by omega) (by first | exact absurd c54 c78 | exact absurd c78 c54 | exact lay_C h34_2 (lst1_t (by omega)) | exact lay_C h34_2 (lst1_f (by omega))) (lay_F (by omega) h34_3) (by omega)
            · -- f
              refine z_iconst ok dX7_layFar_81 ?_
              refine z_goto (tgt := 86) ok dX7_layFar_82 (by decide) ?_
              refine z_iast (f := m) (v := 1) (ws' := mW Z q now kept hist und sav isv pad sg it (zu f ((250 * to) + i) (-6)) (zu m ((250 * to) + i) 1) (zu laid to 1) sides stuck ord rd pl wr) ok 8 rfl dX7_layFar_86 (by omega) (by decide) rfl ?_
              refine z_iinc (lv' := [(4, .int (iI (i + 1))), (0, .ref (q 0)), (1, .int (iI to)), (2, .int (iI (250 * to))), (3, .int (iI (10 * (now 4 * now 5))))]) ok dX7_layFar_87 4 rfl (by decide) rfl ?_
              refine z_goto (tgt := 34) ok dX7_layFar_90 (by decide) ?_
              refine z_lsub ok (lv' := [(0, .ref (q 0)), (1, .int (iI to)), (2, .int (iI (250 * to))), (3, .int (iI (10 * (now 4 * now 5)))), (4, .int (iI (i + 1)))]) [1, 2, 3, 4, 0] rfl ?_
              exact ih34 _ _ _ (by omega) (by omega) (by first | exact absurd c54 c78 | exact absurd c78 c54 | exact lay_C h34_2 (lst1_t (by omega)) | exact lay_C h34_2 (lst1_f (by omega))) (lay_F (by omega) h34_3) (by omega)
          · -- f
            refine z_iconst ok dX7_layFar_57 ?_
            refine z_goto (tgt := 63) ok dX7_layFar_58 (by decide) ?_
            refine z_iast (f := f) (v := 0) (ws' := mW Z q now kept hist und sav isv pad sg it (zu f ((250 * to) + i) 0) m (zu laid to 1) sides stuck ord rd pl wr) ok 7 rfl dX7_layFar_63 (by omega) (by decide) rfl ?_
            refine z_aload_n ok dX7_layFar_64 rfl ?_
            refine z_get (v := .ref (q 8)) ok zc7 0 rfl 10 (by decide) qf_RX7_32 rfl rfl dX7_layFar_65 ?_
            refine z_iload_n ok dX7_layFar_68 rfl ?_
            refine z_iload ok dX7_layFar_69 rfl ?_
            refine z_iadd ok dX7_layFar_71 ?_
            refine z_iload ok dX7_layFar_72 rfl ?_
            refine z_bipush ok dX7_layFar_74 (by decide) ?_
            refine z_idiv ok dX7_layFar_76 (by omega) (by omega) ?_
            refine z_iload_n ok dX7_layFar_77 rfl ?_
            refine z_icmp_ne (tgt := 85) ok dX7_layFar_78 (by decide) (by omega) (by omega) (fun c78 => ?_) (fun c78 => ?_)
            · -- t
              refine z_iconst ok dX7_layFar_85 ?_
              refine z_iast (f := m) (v := 0) (ws' := mW Z q now kept hist und sav isv pad sg it (zu f ((250 * to) + i) 0) (zu m ((250 * to) + i) 0) (zu laid to 1) sides stuck ord rd pl wr) ok 8 rfl dX7_layFar_86 (by omega) (by decide) rfl ?_
              refine z_iinc (lv' := [(4, .int (iI (i + 1))), (0, .ref (q 0)), (1, .int (iI to)), (2, .int (iI (250 * to))), (3, .int (iI (10 * (now 4 * now 5))))]) ok dX7_layFar_87 4 rfl (by decide) rfl ?_
              refine z_goto (tgt := 34) ok dX7_layFar_90 (by decide) ?_
              refine z_lsub ok (lv' := [(0, .ref (q 0)), (1, .int (iI to)), (2, .int (iI (250 * to))), (3, .int (iI (10 * (now 4 * now 5)))), (4, .int (iI (i + 1)))]) [1, 2, 3, 4, 0] rfl ?_
              exact ih34 _ _ _ (by omega) (by omega) (by first | exact absurd c54 c78 | exact absurd c78 c54 | exact lay_C h34_2 (lst1_t (by omega)) | exact lay_C h34_2 (lst1_f (by omega))) (lay_F (by omega) h34_3) (by omega)
            · -- f
              refine z_iconst ok dX7_layFar_81 ?_
              refine z_goto (tgt := 86) ok dX7_layFar_82 (by decide) ?_
              refine z_iast (f := m) (v := 1) (ws' := mW Z q now kept hist und sav isv pad sg it (zu f ((250 * to) + i) 0) (zu m ((250 * to) + i) 1) (zu laid to 1) sides stuck ord rd pl wr) ok 8 rfl dX7_layFar_86 (by omega) (by decide) rfl ?_
              refine z_iinc (lv' := [(4, .int (iI (i + 1))), (0, .ref (q 0)), (1, .int (iI to)), (2, .int (iI (250 * to))), (3, .int (iI (10 * (now 4 * now 5))))]) ok dX7_layFar_87 4 rfl (by decide) rfl ?_
              refine z_goto (tgt := 34) ok dX7_layFar_90 (by decide) ?_
              refine z_lsub ok (lv' := [(0, .ref (q 0)), (1, .int (iI to)), (2, .int (iI (250 * to))), (3, .int (iI (10 * (now 4 * now 5)))), (4, .int (iI (i + 1)))]) [1, 2, 3, 4, 0] rfl ?_
              exact ih34 _ _ _ (by omega) (by omega) (by first | exact absurd c54 c78 | exact absurd c78 c54 | exact lay_C h34_2 (lst1_t (by omega)) | exact lay_C h34_2 (lst1_f (by omega))) (lay_F (by omega) h34_3) (by omega)
    refine z_lsub ok (lv' := [(0, .ref (q 0)), (1, .int (iI to)), (2, .int (iI (250 * to))), (3, .int (iI (10 * (now 4 * now 5)))), (4, .int (iI 0))]) [3, 4, 2, 1, 0] rfl ?_
    exact L34 _ _ _ _ (by omega) (by omega) (fun j h0 h1 => absurd h1 (by omega)) (fun x _ => ⟨rfl, rfl⟩) (Nat.lt_succ_self _)
  · -- f
    exact fin (far, many, laid) 9 _ _ _ dX7_layFar_9 (⟨hca, show laid to = 1 by omega⟩) (by decide) (by decide)
