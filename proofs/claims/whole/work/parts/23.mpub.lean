set_option maxRecDepth 20000 in
theorem c_X7_pairsNow {l : Launch} {Z : zZ} {q : Nat → Nat} {now kept hist : Int → Int} {und : Int} {sav isv pad : Int → Int} {sg it : Int} {far many laid sides stuck ord : Int → Int} {rd pl wr : Int} (hw : wf now) (hca : cacheOK now laid far many) : zI (T := (Int → Int) × (Int → Int) × (Int → Int)) l yX7_pairsNow (Cond.code yX7_pairsNow cX7_pairsNow 4 (some .int) :: wsL_law) ({ frames := 7, cells := 0, slots := 0, locals := 171 } : Room) Z [.ref (q 0)] (mW Z q now kept hist und sav isv pad sg it far many laid sides stuck ord rd pl wr) (fun u => mW Z q now kept hist und sav isv pad sg it u.1 u.2.1 u.2.2 sides stuck ord rd pl wr) (fun ρ u => ρ = prs now ∧ cacheOK now u.2.2 u.1 u.2.1) := by
  refine zI_of (C := RX7) (by decide +kernel) rfl (Nat.le_of_ble_eq_true rfl) (fun _ => True) znI (fun X ok fin => ?_)
  obtain ⟨w0, w1, w2, hc, hr, w6, wl, wp⟩ := id hw
  have hcr := cr_rng hc hr
  refine z_lsub ok (lv' := [(0, .ref (q 0))]) [0] rfl ?_
  refine z_iconst ok dX7_pairsNow_0 ?_
  refine z_istore_n (lv' := [(1, .int (iI 0)), (0, .ref (q 0))]) ok dX7_pairsNow_1 (by decide) rfl ?_
  refine z_iconst ok dX7_pairsNow_2 ?_
  refine z_istore_n (lv' := [(2, .int (iI 0)), (1, .int (iI 0)), (0, .ref (q 0))]) ok dX7_pairsNow_3 (by decide) rfl ?_
  have L4 : ∀ (fuel : Nat) (a n : Int) (f m ld : Int → Int), (0 ≤ a) → (a ≤ now 4 * now 5) → (n = zS (prF now) a.toNat) → (cacheOK now ld f m) → (now 4 * now 5 - a).toNat < fuel → zV X 0 0 (mW Z q now kept hist und sav isv pad sg it f m ld sides stuck ord rd pl wr) 4 [(0, .ref (q 0)), (1, .int (iI n)), (2, .int (iI a))] [] := by
    intro fuel
    induction fuel with
    | zero => intro a n f m ld h4_0 h4_1 h4_2 h4_3 hf; exact absurd hf (Nat.not_lt_zero _)
    | succ fuel ih4 =>
      intro a n f m ld h4_0 h4_1 h4_2 h4_3 hf
      refine z_iload_n ok dX7_pairsNow_4 rfl ?_
      refine z_aload_n ok dX7_pairsNow_5 rfl ?_
      refine z_callVi0 ok (fun l => c_X7_boxes  ) zm_X7_boxes zv_X7_boxes qm_RX7_55 dX7_pairsNow_6 (by decide) (by decide) rfl rfl (Nat.le_of_ble_eq_true rfl) (q0 := 0) rfl rfl rfl (fun ρ _ hρ => ?_)
      subst hρ
      refine z_eq (ws' := mW Z q now kept hist und sav isv pad sg it f m ld sides stuck ord rd pl wr) rfl ?_
      refine z_icmp_ge (tgt := 59) ok dX7_pairsNow_9 (by decide) (by omega) (by omega) (fun c9 => ?_) (fun c9 => ?_)
      · -- t
        refine z_iload_n ok dX7_pairsNow_59 rfl ?_
        exact fin n (f, m, ld) 60 _ _ _ dX7_pairsNow_60 (trivial) (⟨by rw [h4_2, show a = now 4 * now 5 by omega]; rfl, h4_3⟩) (by decide) (by decide)
      · -- f
        refine z_iconst ok dX7_pairsNow_12 ?_
        refine z_istore_n (lv' := [(3, .int (iI 0)), (0, .ref (q 0)), (1, .int (iI n)), (2, .int (iI a))]) ok dX7_pairsNow_13 (by decide) rfl ?_
        have L14 : ∀ (fuel : Nat) (b n2 : Int) (f2 m2 ld2 : Int → Int), (0 ≤ b) → (b ≤ now 4 * now 5) → (n2 = n + zS (prG now a) b.toNat) → (cacheOK now ld2 f2 m2) → (now 4 * now 5 - b).toNat < fuel → zV X 0 0 (mW Z q now kept hist und sav isv pad sg it f2 m2 ld2 sides stuck ord rd pl wr) 14 [(0, .ref (q 0)), (1, .int (iI n2)), (2, .int (iI a)), (3, .int (iI b))] [] := by
          intro fuel
          induction fuel with
          | zero => intro b n2 f2 m2 ld2 h14_0 h14_1 h14_2 h14_3 hf; exact absurd hf (Nat.not_lt_zero _)
          | succ fuel ih14 =>
            intro b n2 f2 m2 ld2 h14_0 h14_1 h14_2 h14_3 hf
            refine z_iload_n ok dX7_pairsNow_14 rfl ?_
            refine z_aload_n ok dX7_pairsNow_15 rfl ?_
            refine z_callVi0 ok (fun l => c_X7_boxes  ) zm_X7_boxes zv_X7_boxes qm_RX7_55 dX7_pairsNow_16 (by decide) (by decide) rfl rfl (Nat.le_of_ble_eq_true rfl) (q0 := 0) rfl rfl rfl (fun ρ _ hρ => ?_)
            subst hρ
            refine z_eq (ws' := mW Z q now kept hist und sav isv pad sg it f2 m2 ld2 sides stuck ord rd pl wr) rfl ?_
            refine z_icmp_ge (tgt := 53) ok dX7_pairsNow_19 (by decide) (by omega) (by omega) (fun c19 => ?_) (fun c19 => ?_)
            · -- t
              refine z_iinc (lv' := [(2, .int (iI (a + 1))), (0, .ref (q 0)), (1, .int (iI n2)), (3, .int (iI b))]) ok dX7_pairsNow_53 2 rfl (by decide) rfl ?_
              refine z_goto (tgt := 4) ok dX7_pairsNow_56 (by decide) ?_
              refine z_lsub ok (lv' := [(0, .ref (q 0)), (1, .int (iI n2)), (2, .int (iI (a + 1)))]) [1, 2, 0] rfl ?_
              have hb : b = now 4 * now 5 := by omega
              exact ih4 _ _ _ _ _ (by omega) (by omega) (by rw [zS_s (by omega), h14_2, hb, h4_2]; rfl) (h14_3) (by omega)
            · -- f
              refine z_iload_n ok dX7_pairsNow_22 rfl ?_
              refine z_iload_n ok dX7_pairsNow_23 rfl ?_
              refine z_iload_n ok dX7_pairsNow_24 rfl ?_
              refine z_icmp_eq (tgt := 44) ok dX7_pairsNow_25 (by decide) (by omega) (by omega) (fun c25 => ?_) (fun c25 => ?_)
              · -- t
                refine z_iconst ok dX7_pairsNow_44 ?_
                refine z_iadd ok dX7_pairsNow_45 ?_
                refine z_istore_n (lv' := [(1, .int (iI (n2 + 0))), (0, .ref (q 0)), (2, .int (iI a)), (3, .int (iI b))]) ok dX7_pairsNow_46 (by decide) rfl ?_
                refine z_iinc (lv' := [(3, .int (iI (b + 1))), (1, .int (iI (n2 + 0))), (0, .ref (q 0)), (2, .int (iI a))]) ok dX7_pairsNow_47 3 rfl (by decide) rfl ?_
                refine z_goto (tgt := 14) ok dX7_pairsNow_50 (by decide) ?_
                refine z_lsub ok (lv' := [(0, .ref (q 0)), (1, .int (iI (n2 + 0))), (2, .int (iI a)), (3, .int (iI (b + 1)))]) [2, 1, 3, 0] rfl ?_
                exact ih14 _ _ _ _ _ (by omega) (by omega) (by rw [zS_s (by omega), h14_2]; first | (rw [show prG now a b = 1 from zb_t ⟨by omega, by omega⟩]; omega) | (rw [show prG now a b = 0 from zb_f (fun z => by have := z.1; have := z.2; omega)]; omega)) (h14_3) (by omega)
              · -- f
                have hfr := fr_rng (to := b) (s := 10 * a) hw (by omega) (by omega)
                refine z_aload_n ok dX7_pairsNow_28 rfl ?_
                refine z_bipush ok dX7_pairsNow_29 (by decide) ?_
                refine z_iload_n ok dX7_pairsNow_31 rfl ?_
                refine z_imul ok dX7_pairsNow_32 ?_
                refine z_iload_n ok dX7_pairsNow_33 rfl ?_
                refine z_callVi0 ok (fun l => c_X7_farOf  (hw) (by omega) (by omega) (h14_3)) zm_X7_farOf zv_X7_farOf qm_RX7_105 dX7_pairsNow_34 (by decide) (by decide) rfl rfl (Nat.le_of_ble_eq_true rfl) (q0 := 0) rfl rfl rfl (fun r34 u34 hp34 => ?_)
                obtain ⟨far_34, many_34, laid_34⟩ := u34
                try dsimp only at hp34
                obtain ⟨rfl, hc34⟩ := hp34
                refine z_eq (ws' := mW Z q now kept hist und sav isv pad sg it far_34 many_34 laid_34 sides stuck ord rd pl wr) rfl ?_
                refine z_if_lt (tgt := 44) ok dX7_pairsNow_37 (by decide) (by omega) (fun c37 => ?_) (fun c37 => ?_)
                · -- t
                  refine z_iconst ok dX7_pairsNow_44 ?_
                  refine z_iadd ok dX7_pairsNow_45 ?_
                  refine z_istore_n (lv' := [(1, .int (iI (n2 + 0))), (0, .ref (q 0)), (2, .int (iI a)), (3, .int (iI b))]) ok dX7_pairsNow_46 (by decide) rfl ?_
                  refine z_iinc (lv' := [(3, .int (iI (b + 1))), (1, .int (iI (n2 + 0))), (0, .ref (q 0)), (2, .int (iI a))]) ok dX7_pairsNow_47 3 rfl (by decide) rfl ?_
                  refine z_goto (tgt := 14) ok dX7_pairsNow_50 (by decide) ?_
                  refine z_lsub ok (lv' := [(0, .ref (q 0)), (1, .int (iI (n2 + 0))), (2, .int (iI a)), (3, .int (iI (b + 1)))]) [2, 1, 3, 0] rfl ?_
                  exact ih14 _ _ _ _ _ (by omega) (by omega) (by rw [zS_s (by omega), h14_2]; first | (rw [show prG now a b = 1 from zb_t ⟨by omega, by omega⟩]; omega) | (rw [show prG now a b = 0 from zb_f (fun z => by have := z.1; have := z.2; omega)]; omega)) (hc34) (by omega)
                · -- f
                  refine z_iconst ok dX7_pairsNow_40 ?_
                  refine z_goto (tgt := 45) ok dX7_pairsNow_41 (by decide) ?_
                  refine z_iadd ok dX7_pairsNow_45 ?_
                  refine z_istore_n (lv' := [(1, .int (iI (n2 + 1))), (0, .ref (q 0)), (2, .int (iI a)), (3, .int (iI b))]) ok dX7_pairsNow_46 (by decide) rfl ?_
                  refine z_iinc (lv' := [(3, .int (iI (b + 1))), (1, .int (iI (n2 + 1))), (0, .ref (q 0)), (2, .int (iI a))]) ok dX7_pairsNow_47 3 rfl (by decide) rfl ?_
                  refine z_goto (tgt := 14) ok dX7_pairsNow_50 (by decide) ?_
                  refine z_lsub ok (lv' := [(0, .ref (q 0)), (1, .int (iI (n2 + 1))), (2, .int (iI a)), (3, .int (iI (b + 1)))]) [2, 1, 3, 0] rfl ?_
                  exact ih14 _ _ _ _ _ (by omega) (by omega) (by rw [zS_s (by omega), h14_2]; first | (rw [show prG now a b = 1 from zb_t ⟨by omega, by omega⟩]; omega) | (rw [show prG now a b = 0 from zb_f (fun z => by have := z.1; have := z.2; omega)]; omega)) (hc34) (by omega)
        refine z_lsub ok (lv' := [(0, .ref (q 0)), (1, .int (iI n)), (2, .int (iI a)), (3, .int (iI 0))]) [1, 2, 3, 0] rfl ?_
        exact L14 _ _ _ _ _ _ (by omega) (by omega) (by show n = n + 0; omega) (h4_3) (Nat.lt_succ_self _)
  refine z_lsub ok (lv' := [(0, .ref (q 0)), (1, .int (iI 0)), (2, .int (iI 0))]) [2, 1, 0] rfl ?_
  exact L4 _ _ _ _ _ _ (by omega) (by omega) (rfl) (hca) (Nat.lt_succ_self _)
set_option maxRecDepth 20000 in
theorem c_X7_pairs {l : Launch} {Z : zZ} {q : Nat → Nat} {now kept hist : Int → Int} {und : Int} {sav isv pad : Int → Int} {sg it : Int} {far many laid sides stuck ord : Int → Int} {rd pl wr : Int} (hw : wf now) (hca : cacheOK now laid far many) : zI (T := (Int → Int) × (Int → Int) × (Int → Int)) l yX7_pairs (Cond.code yX7_pairs cX7_pairs 1 (some .int) :: wsL_law) ({ frames := 8, cells := 0, slots := 0, locals := 194 } : Room) Z [.ref (q 0)] (mW Z q now kept hist und sav isv pad sg it far many laid sides stuck ord rd pl wr) (fun u => mW Z q now kept hist und sav isv pad sg it u.1 u.2.1 u.2.2 sides stuck ord rd pl wr) (fun ρ u => ρ = prs now ∧ cacheOK now u.2.2 u.1 u.2.1) := by
  refine zI_of (C := RX7) (by decide +kernel) rfl (Nat.le_of_ble_eq_true rfl) (fun _ => True) znI (fun X ok fin => ?_)
  refine z_lsub ok (lv' := [(0, .ref (q 0))]) [0] rfl ?_
  refine z_aload_n ok dX7_pairs_0 rfl ?_
  refine z_callVi0 ok (fun l => c_X7_pairsNow  (hw) (hca)) zm_X7_pairsNow zv_X7_pairsNow qm_RX7_155 dX7_pairs_1 (by decide) (by decide) rfl rfl (Nat.le_of_ble_eq_true rfl) (q0 := 0) rfl rfl rfl (fun r1 u1 hp1 => ?_)
  obtain ⟨far_1, many_1, laid_1⟩ := u1
  try dsimp only at hp1
  obtain ⟨rfl, hc1⟩ := hp1
  refine z_eq (ws' := mW Z q now kept hist und sav isv pad sg it far_1 many_1 laid_1 sides stuck ord rd pl wr) rfl ?_
  exact fin (prs now) (far_1, many_1, laid_1) 4 _ _ _ dX7_pairs_4 (trivial) (⟨rfl, hc1⟩) (by decide) (by decide)
set_option maxRecDepth 20000 in
theorem c_X7_leastWay {l : Launch} {Z : zZ} {q : Nat → Nat} {now kept hist : Int → Int} {und : Int} {sav isv pad : Int → Int} {sg it : Int} {far many laid sides stuck ord : Int → Int} {rd pl wr : Int} {a b : Int} (hw : wf now) (ha : -2147483648 ≤ a ∧ a < 2147483648) (hb : -2147483648 ≤ b ∧ b < 2147483648) (hca : cacheOK now laid far many) : zI (T := (Int → Int) × (Int → Int) × (Int → Int)) l yX7_leastWay (Cond.code yX7_leastWay cX7_leastWay 3 (some .int) :: wsL_law) ({ frames := 7, cells := 0, slots := 0, locals := 171 } : Room) Z [.ref (q 0), .int (iI a), .int (iI b)] (mW Z q now kept hist und sav isv pad sg it far many laid sides stuck ord rd pl wr) (fun u => mW Z q now kept hist und sav isv pad sg it u.1 u.2.1 u.2.2 sides stuck ord rd pl wr) (fun ρ u => ρ = lwR now a b ∧ cacheOK now u.2.2 u.1 u.2.1) := by
  refine zI_of (C := RX7) (by decide +kernel) rfl (Nat.le_of_ble_eq_true rfl) (fun _ => True) znI (fun X ok fin => ?_)
  obtain ⟨w0, w1, w2, hc, hr, w6, wl, wp⟩ := id hw
  have hcr := cr_rng hc hr
  refine z_lsub ok (lv' := [(0, .ref (q 0)), (1, .int (iI a)), (2, .int (iI b))]) [0, 1, 2] rfl ?_
  refine z_aload_n ok dX7_leastWay_0 rfl ?_
  refine z_iload_n ok dX7_leastWay_1 rfl ?_
  refine z_callVi0 ok (fun l => c_X7_isBox  (by omega) (by omega) (by omega)) zm_X7_isBox zv_X7_isBox qm_RX7_76 dX7_leastWay_2 (by decide) (by decide) rfl rfl (Nat.le_of_ble_eq_true rfl) (q0 := 0) rfl rfl rfl (fun ρ _ hρ => ?_)
  subst hρ
  refine z_eq (ws' := mW Z q now kept hist und sav isv pad sg it far many laid sides stuck ord rd pl wr) rfl ?_
  refine z_ifb_eq (tgt := 28) ok dX7_leastWay_5 (by decide) (fun c5 => ?_) (fun c5 => ?_)
  · -- t
    refine z_iconst ok dX7_leastWay_28 ?_
    exact fin (-1) (far, many, laid) 29 _ _ _ dX7_leastWay_29 (trivial) (⟨by unfold lwR; first | exact (zif_t ⟨c5, c13⟩).symm | exact (zif_f (fun z => by first | exact c5 z.1 | exact c13 z.2)).symm, hca⟩) (by decide) (by decide)
  · -- f
    refine z_aload_n ok dX7_leastWay_8 rfl ?_
    refine z_iload_n ok dX7_leastWay_9 rfl ?_
    refine z_callVi0 ok (fun l => c_X7_isBox  (by omega) (by omega) (by omega)) zm_X7_isBox zv_X7_isBox qm_RX7_76 dX7_leastWay_10 (by decide) (by decide) rfl rfl (Nat.le_of_ble_eq_true rfl) (q0 := 0) rfl rfl rfl (fun ρ _ hρ => ?_)
    subst hρ
    refine z_eq (ws' := mW Z q now kept hist und sav isv pad sg it far many laid sides stuck ord rd pl wr) rfl ?_
    refine z_ifb_eq (tgt := 28) ok dX7_leastWay_13 (by decide) (fun c13 => ?_) (fun c13 => ?_)
    · -- t
      refine z_iconst ok dX7_leastWay_28 ?_
      exact fin (-1) (far, many, laid) 29 _ _ _ dX7_leastWay_29 (trivial) (⟨by unfold lwR; first | exact (zif_t ⟨c5, c13⟩).symm | exact (zif_f (fun z => by first | exact c5 z.1 | exact c13 z.2)).symm, hca⟩) (by decide) (by decide)
    · -- f
      refine z_aload_n ok dX7_leastWay_16 rfl ?_
      refine z_bipush ok dX7_leastWay_17 (by decide) ?_
      refine z_iload_n ok dX7_leastWay_19 rfl ?_
      refine z_imul ok dX7_leastWay_20 ?_
      refine z_iload_n ok dX7_leastWay_21 rfl ?_
      refine z_callVi0 ok (fun l => c_X7_farOf  (hw) (by omega) (by omega) (hca)) zm_X7_farOf zv_X7_farOf qm_RX7_105 dX7_leastWay_22 (by decide) (by decide) rfl rfl (Nat.le_of_ble_eq_true rfl) (q0 := 0) rfl rfl rfl (fun r22 u22 hp22 => ?_)
      obtain ⟨far_22, many_22, laid_22⟩ := u22
      try dsimp only at hp22
      obtain ⟨rfl, hc22⟩ := hp22
      refine z_eq (ws' := mW Z q now kept hist und sav isv pad sg it far_22 many_22 laid_22 sides stuck ord rd pl wr) rfl ?_
      refine z_goto (tgt := 29) ok dX7_leastWay_25 (by decide) ?_
      exact fin (fr now b (10 * a)) (far_22, many_22, laid_22) 29 _ _ _ dX7_leastWay_29 (trivial) (⟨by unfold lwR; first | exact (zif_t ⟨c5, c13⟩).symm | exact (zif_f (fun z => by first | exact c5 z.1 | exact c13 z.2)).symm, hc22⟩) (by decide) (by decide)
set_option maxRecDepth 20000 in
theorem c_X7_ways {l : Launch} {Z : zZ} {q : Nat → Nat} {now kept hist : Int → Int} {und : Int} {sav isv pad : Int → Int} {sg it : Int} {far many laid sides stuck ord : Int → Int} {rd pl wr : Int} {a b : Int} (hw : wf now) (ha : -2147483648 ≤ a ∧ a < 2147483648) (hb : -2147483648 ≤ b ∧ b < 2147483648) (hca : cacheOK now laid far many) : zI (T := (Int → Int) × (Int → Int) × (Int → Int)) l yX7_ways (Cond.code yX7_ways cX7_ways 3 (some .int) :: wsL_law) ({ frames := 6, cells := 0, slots := 0, locals := 149 } : Room) Z [.ref (q 0), .int (iI a), .int (iI b)] (mW Z q now kept hist und sav isv pad sg it far many laid sides stuck ord rd pl wr) (fun u => mW Z q now kept hist und sav isv pad sg it u.1 u.2.1 u.2.2 sides stuck ord rd pl wr) (fun ρ u => ρ = wyR now a b ∧ cacheOK now u.2.2 u.1 u.2.1) := by
  refine zI_of (C := RX7) (by decide +kernel) rfl (Nat.le_of_ble_eq_true rfl) (fun _ => True) znI (fun X ok fin => ?_)
  obtain ⟨w0, w1, w2, hc, hr, w6, wl, wp⟩ := id hw
  have hcr := cr_rng hc hr
  refine z_lsub ok (lv' := [(0, .ref (q 0)), (1, .int (iI a)), (2, .int (iI b))]) [0, 1, 2] rfl ?_
  refine z_aload_n ok dX7_ways_0 rfl ?_
  refine z_iload_n ok dX7_ways_1 rfl ?_
  refine z_callVi0 ok (fun l => c_X7_isBox  (by omega) (by omega) (by omega)) zm_X7_isBox zv_X7_isBox qm_RX7_76 dX7_ways_2 (by decide) (by decide) rfl rfl (Nat.le_of_ble_eq_true rfl) (q0 := 0) rfl rfl rfl (fun ρ _ hρ => ?_)
  subst hρ
  refine z_eq (ws' := mW Z q now kept hist und sav isv pad sg it far many laid sides stuck ord rd pl wr) rfl ?_
  refine z_ifb_eq (tgt := 16) ok dX7_ways_5 (by decide) (fun c5 => ?_) (fun c5 => ?_)
  · -- t
    refine z_iconst ok dX7_ways_16 ?_
    exact fin (-1) (far, many, laid) 17 _ _ _ dX7_ways_17 (trivial) (⟨by unfold wyR; exact (zif_f (fun z => by first | exact c5 z.1 | exact c13 z.2)).symm, hca⟩) (by decide) (by decide)
  · -- f
    refine z_aload_n ok dX7_ways_8 rfl ?_
    refine z_iload_n ok dX7_ways_9 rfl ?_
    refine z_callVi0 ok (fun l => c_X7_isBox  (by omega) (by omega) (by omega)) zm_X7_isBox zv_X7_isBox qm_RX7_76 dX7_ways_10 (by decide) (by decide) rfl rfl (Nat.le_of_ble_eq_true rfl) (q0 := 0) rfl rfl rfl (fun ρ _ hρ => ?_)
    subst hρ
    refine z_eq (ws' := mW Z q now kept hist und sav isv pad sg it far many laid sides stuck ord rd pl wr) rfl ?_
    refine z_ifb_ne (tgt := 18) ok dX7_ways_13 (by decide) (fun c13 => ?_) (fun c13 => ?_)
    · -- t
      refine z_aload_n ok dX7_ways_18 rfl ?_
      refine z_iload_n ok dX7_ways_19 rfl ?_
      refine z_callVv0 ok (fun l => c_X7_layFar  (hw) (by omega) (hca)) zm_X7_layFar zv_X7_layFar qm_RX7_94 dX7_ways_20 (by decide) (by decide) rfl rfl (Nat.le_of_ble_eq_true rfl) (q0 := 0) rfl rfl rfl (fun u20 hp20 => ?_)
      obtain ⟨far_20, many_20, laid_20⟩ := u20
      try dsimp only at hp20
      obtain ⟨hc20, hx20⟩ := hp20
      refine z_eq (ws' := mW Z q now kept hist und sav isv pad sg it far_20 many_20 laid_20 sides stuck ord rd pl wr) rfl ?_
      refine z_aload_n ok dX7_ways_23 rfl ?_
      refine z_get (v := .ref (q 8)) ok zc7 0 rfl 10 (by decide) qf_RX7_32 rfl rfl dX7_ways_24 ?_
      refine z_sipush ok dX7_ways_27 (by decide) ?_
      refine z_iload_n ok dX7_ways_30 rfl ?_
      refine z_imul ok dX7_ways_31 ?_
      refine z_bipush ok dX7_ways_32 (by decide) ?_
      refine z_iload_n ok dX7_ways_34 rfl ?_
      refine z_imul ok dX7_ways_35 ?_
      refine z_iadd ok dX7_ways_36 ?_
      refine z_iald (f := many_20) ok 8 rfl dX7_ways_37 (by omega) (by decide) ?_
      have hlast := ldn_eq ((hc20 b (by omega) (by omega)).2 hx20 (10 * a) (by omega))
      exact fin (many_20 ((250 * b) + (10 * a))) (far_20, many_20, laid_20) 38 _ _ _ dX7_ways_38 (trivial) (⟨by unfold wyR; rw [zif_t ⟨c5, c13⟩]; exact hlast.2, hc20⟩) (by decide) (by decide)
    · -- f
      refine z_iconst ok dX7_ways_16 ?_
      exact fin (-1) (far, many, laid) 17 _ _ _ dX7_ways_17 (trivial) (⟨by unfold wyR; exact (zif_f (fun z => by first | exact c5 z.1 | exact c13 z.2)).symm, hca⟩) (by decide) (by decide)
set_option maxRecDepth 20000 in
theorem c_X7_ofBox {l : Launch} {Z : zZ} {q : Nat → Nat} {now kept hist : Int → Int} {und : Int} {sav isv pad : Int → Int} {sg it : Int} {far many laid sides stuck ord : Int → Int} {rd pl wr : Int} {b w : Int} (hw : wf now) (hb : -2147483648 ≤ b ∧ b < 2147483648) (hww : -2147483648 ≤ w ∧ w < 2147483648) : zI (T := Unit) l yX7_ofBox (Cond.code yX7_ofBox cX7_ofBox 3 (some .int) :: wsL_law) ({ frames := 4, cells := 0, slots := 0, locals := 92 } : Room) Z [.ref (q 0), .int (iI b), .int (iI w)] (mW Z q now kept hist und sav isv pad sg it far many laid sides stuck ord rd pl wr) (fun _ => mW Z q now kept hist und sav isv pad sg it far many laid sides stuck ord rd pl wr) (fun ρ _ => ρ = obR now b w) := by
  refine zI_of (C := RX7) (by decide +kernel) rfl (Nat.le_of_ble_eq_true rfl) (fun _ => True) znI (fun X ok fin => ?_)
  obtain ⟨w0, w1, w2, hc, hr, w6, wl, wp⟩ := id hw
  have hcr := cr_rng hc hr
  refine z_lsub ok (lv' := [(0, .ref (q 0)), (1, .int (iI b)), (2, .int (iI w))]) [0, 1, 2] rfl ?_
  refine z_aload_n ok dX7_ofBox_0 rfl ?_
  refine z_iload_n ok dX7_ofBox_1 rfl ?_
  refine z_callVi0 ok (fun l => c_X7_isBox  (by omega) (by omega) (by omega)) zm_X7_isBox zv_X7_isBox qm_RX7_76 dX7_ofBox_2 (by decide) (by decide) rfl rfl (Nat.le_of_ble_eq_true rfl) (q0 := 0) rfl rfl rfl (fun ρ _ hρ => ?_)
  subst hρ
  refine z_eq (ws' := mW Z q now kept hist und sav isv pad sg it far many laid sides stuck ord rd pl wr) rfl ?_
  refine z_ifb_ne (tgt := 10) ok dX7_ofBox_5 (by decide) (fun c5 => ?_) (fun c5 => ?_)
  · -- t
    refine z_iload_n ok dX7_ofBox_10 rfl ?_
    refine z_iconst ok dX7_ofBox_11 ?_
    refine z_bipush ok dX7_ofBox_12 (by decide) ?_
    refine z_callSie ok (fun l => c_X7_in  (by omega) (by omega) (by omega)) zm_X7_in qt_X7_in qm_RX7_59 dX7_ofBox_14 (by decide) (by decide) rfl rfl (Nat.le_of_ble_eq_true rfl) (fun ρ _ hρ => ?_)
    subst hρ
    refine z_ifb_eq (tgt := 53) ok dX7_ofBox_17 (by decide) (fun c17 => ?_) (fun c17 => ?_)
    · -- t
      refine z_iload_n ok dX7_ofBox_53 rfl ?_
      refine z_bipush ok dX7_ofBox_54 (by decide) ?_
      refine z_bipush ok dX7_ofBox_56 (by decide) ?_
      refine z_callSie ok (fun l => c_X7_in  (by omega) (by omega) (by omega)) zm_X7_in qt_X7_in qm_RX7_59 dX7_ofBox_58 (by decide) (by decide) rfl rfl (Nat.le_of_ble_eq_true rfl) (fun ρ _ hρ => ?_)
      subst hρ
      refine z_ifb_eq (tgt := 81) ok dX7_ofBox_61 (by decide) (fun c61 => ?_) (fun c61 => ?_)
      · -- t
        refine z_iload_n ok dX7_ofBox_81 rfl ?_
        refine z_if_ne (tgt := 94) ok dX7_ofBox_82 (by decide) (by omega) (fun c82 => ?_) (fun c82 => ?_)
        · -- t
          refine z_iload_n ok dX7_ofBox_94 rfl ?_
          refine z_iconst ok dX7_ofBox_95 ?_
          refine z_icmp_ne (tgt := 108) ok dX7_ofBox_96 (by decide) (by omega) (by omega) (fun c96 => ?_) (fun c96 => ?_)
          · -- t
            refine z_iload_n ok dX7_ofBox_108 rfl ?_
            refine z_iconst ok dX7_ofBox_109 ?_
            refine z_icmp_ne (tgt := 122) ok dX7_ofBox_110 (by decide) (by omega) (by omega) (fun c110 => ?_) (fun c110 => ?_)
            · -- t
              refine z_bipush ok dX7_ofBox_122 (by decide) ?_
              exact fin (-2) () 124 _ _ _ dX7_ofBox_124 (trivial) (by unfold obR isB; rw [zif_t c5, if_neg c17, if_neg c61]; first | rw [if_pos c82] | rw [if_neg c82, if_pos c96] | rw [if_neg c82, if_neg c96, if_pos c110] | rw [if_neg c82, if_neg c96, if_neg c110]) (by decide) (by decide)
            · -- f
              refine z_aload_n ok dX7_ofBox_113 rfl ?_
              refine z_iload_n ok dX7_ofBox_114 rfl ?_
              refine z_iconst ok dX7_ofBox_115 ?_
              refine z_callVi0 ok (fun l => c_X7_packetsOf  (hw) (by omega) (by omega)) zm_X7_packetsOf zv_X7_packetsOf qm_RX7_143 dX7_ofBox_116 (by decide) (by decide) rfl rfl (Nat.le_of_ble_eq_true rfl) (q0 := 0) rfl rfl rfl (fun ρ _ hρ => ?_)
              subst hρ
              refine z_eq (ws' := mW Z q now kept hist und sav isv pad sg it far many laid sides stuck ord rd pl wr) rfl ?_
              refine z_goto (tgt := 124) ok dX7_ofBox_119 (by decide) ?_
              exact fin (cnt now b 2) () 124 _ _ _ dX7_ofBox_124 (trivial) (by unfold obR isB; rw [zif_t c5, if_neg c17, if_neg c61]; first | rw [if_pos c82] | rw [if_neg c82, if_pos c96] | rw [if_neg c82, if_neg c96, if_pos c110] | rw [if_neg c82, if_neg c96, if_neg c110]) (by decide) (by decide)
          · -- f
            refine z_aload_n ok dX7_ofBox_99 rfl ?_
            refine z_iload_n ok dX7_ofBox_100 rfl ?_
            refine z_iconst ok dX7_ofBox_101 ?_
            refine z_callVi0 ok (fun l => c_X7_packetsOf  (hw) (by omega) (by omega)) zm_X7_packetsOf zv_X7_packetsOf qm_RX7_143 dX7_ofBox_102 (by decide) (by decide) rfl rfl (Nat.le_of_ble_eq_true rfl) (q0 := 0) rfl rfl rfl (fun ρ _ hρ => ?_)
            subst hρ
            refine z_eq (ws' := mW Z q now kept hist und sav isv pad sg it far many laid sides stuck ord rd pl wr) rfl ?_
            refine z_goto (tgt := 124) ok dX7_ofBox_105 (by decide) ?_
            exact fin (cnt now b 0) () 124 _ _ _ dX7_ofBox_124 (trivial) (by unfold obR isB; rw [zif_t c5, if_neg c17, if_neg c61]; first | rw [if_pos c82] | rw [if_neg c82, if_pos c96] | rw [if_neg c82, if_neg c96, if_pos c110] | rw [if_neg c82, if_neg c96, if_neg c110]) (by decide) (by decide)
        · -- f
          refine z_aload_n ok dX7_ofBox_85 rfl ?_
          refine z_iload_n ok dX7_ofBox_86 rfl ?_
          refine z_iconst ok dX7_ofBox_87 ?_
          refine z_callVi0 ok (fun l => c_X7_packetsOf  (hw) (by omega) (by omega)) zm_X7_packetsOf zv_X7_packetsOf qm_RX7_143 dX7_ofBox_88 (by decide) (by decide) rfl rfl (Nat.le_of_ble_eq_true rfl) (q0 := 0) rfl rfl rfl (fun ρ _ hρ => ?_)
          subst hρ
          refine z_eq (ws' := mW Z q now kept hist und sav isv pad sg it far many laid sides stuck ord rd pl wr) rfl ?_
          refine z_goto (tgt := 124) ok dX7_ofBox_91 (by decide) ?_
          exact fin (cnt now b 1) () 124 _ _ _ dX7_ofBox_124 (trivial) (by unfold obR isB; rw [zif_t c5, if_neg c17, if_neg c61]; first | rw [if_pos c82] | rw [if_neg c82, if_pos c96] | rw [if_neg c82, if_neg c96, if_pos c110] | rw [if_neg c82, if_neg c96, if_neg c110]) (by decide) (by decide)
      · -- f
        refine z_aload_n ok dX7_ofBox_64 rfl ?_
        refine z_get (v := .ref (q 1)) ok zc7 0 rfl 0 (by decide) qf_RX7_7 rfl rfl dX7_ofBox_65 ?_
        refine z_bipush ok dX7_ofBox_68 (by decide) ?_
        refine z_iconst ok dX7_ofBox_70 ?_
        refine z_iload_n ok dX7_ofBox_71 rfl ?_
        refine z_imul ok dX7_ofBox_72 ?_
        refine z_iadd ok dX7_ofBox_73 ?_
        refine z_iload_n ok dX7_ofBox_74 rfl ?_
        refine z_iadd ok dX7_ofBox_75 ?_
        refine z_bipush ok dX7_ofBox_76 (by decide) ?_
        refine z_isub ok dX7_ofBox_78 ?_
        refine z_iald (f := now) ok 1 rfl dX7_ofBox_79 (by omega) (by decide) ?_
        exact fin (now (((60 + (4 * b)) + w) - 7)) () 80 _ _ _ dX7_ofBox_80 (trivial) (by unfold obR isB; rw [zif_t c5, if_neg c17, if_pos c61]) (by decide) (by decide)
    · -- f
      have hnbm : nbm now b (w - 3) = if nb now b (w - 3) < 0 then -6 else nb now b (w - 3) := rfl
      have hnbr := nb_rng (d := w - 3) hw c5 (by omega)
      refine z_aload_n ok dX7_ofBox_20 rfl ?_
      refine z_iload_n ok dX7_ofBox_21 rfl ?_
      refine z_iload_n ok dX7_ofBox_22 rfl ?_
      refine z_iconst ok dX7_ofBox_23 ?_
      refine z_isub ok dX7_ofBox_24 ?_
      refine z_callVi0 ok (fun l => c_X7_beside  (by omega) (by omega) (by omega) (by omega)) zm_X7_beside zv_X7_beside qm_RX7_63 dX7_ofBox_25 (by decide) (by decide) rfl rfl (Nat.le_of_ble_eq_true rfl) (q0 := 0) rfl rfl rfl (fun ρ _ hρ => ?_)
      subst hρ
      refine z_eq (ws' := mW Z q now kept hist und sav isv pad sg it far many laid sides stuck ord rd pl wr) rfl ?_
      refine z_if_ge (tgt := 36) ok dX7_ofBox_28 (by decide) (by (split at hnbm) <;> omega) (fun c28 => ?_) (fun c28 => ?_)
      · -- t
        refine z_aload_n ok dX7_ofBox_36 rfl ?_
        refine z_iload_n ok dX7_ofBox_37 rfl ?_
        refine z_iload_n ok dX7_ofBox_38 rfl ?_
        refine z_iconst ok dX7_ofBox_39 ?_
        refine z_isub ok dX7_ofBox_40 ?_
        refine z_callVi0 ok (fun l => c_X7_isWhole  (hw) (by omega) (by omega)) zm_X7_isWhole zv_X7_isWhole qm_RX7_83 dX7_ofBox_41 (by decide) (by decide) rfl rfl (Nat.le_of_ble_eq_true rfl) (q0 := 0) rfl rfl rfl (fun ρ _ hρ => ?_)
        subst hρ
        refine z_eq (ws' := mW Z q now kept hist und sav isv pad sg it far many laid sides stuck ord rd pl wr) rfl ?_
        refine z_ifb_eq (tgt := 51) ok dX7_ofBox_44 (by decide) (fun c44 => ?_) (fun c44 => ?_)
        · -- t
          refine z_iconst ok dX7_ofBox_51 ?_
          have hob : obR now b w = if nb now b (w - 3) < 0 then -6 else zb (opn now b (w - 3)) := by unfold obR isB; rw [zif_t c5, if_pos c17]
          exact fin 0 () 52 _ _ _ dX7_ofBox_52 (trivial) (by rw [hob]; first | (rw [if_pos (by (split at hnbm) <;> omega)]; done) | (rw [if_neg (by (split at hnbm) <;> omega), zb_t c44]; done) | (rw [if_neg (by (split at hnbm) <;> omega), zb_f c44])) (by decide) (by decide)
        · -- f
          refine z_iconst ok dX7_ofBox_47 ?_
          refine z_goto (tgt := 52) ok dX7_ofBox_48 (by decide) ?_
          have hob : obR now b w = if nb now b (w - 3) < 0 then -6 else zb (opn now b (w - 3)) := by unfold obR isB; rw [zif_t c5, if_pos c17]
          exact fin 1 () 52 _ _ _ dX7_ofBox_52 (trivial) (by rw [hob]; first | (rw [if_pos (by (split at hnbm) <;> omega)]; done) | (rw [if_neg (by (split at hnbm) <;> omega), zb_t c44]; done) | (rw [if_neg (by (split at hnbm) <;> omega), zb_f c44])) (by decide) (by decide)
      · -- f
        refine z_bipush ok dX7_ofBox_31 (by decide) ?_
        refine z_goto (tgt := 52) ok dX7_ofBox_33 (by decide) ?_
        have hob : obR now b w = if nb now b (w - 3) < 0 then -6 else zb (opn now b (w - 3)) := by unfold obR isB; rw [zif_t c5, if_pos c17]
        exact fin (-6) () 52 _ _ _ dX7_ofBox_52 (trivial) (by rw [hob]; first | (rw [if_pos (by (split at hnbm) <;> omega)]; done) | (rw [if_neg (by (split at hnbm) <;> omega), zb_t c44]; done) | (rw [if_neg (by (split at hnbm) <;> omega), zb_f c44])) (by decide) (by decide)
  · -- f
    refine z_iconst ok dX7_ofBox_8 ?_
    exact fin (-1) () 9 _ _ _ dX7_ofBox_9 (trivial) (by unfold obR isB; exact (zif_f c5).symm) (by decide) (by decide)
set_option maxRecDepth 20000 in
theorem c_X7_busiest {l : Launch} {Z : zZ} {q : Nat → Nat} {now kept hist : Int → Int} {und : Int} {sav isv pad : Int → Int} {sg it : Int} {far many laid sides stuck ord : Int → Int} {rd pl wr : Int} {w : Int} (hw : wf now) (hm : mvOK now) (hww : -2147483648 ≤ w ∧ w < 2147483648) : zI (T := Unit) l yX7_busiest (Cond.code yX7_busiest cX7_busiest 4 (some .int) :: wsL_law) ({ frames := 1, cells := 0, slots := 0, locals := 22 } : Room) Z [.ref (q 0), .int (iI w)] (mW Z q now kept hist und sav isv pad sg it far many laid sides stuck ord rd pl wr) (fun _ => mW Z q now kept hist und sav isv pad sg it far many laid sides stuck ord rd pl wr) (fun ρ _ => ρ = bsR now (bst now (4 * (now 4 * now 5) - 1).toNat) w) := by
  refine zI_of (C := RX7) (by decide +kernel) rfl (Nat.le_of_ble_eq_true rfl) (fun _ => True) znI (fun X ok fin => ?_)
  obtain ⟨w0, w1, w2, hc, hr, w6, wl, wp⟩ := id hw
  have hcr := cr_rng hc hr
  refine z_lsub ok (lv' := [(0, .ref (q 0)), (1, .int (iI w))]) [0, 1] rfl ?_
  refine z_iload_n ok dX7_busiest_0 rfl ?_
  refine z_iconst ok dX7_busiest_1 ?_
  refine z_iconst ok dX7_busiest_2 ?_
  refine z_callSie ok (fun l => c_X7_in  (by omega) (by omega) (by omega)) zm_X7_in qt_X7_in qm_RX7_59 dX7_busiest_3 (by decide) (by decide) rfl rfl (Nat.le_of_ble_eq_true rfl) (fun ρ _ hρ => ?_)
  subst hρ
  refine z_ifb_ne (tgt := 12) ok dX7_busiest_6 (by decide) (fun c6 => ?_) (fun c6 => ?_)
  · -- t
    refine z_iconst ok dX7_busiest_12 ?_
    refine z_istore_n (lv' := [(2, .int (iI 0)), (0, .ref (q 0)), (1, .int (iI w))]) ok dX7_busiest_13 (by decide) rfl ?_
    refine z_iconst ok dX7_busiest_14 ?_
    refine z_istore_n (lv' := [(3, .int (iI 1)), (2, .int (iI 0)), (0, .ref (q 0)), (1, .int (iI w))]) ok dX7_busiest_15 (by decide) rfl ?_
    have L16 : ∀ (fuel : Nat) (k b : Int), (1 ≤ k) → (k ≤ 4 * (now 4 * now 5)) → (b = bst now (k - 1).toNat) → (4 * (now 4 * now 5) - k).toNat < fuel → zV X 0 0 (mW Z q now kept hist und sav isv pad sg it far many laid sides stuck ord rd pl wr) 16 [(0, .ref (q 0)), (1, .int (iI w)), (2, .int (iI b)), (3, .int (iI k))] [] := by
      intro fuel
      induction fuel with
      | zero => intro k b h16_0 h16_1 h16_2 hf; exact absurd hf (Nat.not_lt_zero _)
      | succ fuel ih16 =>
        intro k b h16_0 h16_1 h16_2 hf
        have hbr := bst_rng now (k - 1).toNat
        rw [← h16_2] at hbr
        refine z_iload_n ok dX7_busiest_16 rfl ?_
        refine z_iconst ok dX7_busiest_17 ?_
        refine z_aload_n ok dX7_busiest_18 rfl ?_
        refine z_callVi0 ok (fun l => c_X7_boxes  ) zm_X7_boxes zv_X7_boxes qm_RX7_55 dX7_busiest_19 (by decide) (by decide) rfl rfl (Nat.le_of_ble_eq_true rfl) (q0 := 0) rfl rfl rfl (fun ρ _ hρ => ?_)
        subst hρ
        refine z_eq (ws' := mW Z q now kept hist und sav isv pad sg it far many laid sides stuck ord rd pl wr) rfl ?_
        refine z_imul ok dX7_busiest_22 ?_
        refine z_icmp_ge (tgt := 59) ok dX7_busiest_23 (by decide) (by omega) (by omega) (fun c23 => ?_) (fun c23 => ?_)
        · -- t
          have hm2 := hm b (by omega) (by omega)
          have hke : k = 4 * (now 4 * now 5) := by omega
          rw [hke] at h16_2
          have hbs : ∀ x : Int, x = bsR now b w → x = bsR now (bst now (4 * (now 4 * now 5) - 1).toNat) w := fun x h => by rw [← h16_2]; exact h
          refine z_aload_n ok dX7_busiest_59 rfl ?_
          refine z_get (v := .ref (q 1)) ok zc7 0 rfl 0 (by decide) qf_RX7_7 rfl rfl dX7_busiest_60 ?_
          refine z_bipush ok dX7_busiest_63 (by decide) ?_
          refine z_iload_n ok dX7_busiest_65 rfl ?_
          refine z_iadd ok dX7_busiest_66 ?_
          refine z_iald (f := now) ok 1 rfl dX7_busiest_67 (by omega) (by decide) ?_
          refine z_istore_n (lv' := [(3, .int (iI (now (60 + b)))), (0, .ref (q 0)), (1, .int (iI w)), (2, .int (iI b))]) ok dX7_busiest_68 (by decide) rfl ?_
          refine z_iload_n ok dX7_busiest_69 rfl ?_
          refine z_if_ne (tgt := 78) ok dX7_busiest_70 (by decide) (by omega) (fun c70 => ?_) (fun c70 => ?_)
          · -- t
            refine z_iload_n ok dX7_busiest_78 rfl ?_
            refine z_if_ne (tgt := 88) ok dX7_busiest_79 (by decide) (by omega) (fun c79 => ?_) (fun c79 => ?_)
            · -- t
              refine z_iload_n ok dX7_busiest_88 rfl ?_
              refine z_iconst ok dX7_busiest_89 ?_
              refine z_icmp_ne (tgt := 99) ok dX7_busiest_90 (by decide) (by omega) (by omega) (fun c90 => ?_) (fun c90 => ?_)
              · -- t
                refine z_iload_n ok dX7_busiest_99 rfl ?_
                exact fin (now (60 + b)) () 100 _ _ _ dX7_busiest_100 (trivial) (hbs _ (by unfold bsR; rw [if_neg (by omega)]; first | rw [if_pos c70] | rw [if_neg c70, if_pos c79] | rw [if_neg c70, if_neg c79, if_pos c90] | rw [if_neg c70, if_neg c79, if_neg c90])) (by decide) (by decide)
              · -- f
                refine z_iload_n ok dX7_busiest_93 rfl ?_
                refine z_iconst ok dX7_busiest_94 ?_
                refine z_irem ok dX7_busiest_95 (by omega) (by omega) ?_
                refine z_goto (tgt := 100) ok dX7_busiest_96 (by decide) ?_
                exact fin (b % 4) () 100 _ _ _ dX7_busiest_100 (trivial) (hbs _ (by unfold bsR; rw [if_neg (by omega)]; first | rw [if_pos c70] | rw [if_neg c70, if_pos c79] | rw [if_neg c70, if_neg c79, if_pos c90] | rw [if_neg c70, if_neg c79, if_neg c90])) (by decide) (by decide)
            · -- f
              refine z_iload_n ok dX7_busiest_82 rfl ?_
              refine z_iconst ok dX7_busiest_83 ?_
              refine z_idiv ok dX7_busiest_84 (by omega) (by omega) ?_
              refine z_goto (tgt := 100) ok dX7_busiest_85 (by decide) ?_
              exact fin (b / 4) () 100 _ _ _ dX7_busiest_100 (trivial) (hbs _ (by unfold bsR; rw [if_neg (by omega)]; first | rw [if_pos c70] | rw [if_neg c70, if_pos c79] | rw [if_neg c70, if_neg c79, if_pos c90] | rw [if_neg c70, if_neg c79, if_neg c90])) (by decide) (by decide)
          · -- f
            refine z_bipush ok dX7_busiest_73 (by decide) ?_
            refine z_goto (tgt := 100) ok dX7_busiest_75 (by decide) ?_
            exact fin (-6) () 100 _ _ _ dX7_busiest_100 (trivial) (hbs _ (by unfold bsR; rw [if_neg (by omega)]; first | rw [if_pos c70] | rw [if_neg c70, if_pos c79] | rw [if_neg c70, if_neg c79, if_pos c90] | rw [if_neg c70, if_neg c79, if_neg c90])) (by decide) (by decide)
        · -- f
          have hm1 := hm k (by omega) (by omega)
          have hm2 := hm b (by omega) (by omega)
          refine z_aload_n ok dX7_busiest_26 rfl ?_
          refine z_get (v := .ref (q 1)) ok zc7 0 rfl 0 (by decide) qf_RX7_7 rfl rfl dX7_busiest_27 ?_
          refine z_bipush ok dX7_busiest_30 (by decide) ?_
          refine z_iload_n ok dX7_busiest_32 rfl ?_
          refine z_iadd ok dX7_busiest_33 ?_
          refine z_iald (f := now) ok 1 rfl dX7_busiest_34 (by omega) (by decide) ?_
          refine z_aload_n ok dX7_busiest_35 rfl ?_
          refine z_get (v := .ref (q 1)) ok zc7 0 rfl 0 (by decide) qf_RX7_7 rfl rfl dX7_busiest_36 ?_
          refine z_bipush ok dX7_busiest_39 (by decide) ?_
          refine z_iload_n ok dX7_busiest_41 rfl ?_
          refine z_iadd ok dX7_busiest_42 ?_
          refine z_iald (f := now) ok 1 rfl dX7_busiest_43 (by omega) (by decide) ?_
          refine z_icmp_le (tgt := 51) ok dX7_busiest_44 (by decide) (by omega) (by omega) (fun c44 => ?_) (fun c44 => ?_)
          · -- t
            refine z_iload_n ok dX7_busiest_51 rfl ?_
            refine z_istore_n (lv' := [(2, .int (iI b)), (0, .ref (q 0)), (1, .int (iI w)), (3, .int (iI k))]) ok dX7_busiest_52 (by decide) rfl ?_
            refine z_iinc (lv' := [(3, .int (iI (k + 1))), (2, .int (iI b)), (0, .ref (q 0)), (1, .int (iI w))]) ok dX7_busiest_53 3 rfl (by decide) rfl ?_
            refine z_goto (tgt := 16) ok dX7_busiest_56 (by decide) ?_
            refine z_lsub ok (lv' := [(0, .ref (q 0)), (1, .int (iI w)), (2, .int (iI b)), (3, .int (iI (k + 1)))]) [2, 3, 1, 0] rfl ?_
            exact ih16 _ _ (by omega) (by omega) (by rw [bst_s (by omega) h16_2]; first | rw [if_pos (by omega)] | rw [if_neg (by omega)]) (by omega)
          · -- f
            refine z_iload_n ok dX7_busiest_47 rfl ?_
            refine z_goto (tgt := 52) ok dX7_busiest_48 (by decide) ?_
            refine z_istore_n (lv' := [(2, .int (iI k)), (0, .ref (q 0)), (1, .int (iI w)), (3, .int (iI k))]) ok dX7_busiest_52 (by decide) rfl ?_
            refine z_iinc (lv' := [(3, .int (iI (k + 1))), (2, .int (iI k)), (0, .ref (q 0)), (1, .int (iI w))]) ok dX7_busiest_53 3 rfl (by decide) rfl ?_
            refine z_goto (tgt := 16) ok dX7_busiest_56 (by decide) ?_
            refine z_lsub ok (lv' := [(0, .ref (q 0)), (1, .int (iI w)), (2, .int (iI k)), (3, .int (iI (k + 1)))]) [2, 3, 1, 0] rfl ?_
            exact ih16 _ _ (by omega) (by omega) (by rw [bst_s (by omega) h16_2]; first | rw [if_pos (by omega)] | rw [if_neg (by omega)]) (by omega)
    refine z_lsub ok (lv' := [(0, .ref (q 0)), (1, .int (iI w)), (2, .int (iI 0)), (3, .int (iI 1))]) [2, 3, 1, 0] rfl ?_
    exact L16 _ _ _ (by omega) (by omega) (rfl) (Nat.lt_succ_self _)
  · -- f
    refine z_bipush ok dX7_busiest_9 (by decide) ?_
    exact fin (-2) () 11 _ _ _ dX7_busiest_11 (trivial) (by unfold bsR; rw [if_pos (by omega)]) (by decide) (by decide)
