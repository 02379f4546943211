set_option maxRecDepth 20000 in
theorem c_X7_arrivesIn {l : Launch} {Z : zZ} {q : Nat → Nat} {now kept hist : Int → Int} {und : Int} {sav isv pad : Int → Int} {sg it : Int} {far many laid sides stuck ord : Int → Int} {rd pl wr : Int} {p : Int} (hw : wf now) (hp : -2147483648 ≤ p ∧ p < 2147483648) (hca : cacheOK now laid far many) : zI (T := (Int → Int) × (Int → Int) × (Int → Int) × (Int → Int) × (Int → Int)) l yX7_arrivesIn (Cond.code yX7_arrivesIn cX7_arrivesIn 4 (some .int) :: wsL_law) ({ frames := 10, cells := 0, slots := 0, locals := 244 } : Room) Z [.ref (q 0), .int (iI p)] (mW Z q now kept hist und sav isv pad sg it far many laid sides stuck ord rd pl wr) (fun u => mW Z q now u.1 hist und sav isv pad sg it u.2.2.1 u.2.2.2.1 u.2.2.2.2 u.2.1 stuck ord rd pl wr) (fun ρ u => ρ = arR now p ∧ cacheOK now u.2.2.2.2 u.2.2.1 u.2.2.2.1) := by
  refine zI_of (C := RX7) (by decide +kernel) rfl (Nat.le_of_ble_eq_true rfl) (fun _ => True) znI (fun X ok fin => ?_)
  obtain ⟨w0, w1, w2, hc, hr, w6, wl, wp⟩ := id hw
  have hcr := cr_rng hc hr
  refine z_lsub ok (lv' := [(0, .ref (q 0)), (1, .int (iI p))]) [0, 1] rfl ?_
  refine z_aload_n ok dX7_arrivesIn_0 rfl ?_
  refine z_iload_n ok dX7_arrivesIn_1 rfl ?_
  refine z_callVi0 ok (fun l => c_X7_isPacket  (by omega) (by omega)) zm_X7_isPacket zv_X7_isPacket qm_RX7_134 dX7_arrivesIn_2 (by decide) (by decide) rfl rfl (Nat.le_of_ble_eq_true rfl) (q0 := 0) rfl rfl rfl (fun ρ _ hρ => ?_)
  subst hρ
  refine z_eq (ws' := mW Z q now kept hist und sav isv pad sg it far many laid sides stuck ord rd pl wr) rfl ?_
  refine z_ifb_ne (tgt := 10) ok dX7_arrivesIn_5 (by decide) (fun c5 => ?_) (fun c5 => ?_)
  · -- t
    have hp5 : 0 ≤ p ∧ p < now 6 := c5
    refine z_aload_n ok dX7_arrivesIn_10 rfl ?_
    refine z_callVv0 ok (fun l => c_X7_keep  ) zm_X7_keep zv_X7_keep qm_RX7_158 dX7_arrivesIn_11 (by decide) (by decide) rfl rfl (Nat.le_of_ble_eq_true rfl) (q0 := 0) rfl rfl rfl (fun _ hp11 => ?_)
    refine z_eq (ws' := mW Z q now (zcp kept now 0 560) hist und sav isv pad sg it far many laid sides stuck ord rd pl wr) rfl ?_
    refine z_iconst ok dX7_arrivesIn_14 ?_
    refine z_istore_n (lv' := [(2, .int (iI 0)), (0, .ref (q 0)), (1, .int (iI p))]) ok dX7_arrivesIn_15 (by decide) rfl ?_
    have L16 : ∀ (fuel : Nat) (k : Int) (N sd f m ld : Int → Int), (0 ≤ k) → (k ≤ 300) → (N = tkN now k.toNat) → (∀ j : Int, 0 ≤ j → j < k → ¬ arQ now p j) → (cacheOK N ld f m) → (300 - k).toNat < fuel → zV X 0 0 (mW Z q N (zcp kept now 0 560) hist und sav isv pad sg it f m ld sd stuck ord rd pl wr) 16 [(0, .ref (q 0)), (1, .int (iI p)), (2, .int (iI k))] [] := by
      intro fuel
      induction fuel with
      | zero => intro k N sd f m ld h16_0 h16_1 h16_2 h16_3 h16_4 hf; exact absurd hf (Nat.not_lt_zero _)
      | succ fuel ih16 =>
        intro k N sd f m ld h16_0 h16_1 h16_2 h16_3 h16_4 hf
        have hwf := wf_tks hw k.toNat
        rw [← h16_2] at hwf
        obtain ⟨hwN, hloN, htkN⟩ := hwf
        have h6N := hloN 6 (by omega) (by omega)
        have wpp := hwN.2.2.2.2.2.2.2 p (by omega) (by omega)
        have haq := arQ_s (p := p) h16_2
        refine z_aload_n ok dX7_arrivesIn_16 rfl ?_
        refine z_iload_n ok dX7_arrivesIn_17 rfl ?_
        refine z_iconst ok dX7_arrivesIn_18 ?_
        refine z_callVi0 ok (fun l => c_X7_of  (by omega) (by omega)) zm_X7_of zv_X7_of qm_RX7_98 dX7_arrivesIn_19 (by decide) (by decide) rfl rfl (Nat.le_of_ble_eq_true rfl) (q0 := 0) rfl rfl rfl (fun ρ _ hρ => ?_)
        subst hρ
        refine z_eq (ws' := mW Z q N (zcp kept now 0 560) hist und sav isv pad sg it f m ld sd stuck ord rd pl wr) rfl ?_
        refine z_iconst ok dX7_arrivesIn_22 ?_
        refine z_icmp_eq (tgt := 43) ok dX7_arrivesIn_23 (by decide) (by omega) (by omega) (fun c23 => ?_) (fun c23 => ?_)
        · -- t
          refine z_aload_n ok dX7_arrivesIn_43 rfl ?_
          refine z_iload_n ok dX7_arrivesIn_44 rfl ?_
          refine z_iconst ok dX7_arrivesIn_45 ?_
          refine z_callVi0 ok (fun l => c_X7_of  (by omega) (by omega)) zm_X7_of zv_X7_of qm_RX7_98 dX7_arrivesIn_46 (by decide) (by decide) rfl rfl (Nat.le_of_ble_eq_true rfl) (q0 := 0) rfl rfl rfl (fun ρ _ hρ => ?_)
          subst hρ
          refine z_eq (ws' := mW Z q N (zcp kept now 0 560) hist und sav isv pad sg it f m ld sd stuck ord rd pl wr) rfl ?_
          refine z_iconst ok dX7_arrivesIn_49 ?_
          refine z_icmp_ne (tgt := 57) ok dX7_arrivesIn_50 (by decide) (by omega) (by omega) (fun c50 => ?_) (fun c50 => ?_)
          · -- t
            refine z_bipush ok dX7_arrivesIn_57 (by decide) ?_
            refine z_istore_n (lv' := [(3, .int (iI (-6))), (0, .ref (q 0)), (1, .int (iI p)), (2, .int (iI k))]) ok dX7_arrivesIn_59 (by decide) rfl ?_
            have hcb := cache_same (N' := now) hwN (fun k h0 h1 h2 h3 h6 => (hloN k h1 h3).symm) h16_4
            refine z_aload_n ok dX7_arrivesIn_60 rfl ?_
            refine z_callVv0 ok (fun l => c_X7_comeBack  ) zm_X7_comeBack zv_X7_comeBack qm_RX7_161 dX7_arrivesIn_61 (by decide) (by decide) rfl rfl (Nat.le_of_ble_eq_true rfl) (q0 := 0) rfl rfl rfl (fun _ hp61 => ?_)
            refine z_eq (ws' := mW Z q (zcp N (zcp kept now 0 560) 0 560) (zcp kept now 0 560) hist und sav isv pad sg it f m ld sd stuck ord rd pl wr) rfl ?_
            refine z_ext (f := zcp N (zcp kept now 0 560) 0 560) (g := now) (ws' := mW Z q now (zcp kept now 0 560) hist und sav isv pad sg it f m ld sd stuck ord rd pl wr) ok 1 rfl (fun j h0 h1 => cpy_back h0 h1) rfl ?_
            refine z_iload_n ok dX7_arrivesIn_64 rfl ?_
            exact fin (-6) (zcp kept now 0 560, sd, f, m, ld) 65 _ _ _ dX7_arrivesIn_65 (trivial) (⟨by unfold arR; rw [zif_t hp5]; first | exact absurd c23 c50 | exact absurd c50 c23 | exact (fsk_yes h16_0 h16_1 (haq ▸ c50) h16_3).symm | exact (fsk_no (fun j h0 h1 => (if e : j = k then (by rw [e, ← haq]; exact c50) else h16_3 j h0 (by omega)))).symm, hcb⟩) (by decide) (by decide)
          · -- f
            refine z_iload_n ok dX7_arrivesIn_53 rfl ?_
            refine z_goto (tgt := 59) ok dX7_arrivesIn_54 (by decide) ?_
            refine z_istore_n (lv' := [(3, .int (iI k)), (0, .ref (q 0)), (1, .int (iI p)), (2, .int (iI k))]) ok dX7_arrivesIn_59 (by decide) rfl ?_
            have hcb := cache_same (N' := now) hwN (fun k h0 h1 h2 h3 h6 => (hloN k h1 h3).symm) h16_4
            refine z_aload_n ok dX7_arrivesIn_60 rfl ?_
            refine z_callVv0 ok (fun l => c_X7_comeBack  ) zm_X7_comeBack zv_X7_comeBack qm_RX7_161 dX7_arrivesIn_61 (by decide) (by decide) rfl rfl (Nat.le_of_ble_eq_true rfl) (q0 := 0) rfl rfl rfl (fun _ hp61 => ?_)
            refine z_eq (ws' := mW Z q (zcp N (zcp kept now 0 560) 0 560) (zcp kept now 0 560) hist und sav isv pad sg it f m ld sd stuck ord rd pl wr) rfl ?_
            refine z_ext (f := zcp N (zcp kept now 0 560) 0 560) (g := now) (ws' := mW Z q now (zcp kept now 0 560) hist und sav isv pad sg it f m ld sd stuck ord rd pl wr) ok 1 rfl (fun j h0 h1 => cpy_back h0 h1) rfl ?_
            refine z_iload_n ok dX7_arrivesIn_64 rfl ?_
            exact fin k (zcp kept now 0 560, sd, f, m, ld) 65 _ _ _ dX7_arrivesIn_65 (trivial) (⟨by unfold arR; rw [zif_t hp5]; first | exact absurd c23 c50 | exact absurd c50 c23 | exact (fsk_yes h16_0 h16_1 (haq ▸ c50) h16_3).symm | exact (fsk_no (fun j h0 h1 => (if e : j = k then (by rw [e, ← haq]; exact c50) else h16_3 j h0 (by omega)))).symm, hcb⟩) (by decide) (by decide)
        · -- f
          refine z_iload_n ok dX7_arrivesIn_26 rfl ?_
          refine z_sipush ok dX7_arrivesIn_27 (by decide) ?_
          refine z_icmp_ge (tgt := 43) ok dX7_arrivesIn_30 (by decide) (by omega) (by omega) (fun c30 => ?_) (fun c30 => ?_)
          · -- t
            refine z_aload_n ok dX7_arrivesIn_43 rfl ?_
            refine z_iload_n ok dX7_arrivesIn_44 rfl ?_
            refine z_iconst ok dX7_arrivesIn_45 ?_
            refine z_callVi0 ok (fun l => c_X7_of  (by omega) (by omega)) zm_X7_of zv_X7_of qm_RX7_98 dX7_arrivesIn_46 (by decide) (by decide) rfl rfl (Nat.le_of_ble_eq_true rfl) (q0 := 0) rfl rfl rfl (fun ρ _ hρ => ?_)
            subst hρ
            refine z_eq (ws' := mW Z q N (zcp kept now 0 560) hist und sav isv pad sg it f m ld sd stuck ord rd pl wr) rfl ?_
            refine z_iconst ok dX7_arrivesIn_49 ?_
            refine z_icmp_ne (tgt := 57) ok dX7_arrivesIn_50 (by decide) (by omega) (by omega) (fun c50 => ?_) (fun c50 => ?_)
            · -- t
              refine z_bipush ok dX7_arrivesIn_57 (by decide) ?_
              refine z_istore_n (lv' := [(3, .int (iI (-6))), (0, .ref (q 0)), (1, .int (iI p)), (2, .int (iI k))]) ok dX7_arrivesIn_59 (by decide) rfl ?_
              have hcb := cache_same (N' := now) hwN (fun k h0 h1 h2 h3 h6 => (hloN k h1 h3).symm) h16_4
              refine z_aload_n ok dX7_arrivesIn_60 rfl ?_
              refine z_callVv0 ok (fun l => c_X7_comeBack  ) zm_X7_comeBack zv_X7_comeBack qm_RX7_161 dX7_arrivesIn_61 (by decide) (by decide) rfl rfl (Nat.le_of_ble_eq_true rfl) (q0 := 0) rfl rfl rfl (fun _ hp61 => ?_)
              refine z_eq (ws' := mW Z q (zcp N (zcp kept now 0 560) 0 560) (zcp kept now 0 560) hist und sav isv pad sg it f m ld sd stuck ord rd pl wr) rfl ?_
              refine z_ext (f := zcp N (zcp kept now 0 560) 0 560) (g := now) (ws' := mW Z q now (zcp kept now 0 560) hist und sav isv pad sg it f m ld sd stuck ord rd pl wr) ok 1 rfl (fun j h0 h1 => cpy_back h0 h1) rfl ?_
              refine z_iload_n ok dX7_arrivesIn_64 rfl ?_
              exact fin (-6) (zcp kept now 0 560, sd, f, m, ld) 65 _ _ _ dX7_arrivesIn_65 (trivial) (⟨by unfold arR; rw [zif_t hp5]; first | exact absurd c23 c50 | exact absurd c50 c23 | exact (fsk_yes h16_0 h16_1 (haq ▸ c50) h16_3).symm | exact (fsk_no (fun j h0 h1 => (if e : j = k then (by rw [e, ← haq]; exact c50) else h16_3 j h0 (by omega)))).symm, hcb⟩) (by decide) (by decide)
            · -- f
              refine z_iload_n ok dX7_arrivesIn_53 rfl ?_
              refine z_goto (tgt := 59) ok dX7_arrivesIn_54 (by decide) ?_
              refine z_istore_n (lv' := [(3, .int (iI k)), (0, .ref (q 0)), (1, .int (iI p)), (2, .int (iI k))]) ok dX7_arrivesIn_59 (by decide) rfl ?_
              have hcb := cache_same (N' := now) hwN (fun k h0 h1 h2 h3 h6 => (hloN k h1 h3).symm) h16_4
              refine z_aload_n ok dX7_arrivesIn_60 rfl ?_
              refine z_callVv0 ok (fun l => c_X7_comeBack  ) zm_X7_comeBack zv_X7_comeBack qm_RX7_161 dX7_arrivesIn_61 (by decide) (by decide) rfl rfl (Nat.le_of_ble_eq_true rfl) (q0 := 0) rfl rfl rfl (fun _ hp61 => ?_)
              refine z_eq (ws' := mW Z q (zcp N (zcp kept now 0 560) 0 560) (zcp kept now 0 560) hist und sav isv pad sg it f m ld sd stuck ord rd pl wr) rfl ?_
              refine z_ext (f := zcp N (zcp kept now 0 560) 0 560) (g := now) (ws' := mW Z q now (zcp kept now 0 560) hist und sav isv pad sg it f m ld sd stuck ord rd pl wr) ok 1 rfl (fun j h0 h1 => cpy_back h0 h1) rfl ?_
              refine z_iload_n ok dX7_arrivesIn_64 rfl ?_
              exact fin k (zcp kept now 0 560, sd, f, m, ld) 65 _ _ _ dX7_arrivesIn_65 (trivial) (⟨by unfold arR; rw [zif_t hp5]; first | exact absurd c23 c50 | exact absurd c50 c23 | exact (fsk_yes h16_0 h16_1 (haq ▸ c50) h16_3).symm | exact (fsk_no (fun j h0 h1 => (if e : j = k then (by rw [e, ← haq]; exact c50) else h16_3 j h0 (by omega)))).symm, hcb⟩) (by decide) (by decide)
          · -- f
            refine z_aload_n ok dX7_arrivesIn_33 rfl ?_
            refine z_callVv0 ok (fun l => c_X7_pass  (hwN) (h16_4)) zm_X7_pass zv_X7_pass qm_RX7_128 dX7_arrivesIn_34 (by decide) (by decide) rfl rfl (Nat.le_of_ble_eq_true rfl) (q0 := 0) rfl rfl rfl (fun u34 hp34 => ?_)
            obtain ⟨sides_34, far_34, many_34, laid_34⟩ := u34
            try dsimp only at hp34
            have hc34 := hp34
            refine z_eq (ws' := mW Z q (pasN N) (zcp kept now 0 560) hist und sav isv pad sg it far_34 many_34 laid_34 sides_34 stuck ord rd pl wr) rfl ?_
            refine z_iinc (lv' := [(2, .int (iI (k + 1))), (0, .ref (q 0)), (1, .int (iI p))]) ok dX7_arrivesIn_37 2 rfl (by decide) rfl ?_
            refine z_goto (tgt := 16) ok dX7_arrivesIn_40 (by decide) ?_
            refine z_lsub ok (lv' := [(0, .ref (q 0)), (1, .int (iI p)), (2, .int (iI (k + 1)))]) [1, 2, 0] rfl ?_
            exact ih16 _ _ _ _ _ _ (by omega) (by omega) (by rw [tkN_s (by omega) h16_2]) (zall h16_3 (by rw [← haq]; exact c23)) (hc34) (by omega)
    refine z_lsub ok (lv' := [(0, .ref (q 0)), (1, .int (iI p)), (2, .int (iI 0))]) [1, 2, 0] rfl ?_
    exact L16 _ _ _ _ _ _ _ (by omega) (by omega) (rfl) (fun j h0 h1 => absurd h1 (by omega)) (hca) (Nat.lt_succ_self _)
  · -- f
    refine z_iconst ok dX7_arrivesIn_8 ?_
    exact fin (-1) (kept, sides, far, many, laid) 9 _ _ _ dX7_arrivesIn_9 (trivial) (⟨by unfold arR; exact (zif_f c5).symm, hca⟩) (by decide) (by decide)
set_option maxRecDepth 20000 in
theorem c_X7_arrivedBy {l : Launch} {Z : zZ} {q : Nat → Nat} {now kept hist : Int → Int} {und : Int} {sav isv pad : Int → Int} {sg it : Int} {far many laid sides stuck ord : Int → Int} {rd pl wr : Int} {n : Int} (hw : wf now) (hn : -2147483648 ≤ n ∧ n < 2147483648) (hca : cacheOK now laid far many) : zI (T := (Int → Int) × (Int → Int) × (Int → Int) × (Int → Int) × (Int → Int)) l yX7_arrivedBy (Cond.code yX7_arrivedBy cX7_arrivedBy 3 (some .int) :: wsL_law) ({ frames := 10, cells := 0, slots := 0, locals := 244 } : Room) Z [.ref (q 0), .int (iI n)] (mW Z q now kept hist und sav isv pad sg it far many laid sides stuck ord rd pl wr) (fun u => mW Z q now u.1 hist und sav isv pad sg it u.2.2.1 u.2.2.2.1 u.2.2.2.2 u.2.1 stuck ord rd pl wr) (fun ρ u => ρ = zif (1 ≤ n ∧ n ≤ 300) (cnt (tkN now n.toNat) (-6) 2) (-2) ∧ cacheOK now u.2.2.2.2 u.2.2.1 u.2.2.2.1) := by
  refine zI_of (C := RX7) (by decide +kernel) rfl (Nat.le_of_ble_eq_true rfl) (fun _ => True) znI (fun X ok fin => ?_)
  obtain ⟨w0, w1, w2, hc, hr, w6, wl, wp⟩ := id hw
  have hcr := cr_rng hc hr
  refine z_lsub ok (lv' := [(0, .ref (q 0)), (1, .int (iI n))]) [0, 1] rfl ?_
  refine z_iload_n ok dX7_arrivedBy_0 rfl ?_
  refine z_iconst ok dX7_arrivedBy_1 ?_
  refine z_sipush ok dX7_arrivedBy_2 (by decide) ?_
  refine z_callSie ok (fun l => c_X7_in  (by omega) (by omega) (by omega)) zm_X7_in qt_X7_in qm_RX7_59 dX7_arrivedBy_5 (by decide) (by decide) rfl rfl (Nat.le_of_ble_eq_true rfl) (fun ρ _ hρ => ?_)
  subst hρ
  refine z_ifb_ne (tgt := 14) ok dX7_arrivedBy_8 (by decide) (fun c8 => ?_) (fun c8 => ?_)
  · -- t
    refine z_aload_n ok dX7_arrivedBy_14 rfl ?_
    refine z_callVv0 ok (fun l => c_X7_keep  ) zm_X7_keep zv_X7_keep qm_RX7_158 dX7_arrivedBy_15 (by decide) (by decide) rfl rfl (Nat.le_of_ble_eq_true rfl) (q0 := 0) rfl rfl rfl (fun _ hp15 => ?_)
    refine z_eq (ws' := mW Z q now (zcp kept now 0 560) hist und sav isv pad sg it far many laid sides stuck ord rd pl wr) rfl ?_
    refine z_iconst ok dX7_arrivedBy_18 ?_
    refine z_istore_n (lv' := [(2, .int (iI 0)), (0, .ref (q 0)), (1, .int (iI n))]) ok dX7_arrivedBy_19 (by decide) rfl ?_
    have L20 : ∀ (fuel : Nat) (k : Int) (N sd f m ld : Int → Int), (0 ≤ k) → (k ≤ n) → (N = tkN now k.toNat) → (cacheOK N ld f m) → (n - k).toNat < fuel → zV X 0 0 (mW Z q N (zcp kept now 0 560) hist und sav isv pad sg it f m ld sd stuck ord rd pl wr) 20 [(0, .ref (q 0)), (1, .int (iI n)), (2, .int (iI k))] [] := by
      intro fuel
      induction fuel with
      | zero => intro k N sd f m ld h20_0 h20_1 h20_2 h20_3 hf; exact absurd hf (Nat.not_lt_zero _)
      | succ fuel ih20 =>
        intro k N sd f m ld h20_0 h20_1 h20_2 h20_3 hf
        have hwf := wf_tks hw k.toNat
        rw [← h20_2] at hwf
        obtain ⟨hwN, hloN, htkN⟩ := hwf
        have h6N := hloN 6 (by omega) (by omega)
        refine z_iload_n ok dX7_arrivedBy_20 rfl ?_
        refine z_iload_n ok dX7_arrivedBy_21 rfl ?_
        refine z_icmp_ge (tgt := 35) ok dX7_arrivedBy_22 (by decide) (by omega) (by omega) (fun c22 => ?_) (fun c22 => ?_)
        · -- t
          refine z_aload_n ok dX7_arrivedBy_35 rfl ?_
          refine z_bipush ok dX7_arrivedBy_36 (by decide) ?_
          refine z_iconst ok dX7_arrivedBy_38 ?_
          refine z_callVi0 ok (fun l => c_X7_packetsOf  (hwN) (by omega) (by omega)) zm_X7_packetsOf zv_X7_packetsOf qm_RX7_143 dX7_arrivedBy_39 (by decide) (by decide) rfl rfl (Nat.le_of_ble_eq_true rfl) (q0 := 0) rfl rfl rfl (fun ρ _ hρ => ?_)
          subst hρ
          refine z_eq (ws' := mW Z q N (zcp kept now 0 560) hist und sav isv pad sg it f m ld sd stuck ord rd pl wr) rfl ?_
          refine z_istore_n (lv' := [(2, .int (iI (cnt N (-6) 2))), (0, .ref (q 0)), (1, .int (iI n))]) ok dX7_arrivedBy_42 (by decide) rfl ?_
          have hcb := cache_same (N' := now) hwN (fun k h0 h1 h2 h3 h6 => (hloN k h1 h3).symm) h20_3
          refine z_aload_n ok dX7_arrivedBy_43 rfl ?_
          refine z_callVv0 ok (fun l => c_X7_comeBack  ) zm_X7_comeBack zv_X7_comeBack qm_RX7_161 dX7_arrivedBy_44 (by decide) (by decide) rfl rfl (Nat.le_of_ble_eq_true rfl) (q0 := 0) rfl rfl rfl (fun _ hp44 => ?_)
          refine z_eq (ws' := mW Z q (zcp N (zcp kept now 0 560) 0 560) (zcp kept now 0 560) hist und sav isv pad sg it f m ld sd stuck ord rd pl wr) rfl ?_
          refine z_ext (f := zcp N (zcp kept now 0 560) 0 560) (g := now) (ws' := mW Z q now (zcp kept now 0 560) hist und sav isv pad sg it f m ld sd stuck ord rd pl wr) ok 1 rfl (fun j h0 h1 => cpy_back h0 h1) rfl ?_
          refine z_iload_n ok dX7_arrivedBy_47 rfl ?_
          exact fin (cnt N (-6) 2) (zcp kept now 0 560, sd, f, m, ld) 48 _ _ _ dX7_arrivedBy_48 (trivial) (⟨by rw [zif_t c8, ← show k = n by omega, ← h20_2], hcb⟩) (by decide) (by decide)
        · -- f
          refine z_aload_n ok dX7_arrivedBy_25 rfl ?_
          refine z_callVv0 ok (fun l => c_X7_pass  (hwN) (h20_3)) zm_X7_pass zv_X7_pass qm_RX7_128 dX7_arrivedBy_26 (by decide) (by decide) rfl rfl (Nat.le_of_ble_eq_true rfl) (q0 := 0) rfl rfl rfl (fun u26 hp26 => ?_)
          obtain ⟨sides_26, far_26, many_26, laid_26⟩ := u26
          try dsimp only at hp26
          have hc26 := hp26
          refine z_eq (ws' := mW Z q (pasN N) (zcp kept now 0 560) hist und sav isv pad sg it far_26 many_26 laid_26 sides_26 stuck ord rd pl wr) rfl ?_
          refine z_iinc (lv' := [(2, .int (iI (k + 1))), (0, .ref (q 0)), (1, .int (iI n))]) ok dX7_arrivedBy_29 2 rfl (by decide) rfl ?_
          refine z_goto (tgt := 20) ok dX7_arrivedBy_32 (by decide) ?_
          refine z_lsub ok (lv' := [(0, .ref (q 0)), (1, .int (iI n)), (2, .int (iI (k + 1)))]) [1, 2, 0] rfl ?_
          exact ih20 _ _ _ _ _ _ (by omega) (by omega) (by rw [tkN_s (by omega) h20_2]) (hc26) (by omega)
    refine z_lsub ok (lv' := [(0, .ref (q 0)), (1, .int (iI n)), (2, .int (iI 0))]) [1, 2, 0] rfl ?_
    exact L20 _ _ _ _ _ _ _ (by omega) (by omega) (rfl) (hca) (Nat.lt_succ_self _)
  · -- f
    refine z_bipush ok dX7_arrivedBy_11 (by decide) ?_
    exact fin (-2) (kept, sides, far, many, laid) 13 _ _ _ dX7_arrivedBy_13 (trivial) (⟨(zif_f (fun z => c8 z)).symm, hca⟩) (by decide) (by decide)
set_option maxRecDepth 20000 in
theorem c_X7_set {l : Launch} {Z : zZ} {q : Nat → Nat} {now kept hist : Int → Int} {und : Int} {sav isv pad : Int → Int} {sg it : Int} {far many laid sides stuck ord : Int → Int} {rd pl wr : Int} {a b : Int} (hw : wf now) (hu : 0 ≤ und ∧ und ≤ 6) (hit : 0 ≤ it ∧ it ≤ 1) (ha : -2147483648 ≤ a ∧ a < 2147483648) (hb : -2147483648 ≤ b ∧ b < 2147483648) : zI (T := (Int → Int) × (Int → Int) × Int × (Int → Int)) l yX7_set (Cond.code yX7_set cX7_set 6 (some .int) :: wsL_law) ({ frames := 1, cells := 0, slots := 0, locals := 22 } : Room) Z [.ref (q 0), .int (iI a), .int (iI b)] (mW Z q now kept hist und sav isv pad sg it far many laid sides stuck ord rd pl wr) (fun u => mW Z q u.1 kept u.2.1 u.2.2.1 sav isv pad sg it far many u.2.2.2 sides stuck ord rd pl wr) (fun ρ u => (¬ okS a b ∧ ρ = -2 ∧ u = (now, hist, und, laid)) ∨ (okS a b ∧ ρ = now a ∧ u = (zu now a b, recH it und hist now, recU it und, zcp laid (fun _ => 0) 0 25))) := by
  refine zI_of (C := RX7) (by decide +kernel) rfl (Nat.le_of_ble_eq_true rfl) (fun _ => True) znI (fun X ok fin => ?_)
  obtain ⟨w0, w1, w2, hc, hr, w6, wl, wp⟩ := id hw
  have hcr := cr_rng hc hr
  refine z_lsub ok (lv' := [(0, .ref (q 0)), (1, .int (iI a)), (2, .int (iI b))]) [0, 1, 2] rfl ?_
  refine z_iload_n ok dX7_set_0 rfl ?_
  refine z_iconst ok dX7_set_1 ?_
  refine z_icmp_ne (tgt := 9) ok dX7_set_2 (by decide) (by omega) (by omega) (fun c2 => ?_) (fun c2 => ?_)
  · -- t
    refine z_iconst ok dX7_set_9 ?_
    refine z_istore_n (lv' := [(3, .int (iI 0)), (0, .ref (q 0)), (1, .int (iI a)), (2, .int (iI b))]) ok dX7_set_10 (by decide) rfl ?_
    refine z_iload_n ok dX7_set_11 rfl ?_
    refine z_if_ne (tgt := 19) ok dX7_set_12 (by decide) (by omega) (fun c12 => ?_) (fun c12 => ?_)
    · -- t
      refine z_iconst ok dX7_set_19 ?_
      refine z_istore (lv' := [(4, .int (iI 4)), (3, .int (iI 0)), (0, .ref (q 0)), (1, .int (iI a)), (2, .int (iI b))]) ok dX7_set_20 (by decide) rfl ?_
      refine z_iload_n ok dX7_set_22 rfl ?_
      refine z_iconst ok dX7_set_23 ?_
      refine z_iconst ok dX7_set_24 ?_
      refine z_callSie ok (fun l => c_X7_in  (by omega) (by omega) (by omega)) zm_X7_in qt_X7_in qm_RX7_59 dX7_set_25 (by decide) (by decide) rfl rfl (Nat.le_of_ble_eq_true rfl) (fun ρ _ hρ => ?_)
      subst hρ
      refine z_ifb_eq (tgt := 41) ok dX7_set_28 (by decide) (fun c28 => ?_) (fun c28 => ?_)
      · -- t
        refine z_bipush ok dX7_set_41 (by decide) ?_
        exact fin (-2) (now, hist, und, laid) 43 _ _ _ dX7_set_43 (trivial) (Or.inl ⟨by unfold okS; omega, rfl, rfl⟩) (by decide) (by decide)
      · -- f
        refine z_iload_n ok dX7_set_31 rfl ?_
        refine z_iload_n ok dX7_set_32 rfl ?_
        refine z_iload ok dX7_set_33 rfl ?_
        refine z_callSie ok (fun l => c_X7_in  (by omega) (by omega) (by omega)) zm_X7_in qt_X7_in qm_RX7_59 dX7_set_35 (by decide) (by decide) rfl rfl (Nat.le_of_ble_eq_true rfl) (fun ρ _ hρ => ?_)
        subst hρ
        refine z_ifb_ne (tgt := 44) ok dX7_set_38 (by decide) (fun c38 => ?_) (fun c38 => ?_)
        · -- t
          refine z_aload_n ok dX7_set_44 rfl ?_
          refine z_callVv0 ok (fun l => c_X7_record  (by omega) (by omega)) zm_X7_record zv_X7_record qm_RX7_70 dX7_set_45 (by decide) (by decide) rfl rfl (Nat.le_of_ble_eq_true rfl) (q0 := 0) rfl rfl rfl (fun _ hp45 => ?_)
          refine z_eq (ws' := mW Z q now kept (recH it und hist now) (recU it und) sav isv pad sg it far many laid sides stuck ord rd pl wr) rfl ?_
          refine z_aload_n ok dX7_set_48 rfl ?_
          refine z_get (v := .ref (q 1)) ok zc7 0 rfl 0 (by decide) qf_RX7_7 rfl rfl dX7_set_49 ?_
          refine z_iload_n ok dX7_set_52 rfl ?_
          refine z_iald (f := now) ok 1 rfl dX7_set_53 (by omega) (by decide) ?_
          refine z_istore (lv' := [(5, .int (iI (now a))), (4, .int (iI 4)), (3, .int (iI 0)), (0, .ref (q 0)), (1, .int (iI a)), (2, .int (iI b))]) ok dX7_set_54 (by decide) rfl ?_
          refine z_aload_n ok dX7_set_56 rfl ?_
          refine z_get (v := .ref (q 1)) ok zc7 0 rfl 0 (by decide) qf_RX7_7 rfl rfl dX7_set_57 ?_
          refine z_iload_n ok dX7_set_60 rfl ?_
          refine z_iload_n ok dX7_set_61 rfl ?_
          refine z_iast (f := now) (v := b) (ws' := mW Z q (zu now a b) kept (recH it und hist now) (recU it und) sav isv pad sg it far many laid sides stuck ord rd pl wr) ok 1 rfl dX7_set_62 (by omega) (by decide) rfl ?_
          refine z_aload_n ok dX7_set_63 rfl ?_
          refine z_callVv0 ok (fun l => c_X7_forget  ) zm_X7_forget zv_X7_forget qm_RX7_73 dX7_set_64 (by decide) (by decide) rfl rfl (Nat.le_of_ble_eq_true rfl) (q0 := 0) rfl rfl rfl (fun _ hp64 => ?_)
          refine z_eq (ws' := mW Z q (zu now a b) kept (recH it und hist now) (recU it und) sav isv pad sg it far many (zcp laid (fun _ => 0) 0 25) sides stuck ord rd pl wr) rfl ?_
          refine z_iload ok dX7_set_67 rfl ?_
          exact fin (now a) (zu now a b, recH it und hist now, recU it und, zcp laid (fun _ => 0) 0 25) 69 _ _ _ dX7_set_69 (trivial) (Or.inr ⟨by unfold okS; omega, rfl, rfl⟩) (by decide) (by decide)
        · -- f
          refine z_bipush ok dX7_set_41 (by decide) ?_
          exact fin (-2) (now, hist, und, laid) 43 _ _ _ dX7_set_43 (trivial) (Or.inl ⟨by unfold okS; omega, rfl, rfl⟩) (by decide) (by decide)
    · -- f
      refine z_iconst ok dX7_set_15 ?_
      refine z_goto (tgt := 20) ok dX7_set_16 (by decide) ?_
      refine z_istore (lv' := [(4, .int (iI 1)), (3, .int (iI 0)), (0, .ref (q 0)), (1, .int (iI a)), (2, .int (iI b))]) ok dX7_set_20 (by decide) rfl ?_
      refine z_iload_n ok dX7_set_22 rfl ?_
      refine z_iconst ok dX7_set_23 ?_
      refine z_iconst ok dX7_set_24 ?_
      refine z_callSie ok (fun l => c_X7_in  (by omega) (by omega) (by omega)) zm_X7_in qt_X7_in qm_RX7_59 dX7_set_25 (by decide) (by decide) rfl rfl (Nat.le_of_ble_eq_true rfl) (fun ρ _ hρ => ?_)
      subst hρ
      refine z_ifb_eq (tgt := 41) ok dX7_set_28 (by decide) (fun c28 => ?_) (fun c28 => ?_)
      · -- t
        refine z_bipush ok dX7_set_41 (by decide) ?_
        exact fin (-2) (now, hist, und, laid) 43 _ _ _ dX7_set_43 (trivial) (Or.inl ⟨by unfold okS; omega, rfl, rfl⟩) (by decide) (by decide)
      · -- f
        refine z_iload_n ok dX7_set_31 rfl ?_
        refine z_iload_n ok dX7_set_32 rfl ?_
        refine z_iload ok dX7_set_33 rfl ?_
        refine z_callSie ok (fun l => c_X7_in  (by omega) (by omega) (by omega)) zm_X7_in qt_X7_in qm_RX7_59 dX7_set_35 (by decide) (by decide) rfl rfl (Nat.le_of_ble_eq_true rfl) (fun ρ _ hρ => ?_)
        subst hρ
        refine z_ifb_ne (tgt := 44) ok dX7_set_38 (by decide) (fun c38 => ?_) (fun c38 => ?_)
        · -- t
          refine z_aload_n ok dX7_set_44 rfl ?_
          refine z_callVv0 ok (fun l => c_X7_record  (by omega) (by omega)) zm_X7_record zv_X7_record qm_RX7_70 dX7_set_45 (by decide) (by decide) rfl rfl (Nat.le_of_ble_eq_true rfl) (q0 := 0) rfl rfl rfl (fun _ hp45 => ?_)
          refine z_eq (ws' := mW Z q now kept (recH it und hist now) (recU it und) sav isv pad sg it far many laid sides stuck ord rd pl wr) rfl ?_
          refine z_aload_n ok dX7_set_48 rfl ?_
          refine z_get (v := .ref (q 1)) ok zc7 0 rfl 0 (by decide) qf_RX7_7 rfl rfl dX7_set_49 ?_
          refine z_iload_n ok dX7_set_52 rfl ?_
          refine z_iald (f := now) ok 1 rfl dX7_set_53 (by omega) (by decide) ?_
          refine z_istore (lv' := [(5, .int (iI (now a))), (4, .int (iI 1)), (3, .int (iI 0)), (0, .ref (q 0)), (1, .int (iI a)), (2, .int (iI b))]) ok dX7_set_54 (by decide) rfl ?_
          refine z_aload_n ok dX7_set_56 rfl ?_
          refine z_get (v := .ref (q 1)) ok zc7 0 rfl 0 (by decide) qf_RX7_7 rfl rfl dX7_set_57 ?_
          refine z_iload_n ok dX7_set_60 rfl ?_
          refine z_iload_n ok dX7_set_61 rfl ?_
          refine z_iast (f := now) (v := b) (ws' := mW Z q (zu now a b) kept (recH it und hist now) (recU it und) sav isv pad sg it far many laid sides stuck ord rd pl wr) ok 1 rfl dX7_set_62 (by omega) (by decide) rfl ?_
          refine z_aload_n ok dX7_set_63 rfl ?_
          refine z_callVv0 ok (fun l => c_X7_forget  ) zm_X7_forget zv_X7_forget qm_RX7_73 dX7_set_64 (by decide) (by decide) rfl rfl (Nat.le_of_ble_eq_true rfl) (q0 := 0) rfl rfl rfl (fun _ hp64 => ?_)
          refine z_eq (ws' := mW Z q (zu now a b) kept (recH it und hist now) (recU it und) sav isv pad sg it far many (zcp laid (fun _ => 0) 0 25) sides stuck ord rd pl wr) rfl ?_
          refine z_iload ok dX7_set_67 rfl ?_
          exact fin (now a) (zu now a b, recH it und hist now, recU it und, zcp laid (fun _ => 0) 0 25) 69 _ _ _ dX7_set_69 (trivial) (Or.inr ⟨by unfold okS; omega, rfl, rfl⟩) (by decide) (by decide)
        · -- f
          refine z_bipush ok dX7_set_41 (by decide) ?_
          exact fin (-2) (now, hist, und, laid) 43 _ _ _ dX7_set_43 (trivial) (Or.inl ⟨by unfold okS; omega, rfl, rfl⟩) (by decide) (by decide)
  · -- f
    refine z_iconst ok dX7_set_5 ?_
    refine z_goto (tgt := 10) ok dX7_set_6 (by decide) ?_
    refine z_istore_n (lv' := [(3, .int (iI 1)), (0, .ref (q 0)), (1, .int (iI a)), (2, .int (iI b))]) ok dX7_set_10 (by decide) rfl ?_
    refine z_iload_n ok dX7_set_11 rfl ?_
    refine z_if_ne (tgt := 19) ok dX7_set_12 (by decide) (by omega) (fun c12 => ?_) (fun c12 => ?_)
    · -- t
      refine z_iconst ok dX7_set_19 ?_
      refine z_istore (lv' := [(4, .int (iI 4)), (3, .int (iI 1)), (0, .ref (q 0)), (1, .int (iI a)), (2, .int (iI b))]) ok dX7_set_20 (by decide) rfl ?_
      refine z_iload_n ok dX7_set_22 rfl ?_
      refine z_iconst ok dX7_set_23 ?_
      refine z_iconst ok dX7_set_24 ?_
      refine z_callSie ok (fun l => c_X7_in  (by omega) (by omega) (by omega)) zm_X7_in qt_X7_in qm_RX7_59 dX7_set_25 (by decide) (by decide) rfl rfl (Nat.le_of_ble_eq_true rfl) (fun ρ _ hρ => ?_)
      subst hρ
      refine z_ifb_eq (tgt := 41) ok dX7_set_28 (by decide) (fun c28 => ?_) (fun c28 => ?_)
      · -- t
        refine z_bipush ok dX7_set_41 (by decide) ?_
        exact fin (-2) (now, hist, und, laid) 43 _ _ _ dX7_set_43 (trivial) (Or.inl ⟨by unfold okS; omega, rfl, rfl⟩) (by decide) (by decide)
      · -- f
        refine z_iload_n ok dX7_set_31 rfl ?_
        refine z_iload_n ok dX7_set_32 rfl ?_
        refine z_iload ok dX7_set_33 rfl ?_
        refine z_callSie ok (fun l => c_X7_in  (by omega) (by omega) (by omega)) zm_X7_in qt_X7_in qm_RX7_59 dX7_set_35 (by decide) (by decide) rfl rfl (Nat.le_of_ble_eq_true rfl) (fun ρ _ hρ => ?_)
        subst hρ
        refine z_ifb_ne (tgt := 44) ok dX7_set_38 (by decide) (fun c38 => ?_) (fun c38 => ?_)
        · -- t
          refine z_aload_n ok dX7_set_44 rfl ?_
          refine z_callVv0 ok (fun l => c_X7_record  (by omega) (by omega)) zm_X7_record zv_X7_record qm_RX7_70 dX7_set_45 (by decide) (by decide) rfl rfl (Nat.le_of_ble_eq_true rfl) (q0 := 0) rfl rfl rfl (fun _ hp45 => ?_)
          refine z_eq (ws' := mW Z q now kept (recH it und hist now) (recU it und) sav isv pad sg it far many laid sides stuck ord rd pl wr) rfl ?_
          refine z_aload_n ok dX7_set_48 rfl ?_
          refine z_get (v := .ref (q 1)) ok zc7 0 rfl 0 (by decide) qf_RX7_7 rfl rfl dX7_set_49 ?_
          refine z_iload_n ok dX7_set_52 rfl ?_
          refine z_iald (f := now) ok 1 rfl dX7_set_53 (by omega) (by decide) ?_
          refine z_istore (lv' := [(5, .int (iI (now a))), (4, .int (iI 4)), (3, .int (iI 1)), (0, .ref (q 0)), (1, .int (iI a)), (2, .int (iI b))]) ok dX7_set_54 (by decide) rfl ?_
          refine z_aload_n ok dX7_set_56 rfl ?_
          refine z_get (v := .ref (q 1)) ok zc7 0 rfl 0 (by decide) qf_RX7_7 rfl rfl dX7_set_57 ?_
          refine z_iload_n ok dX7_set_60 rfl ?_
          refine z_iload_n ok dX7_set_61 rfl ?_
          refine z_iast (f := now) (v := b) (ws' := mW Z q (zu now a b) kept (recH it und hist now) (recU it und) sav isv pad sg it far many laid sides stuck ord rd pl wr) ok 1 rfl dX7_set_62 (by omega) (by decide) rfl ?_
          refine z_aload_n ok dX7_set_63 rfl ?_
          refine z_callVv0 ok (fun l => c_X7_forget  ) zm_X7_forget zv_X7_forget qm_RX7_73 dX7_set_64 (by decide) (by decide) rfl rfl (Nat.le_of_ble_eq_true rfl) (q0 := 0) rfl rfl rfl (fun _ hp64 => ?_)
          refine z_eq (ws' := mW Z q (zu now a b) kept (recH it und hist now) (recU it und) sav isv pad sg it far many (zcp laid (fun _ => 0) 0 25) sides stuck ord rd pl wr) rfl ?_
          refine z_iload ok dX7_set_67 rfl ?_
          exact fin (now a) (zu now a b, recH it und hist now, recU it und, zcp laid (fun _ => 0) 0 25) 69 _ _ _ dX7_set_69 (trivial) (Or.inr ⟨by unfold okS; omega, rfl, rfl⟩) (by decide) (by decide)
        · -- f
          refine z_bipush ok dX7_set_41 (by decide) ?_
          exact fin (-2) (now, hist, und, laid) 43 _ _ _ dX7_set_43 (trivial) (Or.inl ⟨by unfold okS; omega, rfl, rfl⟩) (by decide) (by decide)
    · -- f
      refine z_iconst ok dX7_set_15 ?_
      refine z_goto (tgt := 20) ok dX7_set_16 (by decide) ?_
      refine z_istore (lv' := [(4, .int (iI 1)), (3, .int (iI 1)), (0, .ref (q 0)), (1, .int (iI a)), (2, .int (iI b))]) ok dX7_set_20 (by decide) rfl ?_
      refine z_iload_n ok dX7_set_22 rfl ?_
      refine z_iconst ok dX7_set_23 ?_
      refine z_iconst ok dX7_set_24 ?_
      refine z_callSie ok (fun l => c_X7_in  (by omega) (by omega) (by omega)) zm_X7_in qt_X7_in qm_RX7_59 dX7_set_25 (by decide) (by decide) rfl rfl (Nat.le_of_ble_eq_true rfl) (fun ρ _ hρ => ?_)
      subst hρ
      refine z_ifb_eq (tgt := 41) ok dX7_set_28 (by decide) (fun c28 => ?_) (fun c28 => ?_)
      · -- t
        refine z_bipush ok dX7_set_41 (by decide) ?_
        exact fin (-2) (now, hist, und, laid) 43 _ _ _ dX7_set_43 (trivial) (Or.inl ⟨by unfold okS; omega, rfl, rfl⟩) (by decide) (by decide)
      · -- f
        refine z_iload_n ok dX7_set_31 rfl ?_
        refine z_iload_n ok dX7_set_32 rfl ?_
        refine z_iload ok dX7_set_33 rfl ?_
        refine z_callSie ok (fun l => c_X7_in  (by omega) (by omega) (by omega)) zm_X7_in qt_X7_in qm_RX7_59 dX7_set_35 (by decide) (by decide) rfl rfl (Nat.le_of_ble_eq_true rfl) (fun ρ _ hρ => ?_)
        subst hρ
        refine z_ifb_ne (tgt := 44) ok dX7_set_38 (by decide) (fun c38 => ?_) (fun c38 => ?_)
        · -- t
          refine z_aload_n ok dX7_set_44 rfl ?_
          refine z_callVv0 ok (fun l => c_X7_record  (by omega) (by omega)) zm_X7_record zv_X7_record qm_RX7_70 dX7_set_45 (by decide) (by decide) rfl rfl (Nat.le_of_ble_eq_true rfl) (q0 := 0) rfl rfl rfl (fun _ hp45 => ?_)
          refine z_eq (ws' := mW Z q now kept (recH it und hist now) (recU it und) sav isv pad sg it far many laid sides stuck ord rd pl wr) rfl ?_
          refine z_aload_n ok dX7_set_48 rfl ?_
          refine z_get (v := .ref (q 1)) ok zc7 0 rfl 0 (by decide) qf_RX7_7 rfl rfl dX7_set_49 ?_
          refine z_iload_n ok dX7_set_52 rfl ?_
          refine z_iald (f := now) ok 1 rfl dX7_set_53 (by omega) (by decide) ?_
          refine z_istore (lv' := [(5, .int (iI (now a))), (4, .int (iI 1)), (3, .int (iI 1)), (0, .ref (q 0)), (1, .int (iI a)), (2, .int (iI b))]) ok dX7_set_54 (by decide) rfl ?_
          refine z_aload_n ok dX7_set_56 rfl ?_
          refine z_get (v := .ref (q 1)) ok zc7 0 rfl 0 (by decide) qf_RX7_7 rfl rfl dX7_set_57 ?_
          refine z_iload_n ok dX7_set_60 rfl ?_
          refine z_iload_n ok dX7_set_61 rfl ?_
          refine z_iast (f := now) (v := b) (ws' := mW Z q (zu now a b) kept (recH it und hist now) (recU it und) sav isv pad sg it far many laid sides stuck ord rd pl wr) ok 1 rfl dX7_set_62 (by omega) (by decide) rfl ?_
          refine z_aload_n ok dX7_set_63 rfl ?_
          refine z_callVv0 ok (fun l => c_X7_forget  ) zm_X7_forget zv_X7_forget qm_RX7_73 dX7_set_64 (by decide) (by decide) rfl rfl (Nat.le_of_ble_eq_true rfl) (q0 := 0) rfl rfl rfl (fun _ hp64 => ?_)
          refine z_eq (ws' := mW Z q (zu now a b) kept (recH it und hist now) (recU it und) sav isv pad sg it far many (zcp laid (fun _ => 0) 0 25) sides stuck ord rd pl wr) rfl ?_
          refine z_iload ok dX7_set_67 rfl ?_
          exact fin (now a) (zu now a b, recH it und hist now, recU it und, zcp laid (fun _ => 0) 0 25) 69 _ _ _ dX7_set_69 (trivial) (Or.inr ⟨by unfold okS; omega, rfl, rfl⟩) (by decide) (by decide)
        · -- f
          refine z_bipush ok dX7_set_41 (by decide) ?_
          exact fin (-2) (now, hist, und, laid) 43 _ _ _ dX7_set_43 (trivial) (Or.inl ⟨by unfold okS; omega, rfl, rfl⟩) (by decide) (by decide)
set_option maxRecDepth 20000 in
theorem c_X7_mesh {l : Launch} {Z : zZ} {q : Nat → Nat} {now kept hist : Int → Int} {und : Int} {sav isv pad : Int → Int} {sg it : Int} {far many laid sides stuck ord : Int → Int} {rd pl wr : Int} {a b : Int} (hw : wf now) (hu : 0 ≤ und ∧ und ≤ 6) (hit : 0 ≤ it ∧ it ≤ 1) (ha : -2147483648 ≤ a ∧ a < 2147483648) (hb : -2147483648 ≤ b ∧ b < 2147483648) : zI (T := (Int → Int) × (Int → Int) × Int × (Int → Int)) l yX7_mesh (Cond.code yX7_mesh cX7_mesh 4 (some .int) :: wsL_law) ({ frames := 1, cells := 0, slots := 0, locals := 22 } : Room) Z [.ref (q 0), .int (iI a), .int (iI b)] (mW Z q now kept hist und sav isv pad sg it far many laid sides stuck ord rd pl wr) (fun u => mW Z q u.1 kept u.2.1 u.2.2.1 sav isv pad sg it far many u.2.2.2 sides stuck ord rd pl wr) (fun ρ u => (¬ okL a b ∧ ρ = -2 ∧ u = (now, hist, und, laid)) ∨ (okL a b ∧ 0 < now 6 ∧ ρ = -5 ∧ u = (now, hist, und, laid)) ∨ (okL a b ∧ now 6 ≤ 0 ∧ ρ = a * b ∧ u = (mshN now a b, recH it und hist now, recU it und, zcp laid (fun _ => 0) 0 25))) := by
  refine zI_of (C := RX7) (by decide +kernel) rfl (Nat.le_of_ble_eq_true rfl) (fun _ => True) znI (fun X ok fin => ?_)
  obtain ⟨w0, w1, w2, hc, hr, w6, wl, wp⟩ := id hw
  have hcr := cr_rng hc hr
  refine z_lsub ok (lv' := [(0, .ref (q 0)), (1, .int (iI a)), (2, .int (iI b))]) [0, 1, 2] rfl ?_
  refine z_iload_n ok dX7_mesh_0 rfl ?_
  refine z_iconst ok dX7_mesh_1 ?_
  refine z_iconst ok dX7_mesh_2 ?_
  refine z_callSie ok (fun l => c_X7_in  (by omega) (by omega) (by omega)) zm_X7_in qt_X7_in qm_RX7_59 dX7_mesh_3 (by decide) (by decide) rfl rfl (Nat.le_of_ble_eq_true rfl) (fun ρ _ hρ => ?_)
  subst hρ
  refine z_ifb_eq (tgt := 18) ok dX7_mesh_6 (by decide) (fun c6 => ?_) (fun c6 => ?_)
  · -- t
    refine z_bipush ok dX7_mesh_18 (by decide) ?_
    exact fin (-2) (now, hist, und, laid) 20 _ _ _ dX7_mesh_20 (trivial) (Or.inl ⟨by unfold okL; omega, rfl, rfl⟩) (by decide) (by decide)
  · -- f
    refine z_iload_n ok dX7_mesh_9 rfl ?_
    refine z_iconst ok dX7_mesh_10 ?_
    refine z_iconst ok dX7_mesh_11 ?_
    refine z_callSie ok (fun l => c_X7_in  (by omega) (by omega) (by omega)) zm_X7_in qt_X7_in qm_RX7_59 dX7_mesh_12 (by decide) (by decide) rfl rfl (Nat.le_of_ble_eq_true rfl) (fun ρ _ hρ => ?_)
    subst hρ
    refine z_ifb_ne (tgt := 21) ok dX7_mesh_15 (by decide) (fun c15 => ?_) (fun c15 => ?_)
    · -- t
      refine z_aload_n ok dX7_mesh_21 rfl ?_
      refine z_get (v := .ref (q 1)) ok zc7 0 rfl 0 (by decide) qf_RX7_7 rfl rfl dX7_mesh_22 ?_
      refine z_bipush ok dX7_mesh_25 (by decide) ?_
      refine z_iald (f := now) ok 1 rfl dX7_mesh_27 (by omega) (by decide) ?_
      refine z_if_le (tgt := 34) ok dX7_mesh_28 (by decide) (by omega) (fun c28 => ?_) (fun c28 => ?_)
      · -- t
        refine z_aload_n ok dX7_mesh_34 rfl ?_
        refine z_callVv0 ok (fun l => c_X7_record  (by omega) (by omega)) zm_X7_record zv_X7_record qm_RX7_70 dX7_mesh_35 (by decide) (by decide) rfl rfl (Nat.le_of_ble_eq_true rfl) (q0 := 0) rfl rfl rfl (fun _ hp35 => ?_)
        refine z_eq (ws' := mW Z q now kept (recH it und hist now) (recU it und) sav isv pad sg it far many laid sides stuck ord rd pl wr) rfl ?_
        refine z_aload_n ok dX7_mesh_38 rfl ?_
        refine z_get (v := .ref (q 1)) ok zc7 0 rfl 0 (by decide) qf_RX7_7 rfl rfl dX7_mesh_39 ?_
        refine z_iconst ok dX7_mesh_42 ?_
        refine z_iload_n ok dX7_mesh_43 rfl ?_
        refine z_iast (f := now) (v := a) (ws' := mW Z q (zu now 4 a) kept (recH it und hist now) (recU it und) sav isv pad sg it far many laid sides stuck ord rd pl wr) ok 1 rfl dX7_mesh_44 (by omega) (by decide) rfl ?_
        refine z_aload_n ok dX7_mesh_45 rfl ?_
        refine z_get (v := .ref (q 1)) ok zc7 0 rfl 0 (by decide) qf_RX7_7 rfl rfl dX7_mesh_46 ?_
        refine z_iconst ok dX7_mesh_49 ?_
        refine z_iload_n ok dX7_mesh_50 rfl ?_
        refine z_iast (f := zu now 4 a) (v := b) (ws' := mW Z q (zu (zu now 4 a) 5 b) kept (recH it und hist now) (recU it und) sav isv pad sg it far many laid sides stuck ord rd pl wr) ok 1 rfl dX7_mesh_51 (by omega) (by decide) rfl ?_
        refine z_bipush ok dX7_mesh_52 (by decide) ?_
        refine z_istore_n (lv' := [(3, .int (iI 10)), (0, .ref (q 0)), (1, .int (iI a)), (2, .int (iI b))]) ok dX7_mesh_54 (by decide) rfl ?_
        have L55 : ∀ (fuel : Nat) (k : Int) (N : Int → Int), (0 ≤ k) → (k ≤ 50) → (N = zcp (zu (zu now 4 a) 5 b) (fun _ => 0) 10 k) → (50 - k).toNat < fuel → zV X 0 0 (mW Z q N kept (recH it und hist now) (recU it und) sav isv pad sg it far many laid sides stuck ord rd pl wr) 55 [(0, .ref (q 0)), (1, .int (iI a)), (2, .int (iI b)), (3, .int (iI (10 + k)))] [] := by
          intro fuel
          induction fuel with
          | zero => intro k N h55_0 h55_1 h55_2 hf; exact absurd hf (Nat.not_lt_zero _)
          | succ fuel ih55 =>
            intro k N h55_0 h55_1 h55_2 hf
            refine z_iload_n ok dX7_mesh_55 rfl ?_
            refine z_bipush ok dX7_mesh_56 (by decide) ?_
            refine z_icmp_ge (tgt := 74) ok dX7_mesh_58 (by decide) (by omega) (by omega) (fun c58 => ?_) (fun c58 => ?_)
            · -- t
              have hk : k = 50 := by omega
              have hN4 : N 4 = a := by rw [h55_2, zcp_out (by omega), zu_n (by omega), zu_s]
              have hN5 : N 5 = b := by rw [h55_2, zcp_out (by omega), zu_s]
              refine z_aload_n ok dX7_mesh_74 rfl ?_
              refine z_callVv0 ok (fun l => c_X7_forget  ) zm_X7_forget zv_X7_forget qm_RX7_73 dX7_mesh_75 (by decide) (by decide) rfl rfl (Nat.le_of_ble_eq_true rfl) (q0 := 0) rfl rfl rfl (fun _ hp75 => ?_)
              refine z_eq (ws' := mW Z q N kept (recH it und hist now) (recU it und) sav isv pad sg it far many (zcp laid (fun _ => 0) 0 25) sides stuck ord rd pl wr) rfl ?_
              refine z_aload_n ok dX7_mesh_78 rfl ?_
              refine z_callVi0 ok (fun l => c_X7_boxes  ) zm_X7_boxes zv_X7_boxes qm_RX7_55 dX7_mesh_79 (by decide) (by decide) rfl rfl (Nat.le_of_ble_eq_true rfl) (q0 := 0) rfl rfl rfl (fun ρ _ hρ => ?_)
              subst hρ
              refine z_eq (ws' := mW Z q N kept (recH it und hist now) (recU it und) sav isv pad sg it far many (zcp laid (fun _ => 0) 0 25) sides stuck ord rd pl wr) rfl ?_
              exact fin (N 4 * N 5) (N, recH it und hist now, recU it und, zcp laid (fun _ => 0) 0 25) 82 _ _ _ dX7_mesh_82 (trivial) (Or.inr (Or.inr ⟨by unfold okL; omega, by omega, by rw [hN4, hN5], by unfold mshN; rw [h55_2, hk]⟩)) (by decide) (by decide)
            · -- f
              refine z_aload_n ok dX7_mesh_61 rfl ?_
              refine z_get (v := .ref (q 1)) ok zc7 0 rfl 0 (by decide) qf_RX7_7 rfl rfl dX7_mesh_62 ?_
              refine z_iload_n ok dX7_mesh_65 rfl ?_
              refine z_iconst ok dX7_mesh_66 ?_
              refine z_iast (f := N) (v := 0) (ws' := mW Z q (zu N (10 + k) 0) kept (recH it und hist now) (recU it und) sav isv pad sg it far many laid sides stuck ord rd pl wr) ok 1 rfl dX7_mesh_67 (by omega) (by decide) rfl ?_
              refine z_iinc (lv' := [(3, .int (iI ((10 + k) + 1))), (0, .ref (q 0)), (1, .int (iI a)), (2, .int (iI b))]) ok dX7_mesh_68 3 rfl (by decide) rfl ?_
              refine z_goto (tgt := 55) ok dX7_mesh_71 (by decide) ?_
              refine z_lsub ok (lv' := [(0, .ref (q 0)), (1, .int (iI a)), (2, .int (iI b)), (3, .int (iI ((10 + k) + 1)))]) [1, 2, 3, 0] rfl ?_
              rw [show 10 + k + 1 = 10 + (k + 1) by omega]
              exact ih55 (k + 1) _ (by omega) (by omega) (by rw [h55_2]; exact zcp_s (by omega)) (by omega)
        refine z_lsub ok (lv' := [(0, .ref (q 0)), (1, .int (iI a)), (2, .int (iI b)), (3, .int (iI 10))]) [1, 2, 3, 0] rfl ?_
        exact L55 _ 0 _ (by omega) (by omega) (zcp_0.symm) (Nat.lt_succ_self _)
      · -- f
        refine z_bipush ok dX7_mesh_31 (by decide) ?_
        exact fin (-5) (now, hist, und, laid) 33 _ _ _ dX7_mesh_33 (trivial) (Or.inr (Or.inl ⟨by unfold okL; omega, by omega, rfl, rfl⟩)) (by decide) (by decide)
    · -- f
      refine z_bipush ok dX7_mesh_18 (by decide) ?_
      exact fin (-2) (now, hist, und, laid) 20 _ _ _ dX7_mesh_20 (trivial) (Or.inl ⟨by unfold okL; omega, rfl, rfl⟩) (by decide) (by decide)
set_option maxRecDepth 20000 in
theorem c_X7_link {l : Launch} {Z : zZ} {q : Nat → Nat} {now kept hist : Int → Int} {und : Int} {sav isv pad : Int → Int} {sg it : Int} {far many laid sides stuck ord : Int → Int} {rd pl wr : Int} {b d w : Int} (hw : wf now) (hu : 0 ≤ und ∧ und ≤ 6) (hit : 0 ≤ it ∧ it ≤ 1) (hb : -2147483648 ≤ b ∧ b < 2147483648) (hd : -2147483648 ≤ d ∧ d < 2147483648) (hww : -2147483648 ≤ w ∧ w < 2147483648) : zI (T := (Int → Int) × (Int → Int) × Int × (Int → Int)) l yX7_link (Cond.code yX7_link cX7_link 6 (some .int) :: wsL_law) ({ frames := 3, cells := 0, slots := 0, locals := 70 } : Room) Z [.ref (q 0), .int (iI b), .int (iI d), .int (iI w)] (mW Z q now kept hist und sav isv pad sg it far many laid sides stuck ord rd pl wr) (fun u => mW Z q u.1 kept u.2.1 u.2.2.1 sav isv pad sg it far many u.2.2.2 sides stuck ord rd pl wr) (fun ρ u => (badK now b d ∧ ρ = -1 ∧ u = (now, hist, und, laid)) ∨ (¬ badK now b d ∧ ¬ ((0 ≤ d ∧ d ≤ 3) ∧ 0 ≤ w ∧ w ≤ 1) ∧ ρ = -2 ∧ u = (now, hist, und, laid)) ∨ (¬ badK now b d ∧ ((0 ≤ d ∧ d ≤ 3) ∧ 0 ≤ w ∧ w ≤ 1) ∧ ρ = 1 - now (lkm now b d) ∧ u = (zu now (lkm now b d) (1 - w), recH it und hist now, recU it und, zcp laid (fun _ => 0) 0 25))) := by
  refine zI_of (C := RX7) (by decide +kernel) rfl (Nat.le_of_ble_eq_true rfl) (fun _ => True) znI (fun X ok fin => ?_)
  obtain ⟨w0, w1, w2, hc, hr, w6, wl, wp⟩ := id hw
  have hcr := cr_rng hc hr
  refine z_lsub ok (lv' := [(0, .ref (q 0)), (1, .int (iI b)), (2, .int (iI d)), (3, .int (iI w))]) [0, 1, 2, 3] rfl ?_
  refine z_aload_n ok dX7_link_0 rfl ?_
  refine z_iload_n ok dX7_link_1 rfl ?_
  refine z_callVi0 ok (fun l => c_X7_isBox  (by omega) (by omega) (by omega)) zm_X7_isBox zv_X7_isBox qm_RX7_76 dX7_link_2 (by decide) (by decide) rfl rfl (Nat.le_of_ble_eq_true rfl) (q0 := 0) rfl rfl rfl (fun ρ _ hρ => ?_)
  subst hρ
  refine z_eq (ws' := mW Z q now kept hist und sav isv pad sg it far many laid sides stuck ord rd pl wr) rfl ?_
  refine z_ifb_eq (tgt := 26) ok dX7_link_5 (by decide) (fun c5 => ?_) (fun c5 => ?_)
  · -- t
    refine z_iconst ok dX7_link_26 ?_
    exact fin (-1) (now, hist, und, laid) 27 _ _ _ dX7_link_27 (trivial) (Or.inl ⟨by first | exact Or.inl c5 | exact Or.inr ⟨c14.1, c14.2, by (split at hnbm) <;> omega⟩, rfl, rfl⟩) (by decide) (by decide)
  · -- f
    refine z_iload_n ok dX7_link_8 rfl ?_
    refine z_iconst ok dX7_link_9 ?_
    refine z_iconst ok dX7_link_10 ?_
    refine z_callSie ok (fun l => c_X7_in  (by omega) (by omega) (by omega)) zm_X7_in qt_X7_in qm_RX7_59 dX7_link_11 (by decide) (by decide) rfl rfl (Nat.le_of_ble_eq_true rfl) (fun ρ _ hρ => ?_)
    subst hρ
    refine z_ifb_eq (tgt := 28) ok dX7_link_14 (by decide) (fun c14 => ?_) (fun c14 => ?_)
    · -- t
      have hbad : ¬ badK now b d := fun z => z.elim (fun y => y c5) (fun y => by first | exact c14 ⟨y.1, y.2.1⟩ | (have := y.2.2; split at hnbm <;> omega))
      refine z_iload_n ok dX7_link_28 rfl ?_
      refine z_iconst ok dX7_link_29 ?_
      refine z_iconst ok dX7_link_30 ?_
      refine z_callSie ok (fun l => c_X7_in  (by omega) (by omega) (by omega)) zm_X7_in qt_X7_in qm_RX7_59 dX7_link_31 (by decide) (by decide) rfl rfl (Nat.le_of_ble_eq_true rfl) (fun ρ _ hρ => ?_)
      subst hρ
      refine z_ifb_eq (tgt := 46) ok dX7_link_34 (by decide) (fun c34 => ?_) (fun c34 => ?_)
      · -- t
        refine z_bipush ok dX7_link_46 (by decide) ?_
        exact fin (-2) (now, hist, und, laid) 48 _ _ _ dX7_link_48 (trivial) (Or.inr (Or.inl ⟨hbad, fun z => by first | exact c34 z.1 | exact c43 z.2, rfl, rfl⟩)) (by decide) (by decide)
      · -- f
        exact absurd c34 c14
    · -- f
      have hnbm : nbm now b d = if nb now b d < 0 then -6 else nb now b d := rfl
      have hnbr := nb_rng hw c5 c14
      refine z_aload_n ok dX7_link_17 rfl ?_
      refine z_iload_n ok dX7_link_18 rfl ?_
      refine z_iload_n ok dX7_link_19 rfl ?_
      refine z_callVi0 ok (fun l => c_X7_beside  (by omega) (by omega) (by omega) (by omega)) zm_X7_beside zv_X7_beside qm_RX7_63 dX7_link_20 (by decide) (by decide) rfl rfl (Nat.le_of_ble_eq_true rfl) (q0 := 0) rfl rfl rfl (fun ρ _ hρ => ?_)
      subst hρ
      refine z_eq (ws' := mW Z q now kept hist und sav isv pad sg it far many laid sides stuck ord rd pl wr) rfl ?_
      refine z_if_ge (tgt := 28) ok dX7_link_23 (by decide) (by (split at hnbm) <;> omega) (fun c23 => ?_) (fun c23 => ?_)
      · -- t
        have hbad : ¬ badK now b d := fun z => z.elim (fun y => y c5) (fun y => by first | exact c14 ⟨y.1, y.2.1⟩ | (have := y.2.2; split at hnbm <;> omega))
        refine z_iload_n ok dX7_link_28 rfl ?_
        refine z_iconst ok dX7_link_29 ?_
        refine z_iconst ok dX7_link_30 ?_
        refine z_callSie ok (fun l => c_X7_in  (by omega) (by omega) (by omega)) zm_X7_in qt_X7_in qm_RX7_59 dX7_link_31 (by decide) (by decide) rfl rfl (Nat.le_of_ble_eq_true rfl) (fun ρ _ hρ => ?_)
        subst hρ
        refine z_ifb_eq (tgt := 46) ok dX7_link_34 (by decide) (fun c34 => ?_) (fun c34 => ?_)
        · -- t
          exact absurd c14 c34
        · -- f
          refine z_iload_n ok dX7_link_37 rfl ?_
          refine z_iconst ok dX7_link_38 ?_
          refine z_iconst ok dX7_link_39 ?_
          refine z_callSie ok (fun l => c_X7_in  (by omega) (by omega) (by omega)) zm_X7_in qt_X7_in qm_RX7_59 dX7_link_40 (by decide) (by decide) rfl rfl (Nat.le_of_ble_eq_true rfl) (fun ρ _ hρ => ?_)
          subst hρ
          refine z_ifb_ne (tgt := 49) ok dX7_link_43 (by decide) (fun c43 => ?_) (fun c43 => ?_)
          · -- t
            have hnn : 0 ≤ nb now b d := by first | exact absurd c34 c14 | (split at hnbm <;> omega)
            have hlk := lkm_rng hw c5 c34 hnn
            have hbad : ¬ badK now b d := fun z => z.elim (fun y => y c5) (fun y => by have := y.2.2; omega)
            refine z_aload_n ok dX7_link_49 rfl ?_
            refine z_callVv0 ok (fun l => c_X7_record  (by omega) (by omega)) zm_X7_record zv_X7_record qm_RX7_70 dX7_link_50 (by decide) (by decide) rfl rfl (Nat.le_of_ble_eq_true rfl) (q0 := 0) rfl rfl rfl (fun _ hp50 => ?_)
            refine z_eq (ws' := mW Z q now kept (recH it und hist now) (recU it und) sav isv pad sg it far many laid sides stuck ord rd pl wr) rfl ?_
            refine z_aload_n ok dX7_link_53 rfl ?_
            refine z_iload_n ok dX7_link_54 rfl ?_
            refine z_iload_n ok dX7_link_55 rfl ?_
            refine z_callVi0 ok (fun l => c_X7_linkOf  (by omega) (by omega) (by omega) (by omega)) zm_X7_linkOf zv_X7_linkOf qm_RX7_67 dX7_link_56 (by decide) (by decide) rfl rfl (Nat.le_of_ble_eq_true rfl) (q0 := 0) rfl rfl rfl (fun ρ _ hρ => ?_)
            subst hρ
            refine z_eq (ws' := mW Z q now kept (recH it und hist now) (recU it und) sav isv pad sg it far many laid sides stuck ord rd pl wr) rfl ?_
            refine z_istore (lv' := [(4, .int (iI (lkm now b d))), (0, .ref (q 0)), (1, .int (iI b)), (2, .int (iI d)), (3, .int (iI w))]) ok dX7_link_59 (by decide) rfl ?_
            refine z_iconst ok dX7_link_61 ?_
            refine z_aload_n ok dX7_link_62 rfl ?_
            refine z_get (v := .ref (q 1)) ok zc7 0 rfl 0 (by decide) qf_RX7_7 rfl rfl dX7_link_63 ?_
            refine z_iload ok dX7_link_66 rfl ?_
            refine z_iald (f := now) ok 1 rfl dX7_link_68 (by omega) (by decide) ?_
            refine z_isub ok dX7_link_69 ?_
            refine z_istore (lv' := [(5, .int (iI (1 - (now (lkm now b d))))), (4, .int (iI (lkm now b d))), (0, .ref (q 0)), (1, .int (iI b)), (2, .int (iI d)), (3, .int (iI w))]) ok dX7_link_70 (by decide) rfl ?_
            refine z_aload_n ok dX7_link_72 rfl ?_
            refine z_get (v := .ref (q 1)) ok zc7 0 rfl 0 (by decide) qf_RX7_7 rfl rfl dX7_link_73 ?_
            refine z_iload ok dX7_link_76 rfl ?_
            refine z_iconst ok dX7_link_78 ?_
            refine z_iload_n ok dX7_link_79 rfl ?_
            refine z_isub ok dX7_link_80 ?_
            refine z_iast (f := now) (v := 1 - w) (ws' := mW Z q (zu now (lkm now b d) (1 - w)) kept (recH it und hist now) (recU it und) sav isv pad sg it far many laid sides stuck ord rd pl wr) ok 1 rfl dX7_link_81 (by omega) (by decide) rfl ?_
            refine z_aload_n ok dX7_link_82 rfl ?_
            refine z_callVv0 ok (fun l => c_X7_forget  ) zm_X7_forget zv_X7_forget qm_RX7_73 dX7_link_83 (by decide) (by decide) rfl rfl (Nat.le_of_ble_eq_true rfl) (q0 := 0) rfl rfl rfl (fun _ hp83 => ?_)
            refine z_eq (ws' := mW Z q (zu now (lkm now b d) (1 - w)) kept (recH it und hist now) (recU it und) sav isv pad sg it far many (zcp laid (fun _ => 0) 0 25) sides stuck ord rd pl wr) rfl ?_
            refine z_iload ok dX7_link_86 rfl ?_
            exact fin (1 - (now (lkm now b d))) (zu now (lkm now b d) (1 - w), recH it und hist now, recU it und, zcp laid (fun _ => 0) 0 25) 88 _ _ _ dX7_link_88 (trivial) (Or.inr (Or.inr ⟨hbad, ⟨c34, c43⟩, rfl, rfl⟩)) (by decide) (by decide)
          · -- f
            refine z_bipush ok dX7_link_46 (by decide) ?_
            exact fin (-2) (now, hist, und, laid) 48 _ _ _ dX7_link_48 (trivial) (Or.inr (Or.inl ⟨hbad, fun z => by first | exact c34 z.1 | exact c43 z.2, rfl, rfl⟩)) (by decide) (by decide)
      · -- f
        refine z_iconst ok dX7_link_26 ?_
        exact fin (-1) (now, hist, und, laid) 27 _ _ _ dX7_link_27 (trivial) (Or.inl ⟨by first | exact Or.inl c5 | exact Or.inr ⟨c14.1, c14.2, by (split at hnbm) <;> omega⟩, rfl, rfl⟩) (by decide) (by decide)
