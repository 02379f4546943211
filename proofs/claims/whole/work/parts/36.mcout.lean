set_option maxHeartbeats 4000000 in
set_option maxRecDepth 20000 in
theorem c_X7_carryOut {l : Launch} {Z : zZ} {q : Nat → Nat} {now kept hist : Int → Int} {und : Int} {sav isv pad : Int → Int} {sg it : Int} {far many laid sides stuck ord : Int → Int} {rd pl wr : Int} (hw : wf now) (hu : 0 ≤ und ∧ und ≤ 6) (hit : it = 0) (h3 : 0 ≤ now 3 ∧ now 3 ≤ 900000000) (hpd : padOK pad sg) (hca : cacheOK now laid far many) : zI (T := (Int → Int) × (Int → Int) × Int × (Int → Int) × (Int → Int) × (Int → Int) × (Int → Int) × (Int → Int) × Int × Int × Int × Int) l yX7_carryOut (Cond.code yX7_carryOut cX7_carryOut 2 (some .int) :: wsL_law) ({ frames := 12, cells := 0, slots := 0, locals := 289 } : Room) Z [.ref (q 0)] (mW Z q now kept hist und sav isv pad sg it far many laid sides stuck ord rd pl wr) (fun u => mW Z q u.1 kept u.2.1 u.2.2.1 sav isv pad u.2.2.2.2.2.2.2.2.2.2.2 0 u.2.2.2.1 u.2.2.2.2.1 u.2.2.2.2.2.1 u.2.2.2.2.2.2.1 stuck u.2.2.2.2.2.2.2.1 u.2.2.2.2.2.2.2.2.1 u.2.2.2.2.2.2.2.2.2.1 u.2.2.2.2.2.2.2.2.2.2.1) (fun ρ u => cacheOK u.1 u.2.2.2.2.2.1 u.2.2.2.1 u.2.2.2.2.1 ∧ ((¬ (flt pad sg 100 0 0).1 = -6 ∧ ρ = -3 ∧ u.1 = now ∧ u.2.1 = hist ∧ u.2.2.1 = und ∧ u.2.2.2.2.2.2.2.2.2.2.2 = sg) ∨ ((flt pad sg 100 0 0).1 = -6 ∧ ρ = crR now pad sg ∧ u.1 = crN now pad sg ρ ∧ u.2.1 = recH 0 und hist now ∧ u.2.2.1 = recU 0 und ∧ u.2.2.2.2.2.2.2.2.2.2.2 = 0))) := by
  refine zI_of (C := RX7) (by decide +kernel) rfl (Nat.le_of_ble_eq_true rfl) (fun _ => True) znI (fun X ok fin => ?_)
  have hsg := hpd.1
  have hru : 0 ≤ recU it und ∧ recU it und ≤ 6 := by unfold recU; (repeat' split) <;> omega
  refine z_lsub ok (lv' := [(0, .ref (q 0))]) [0] rfl ?_
  refine z_aload_n ok dX7_carryOut_0 rfl ?_
  refine z_callVi0 ok (fun l => c_X7_faultOf  (by omega)) zm_X7_faultOf zv_X7_faultOf qm_RX7_187 dX7_carryOut_1 (by decide) (by decide) rfl rfl (Nat.le_of_ble_eq_true rfl) (q0 := 0) rfl rfl rfl (fun r1 u1 hp1 => ?_)
  obtain ⟨ord_1, pl_1, wr_1, rd_1⟩ := u1
  try dsimp only at hp1
  obtain ⟨rfl, ho1, hrg1⟩ := hp1
  refine z_eq (ws' := mW Z q now kept hist und sav isv pad sg it far many laid sides stuck ord_1 rd_1 pl_1 wr_1) rfl ?_
  refine z_bipush ok dX7_carryOut_4 (by decide) ?_
  refine z_icmp_eq (tgt := 12) ok dX7_carryOut_6 (by decide) (by omega) (by omega) (fun c6 => ?_) (fun c6 => ?_)
  · -- t
    obtain ⟨hf2, hords, hr0, hr1⟩ := ho1 c6
    refine z_aload_n ok dX7_carryOut_12 rfl ?_
    refine z_callVv0 ok (fun l => c_X7_record  (by omega) (by omega)) zm_X7_record zv_X7_record qm_RX7_70 dX7_carryOut_13 (by decide) (by decide) rfl rfl (Nat.le_of_ble_eq_true rfl) (q0 := 0) rfl rfl rfl (fun _ hp13 => ?_)
    refine z_eq (ws' := mW Z q now kept (recH it und hist now) (recU it und) sav isv pad sg it far many laid sides stuck ord_1 rd_1 pl_1 wr_1) rfl ?_
    refine z_aload_n ok dX7_carryOut_16 rfl ?_
    refine z_iconst ok dX7_carryOut_17 ?_
    refine z_put (ws' := mW Z q now kept (recH it und hist now) (recU it und) sav isv pad sg 1 far many laid sides stuck ord_1 rd_1 pl_1 wr_1) ok zc7 0 rfl 8 (by decide) qf_RX7_47 rfl rfl (znZ _ (by first | decide | exact zb_01 _ | omega)) (zfZ _ (by first | decide | exact zb_01 _ | omega)) (Nat.le_of_ble_eq_true rfl) dX7_carryOut_18 rfl ?_
    refine z_iconst ok dX7_carryOut_21 ?_
    refine z_istore_n (lv' := [(1, .int (iI 0)), (0, .ref (q 0))]) ok dX7_carryOut_22 (by decide) rfl ?_
    have L23 : ∀ (fuel : Nat) (j : Int) (N h sd f m ld : Int → Int) (u : Int), (0 ≤ j) → (j ≤ rd_1) → (N = crN now pad sg j) → (wf N) → (0 ≤ N 3 ∧ N 3 ≤ now 3 + 99 * j) → (∀ x : Int, 0 ≤ x → x < j → ¬ crQ now pad sg rd_1 x) → (h = recH it und hist now ∧ u = recU it und) → (cacheOK N ld f m) → (rd_1 - j).toNat < fuel → zV X 0 0 (mW Z q N kept h u sav isv pad sg 1 f m ld sd stuck ord_1 rd_1 pl_1 wr_1) 23 [(0, .ref (q 0)), (1, .int (iI j))] [] := by
      intro fuel
      induction fuel with
      | zero => intro j N h sd f m ld u h23_0 h23_1 h23_2 h23_3 h23_4 h23_5 h23_6 h23_7 hf; exact absurd hf (Nat.not_lt_zero _)
      | succ fuel ih23 =>
        intro j N h sd f m ld u h23_0 h23_1 h23_2 h23_3 h23_4 h23_5 h23_6 h23_7 hf
        have hwN := h23_3
        have hux := h23_6.2
        refine z_iload_n ok dX7_carryOut_23 rfl ?_
        refine z_aload_n ok dX7_carryOut_24 rfl ?_
        refine z_get (v := .int (iI rd_1)) ok zc7 0 rfl 15 (by decide) qf_RX7_173 rfl rfl dX7_carryOut_25 ?_
        refine z_icmp_ge (tgt := 47) ok dX7_carryOut_28 (by decide) (by omega) (by omega) (fun c28 => ?_) (fun c28 => ?_)
        · -- t
          refine z_aload_n ok dX7_carryOut_47 rfl ?_
          refine z_iconst ok dX7_carryOut_48 ?_
          refine z_put (ws' := mW Z q N kept h u sav isv pad sg 0 f m ld sd stuck ord_1 rd_1 pl_1 wr_1) ok zc7 0 rfl 8 (by decide) qf_RX7_47 rfl rfl (znZ _ (by first | decide | exact zb_01 _ | omega)) (zfZ _ (by first | decide | exact zb_01 _ | omega)) (Nat.le_of_ble_eq_true rfl) dX7_carryOut_49 rfl ?_
          refine z_aload_n ok dX7_carryOut_52 rfl ?_
          refine z_iconst ok dX7_carryOut_53 ?_
          refine z_put (ws' := mW Z q N kept h u sav isv pad 0 0 f m ld sd stuck ord_1 rd_1 pl_1 wr_1) ok zc7 0 rfl 7 (by decide) qf_RX7_152 rfl rfl rfl rfl (Nat.le_of_ble_eq_true rfl) dX7_carryOut_54 rfl ?_
          refine z_iload_n ok dX7_carryOut_57 rfl ?_
          have hres : j = crR now pad sg := by unfold crR; rw [← hf2]; exact (fsk_yes h23_0 h23_1 (by first | (left; omega) | (right; rw [← h23_2, ← hor.2.2.2.1]; omega)) h23_5).symm
          have hNN : N = crN now pad sg j := by first | exact h23_2 | (rw [hN35, hwo.2.2.2 (by omega)]; exact h23_2)
          have hHH : h = recH 0 und hist now ∧ u = recU 0 und := by rw [← hit]; first | exact h23_6 | exact ⟨hH35.trans h23_6.1, hU35.trans h23_6.2⟩
          exact fin j (N, h, u, f, m, ld, sd, ord_1, rd_1, pl_1, wr_1, 0) 58 _ _ _ dX7_carryOut_58 (trivial) (⟨h23_7, Or.inr ⟨c6, hres, hNN, hHH.1, hHH.2, rfl⟩⟩) (by decide) (by decide)
        · -- f
          have hor := ords_at hpd hords h23_0 c28 N
          have hwo := wf_ord (k := ord_1 (3 * j)) (a := ord_1 (3 * j + 1)) (b := ord_1 (3 * j + 2)) hwN h23_4.1 hor.2.1.2
          refine z_aload_n ok dX7_carryOut_31 rfl ?_
          refine z_iconst ok dX7_carryOut_32 ?_
          refine z_iload_n ok dX7_carryOut_33 rfl ?_
          refine z_imul ok dX7_carryOut_34 ?_
          refine z_callVi0 ok (fun l => c_X7_carry  (hwN) (by omega) (rfl) (by omega) (by omega) (hor.1) (hor.2.1) (hor.2.2.1) (h23_7)) zm_X7_carry zv_X7_carry qm_RX7_199 dX7_carryOut_35 (by decide) (by decide) rfl rfl (Nat.le_of_ble_eq_true rfl) (q0 := 0) rfl rfl rfl (fun r35 u35 hp35 => ?_)
          obtain ⟨now_35, hist_35, und_35, far_35, many_35, laid_35, sides_35⟩ := u35
          try dsimp only at hp35
          obtain ⟨hR35, hN35, hH35, hU35, hc35⟩ := hp35
          refine z_eq (ws' := mW Z q now_35 kept hist_35 und_35 sav isv pad sg 1 far_35 many_35 laid_35 sides_35 stuck ord_1 rd_1 pl_1 wr_1) rfl ?_
          have hR2 := hR35
          have hsr := ordR_rng (k := ord_1 (3 * j)) (a := ord_1 (3 * j + 1)) (b := ord_1 (3 * j + 2)) hwN h23_4.1 hor.2.1
          refine z_if_lt (tgt := 47) ok dX7_carryOut_38 (by decide) (by omega) (fun c38 => ?_) (fun c38 => ?_)
          · -- t
            refine z_aload_n ok dX7_carryOut_47 rfl ?_
            refine z_iconst ok dX7_carryOut_48 ?_
            refine z_put (ws' := mW Z q now_35 kept hist_35 und_35 sav isv pad sg 0 far_35 many_35 laid_35 sides_35 stuck ord_1 rd_1 pl_1 wr_1) ok zc7 0 rfl 8 (by decide) qf_RX7_47 rfl rfl (znZ _ (by first | decide | exact zb_01 _ | omega)) (zfZ _ (by first | decide | exact zb_01 _ | omega)) (Nat.le_of_ble_eq_true rfl) dX7_carryOut_49 rfl ?_
            refine z_aload_n ok dX7_carryOut_52 rfl ?_
            refine z_iconst ok dX7_carryOut_53 ?_
            refine z_put (ws' := mW Z q now_35 kept hist_35 und_35 sav isv pad 0 0 far_35 many_35 laid_35 sides_35 stuck ord_1 rd_1 pl_1 wr_1) ok zc7 0 rfl 7 (by decide) qf_RX7_152 rfl rfl rfl rfl (Nat.le_of_ble_eq_true rfl) dX7_carryOut_54 rfl ?_
            refine z_iload_n ok dX7_carryOut_57 rfl ?_
            have hres : j = crR now pad sg := by unfold crR; rw [← hf2]; exact (fsk_yes h23_0 h23_1 (by first | (left; omega) | (right; rw [← h23_2, ← hor.2.2.2.1]; omega)) h23_5).symm
            have hNN : now_35 = crN now pad sg j := by first | exact h23_2 | (rw [hN35, hwo.2.2.2 (by omega)]; exact h23_2)
            have hHH : hist_35 = recH 0 und hist now ∧ und_35 = recU 0 und := by rw [← hit]; first | exact h23_6 | exact ⟨hH35.trans h23_6.1, hU35.trans h23_6.2⟩
            exact fin j (now_35, hist_35, und_35, far_35, many_35, laid_35, sides_35, ord_1, rd_1, pl_1, wr_1, 0) 58 _ _ _ dX7_carryOut_58 (trivial) (⟨hc35, Or.inr ⟨c6, hres, hNN, hHH.1, hHH.2, rfl⟩⟩) (by decide) (by decide)
          · -- f
            refine z_iinc (lv' := [(1, .int (iI (j + 1))), (0, .ref (q 0))]) ok dX7_carryOut_41 1 rfl (by decide) rfl ?_
            refine z_goto (tgt := 23) ok dX7_carryOut_44 (by decide) ?_
            refine z_lsub ok (lv' := [(0, .ref (q 0)), (1, .int (iI (j + 1)))]) [1, 0] rfl ?_
            exact ih23 _ _ _ _ _ _ _ _ (by omega) (by omega) (by rw [crN_s (by omega) h23_2, ← hor.2.2.2.2]; exact hN35) (by rw [hN35]; exact hwo.1) (by rw [hN35]; omega) (zall h23_5 (fun z => by rcases z with z | z; (omega); (rw [← h23_2, ← hor.2.2.2.1] at z; omega))) (⟨hH35.trans h23_6.1, hU35.trans h23_6.2⟩) (hc35) (by omega)
    refine z_lsub ok (lv' := [(0, .ref (q 0)), (1, .int (iI 0))]) [1, 0] rfl ?_
    exact L23 _ _ _ _ _ _ _ _ _ (by omega) (by omega) (rfl) (hw) (by omega) (fun x h0 h1 => absurd h1 (by omega)) (⟨rfl, rfl⟩) (hca) (Nat.lt_succ_self _)
  · -- f
    refine z_bipush ok dX7_carryOut_9 (by decide) ?_
    refine z_eq (ws' := mW Z q now kept hist und sav isv pad sg 0 far many laid sides stuck ord_1 rd_1 pl_1 wr_1) (by rw [hit]) ?_
    exact fin (-3) (now, hist, und, far, many, laid, sides, ord_1, rd_1, pl_1, wr_1, sg) 11 _ _ _ dX7_carryOut_11 (trivial) (⟨hca, Or.inl ⟨c6, rfl, rfl, rfl, rfl, rfl⟩⟩) (by decide) (by decide)
