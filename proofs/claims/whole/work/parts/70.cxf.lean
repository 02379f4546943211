set_option maxHeartbeats 4000000 in
set_option maxRecDepth 20000 in
theorem c_X6_carryOut {l : Launch} {Z : zZ} {x a b a3 b4 c e : Nat → Nat} {und : Int} {ss : List Nat} {us : Int → Int} {N : Int → Int} {A : Nat → Nat → Nat} {H : Nat → Int → Int} {ef : Int} {op ln nm qu : Int → Int} {qd : Int} {P : Int → Int} {lp od : Int} {k1 f1 s1 : Int → Int} {pl : Int} (hw : wf N) (hok : rOK N ef op ln) (hu : 0 ≤ und ∧ und ≤ 6) (h3 : 0 ≤ N 3) (hpd : padOK P lp) : zI (T := (Int → Int) × ((Nat → Nat → Nat) × (Nat → Int → Int) × Int) × ((Int × (Int → Int)) × (Int → Int) × (Int → Int) × (Int → Int) × Int) × (Int × Int × (Int → Int) × (Int → Int) × (Int → Int)) × Int) l yX6_carryOut (Cond.code yX6_carryOut cX6_carryOut 2 (some .int) :: wsL_law) ({ frames := 7, cells := 0, slots := 0, locals := 173 } : Room) Z [.ref (x 0)] (zf [soW Z a N (ins N) (mvF N) (N 3), gW Z a (N 4) (N 5) (bkL N), pW Z a (N 6) (pkF N 0) (pkF N 1) (pkF N 2) (pkF N 3) (pkF N 4) (pkF N 5) (pkF N 6) (pkF N 7) (pkF N 8) (pkF N 9), xW Z x (a 0) (b 0) (a3 0) (b4 0) (c 0) (e 0) und ([A 0 0, A 1 0, A 2 0, A 3 0, A 4 0, A 5 0]) ss us, hW Z A H, rW Z b ef op ln nm qu qd, dW Z e P lp od k1 f1 s1 pl]) (fun u => zf [soW Z a u.1 (ins u.1) (mvF u.1) (u.1 3), gW Z a (u.1 4) (u.1 5) (bkL u.1), pW Z a (u.1 6) (pkF u.1 0) (pkF u.1 1) (pkF u.1 2) (pkF u.1 3) (pkF u.1 4) (pkF u.1 5) (pkF u.1 6) (pkF u.1 7) (pkF u.1 8) (pkF u.1 9), xW Z x (a 0) (b 0) (a3 0) (b4 0) (c 0) (e 0) u.2.1.2.2 ([u.2.1.1 0 0, u.2.1.1 1 0, u.2.1.1 2 0, u.2.1.1 3 0, u.2.1.1 4 0, u.2.1.1 5 0]) ss us, hW Z u.2.1.1 u.2.1.2.1, rW Z b u.2.2.1.1.1 u.2.2.1.1.2 u.2.2.1.2.1 u.2.2.1.2.2.1 u.2.2.1.2.2.2.1 u.2.2.1.2.2.2.2, dW Z e P u.2.2.2.2 u.2.2.2.1.2.1 u.2.2.2.1.2.2.1 u.2.2.2.1.2.2.2.1 u.2.2.2.1.2.2.2.2 u.2.2.2.1.1]) (fun ρ u => rOK u.1 u.2.2.1.1.1 u.2.2.1.1.2 u.2.2.1.2.1 ∧ ((¬ (flt P lp 100 0 0).1 = -6 ∧ ρ = -3 ∧ u.1 = N ∧ u.2.1 = (A, H, und) ∧ u.2.2.2.2 = lp) ∨ ((flt P lp 100 0 0).1 = -6 ∧ ρ = crR N P lp ∧ u.1 = crN N P lp ρ ∧ recP und H N u.2.1.2.2 u.2.1.2.1 ∧ u.2.2.2.2 = 0))) := by
  refine zI_of (C := RX6) (by decide +kernel) rfl (Nat.le_of_ble_eq_true rfl) (fun _ => True) znI (fun X ok fin => ?_)
  obtain ⟨w0, w1, w2, hc, hr, w6, wl, wp⟩ := id hw
  have hcr := cr_rng hc hr
  refine z_lsub ok (lv' := [(0, .ref (x 0))]) [0] rfl ?_
  refine z_aload_n ok dX6_carryOut_0 rfl ?_
  refine z_get (v := .ref (e 0)) ok zc6 16 rfl 5 (by decide) qf_RX6_39 rfl rfl dX6_carryOut_1 ?_
  refine z_callVig ok (fun l => c_X3_readOrders  (hpd)) zm_X3_readOrders zv_X3_readOrders qm_RX6_239 dX6_carryOut_4 (by decide) (by decide) rfl rfl (Nat.le_of_ble_eq_true rfl) (q0 := 0) rfl rfl rfl (L := [soW Z a N (ins N) (mvF N) (N 3), gW Z a (N 4) (N 5) (bkL N), pW Z a (N 6) (pkF N 0) (pkF N 1) (pkF N 2) (pkF N 3) (pkF N 4) (pkF N 5) (pkF N 6) (pkF N 7) (pkF N 8) (pkF N 9), xW Z x (a 0) (b 0) (a3 0) (b4 0) (c 0) (e 0) und ([A 0 0, A 1 0, A 2 0, A 3 0, A 4 0, A 5 0]) ss us, hW Z A H, rW Z b ef op ln nm qu qd, dW Z e P lp od k1 f1 s1 pl]) (Lr := [soW Z a N (ins N) (mvF N) (N 3), gW Z a (N 4) (N 5) (bkL N), pW Z a (N 6) (pkF N 0) (pkF N 1) (pkF N 2) (pkF N 3) (pkF N 4) (pkF N 5) (pkF N 6) (pkF N 7) (pkF N 8) (pkF N 9), xW Z x (a 0) (b 0) (a3 0) (b4 0) (c 0) (e 0) und ([A 0 0, A 1 0, A 2 0, A 3 0, A 4 0, A 5 0]) ss us, hW Z A H, rW Z b ef op ln nm qu qd]) 7 [6, 0, 1, 2, 3, 4, 5] [1, 2, 3, 4, 5, 6, 0] rfl (by decide +kernel) rfl (fun _ => rfl) (by decide +kernel) (fun r4 u4 hp4 => ?_)
  obtain ⟨pl_4, od_4, k1_4, f1_4, s1_4⟩ := u4
  try dsimp only at hp4
  obtain ⟨rfl, ho4, hr4⟩ := hp4
  refine z_eq (ws' := zf [soW Z a N (ins N) (mvF N) (N 3), gW Z a (N 4) (N 5) (bkL N), pW Z a (N 6) (pkF N 0) (pkF N 1) (pkF N 2) (pkF N 3) (pkF N 4) (pkF N 5) (pkF N 6) (pkF N 7) (pkF N 8) (pkF N 9), xW Z x (a 0) (b 0) (a3 0) (b4 0) (c 0) (e 0) und ([A 0 0, A 1 0, A 2 0, A 3 0, A 4 0, A 5 0]) ss us, hW Z A H, rW Z b ef op ln nm qu qd, dW Z e P lp od_4 k1_4 f1_4 s1_4 pl_4]) rfl ?_
  refine z_bipush ok dX6_carryOut_7 (by decide) ?_
  refine z_icmp_eq (tgt := 15) ok dX6_carryOut_9 (by decide) (by omega) (by omega) (fun c9 => ?_) (fun c9 => ?_)
  · -- t
    obtain ⟨hf2, hords, hr0, hr1⟩ : od_4 = (flt P lp 100 0 0).2 ∧ ordsOK P lp od_4 k1_4 f1_4 s1_4 ∧ 0 ≤ od_4 ∧ od_4 ≤ 27 := by have ho := ho4 c9; exact ⟨ho.1, ho.2.2, ho.2.1.1, ho.2.1.2⟩
    refine z_aload_n ok dX6_carryOut_15 rfl ?_
    refine z_callVvg ok (fun l => c_X6_recordState  (hu)) zm_X6_recordState zv_X6_recordState qm_RX6_68 dX6_carryOut_16 (by decide) (by decide) rfl rfl (Nat.le_of_ble_eq_true rfl) (q0 := 16) rfl rfl rfl (L := [soW Z a N (ins N) (mvF N) (N 3), gW Z a (N 4) (N 5) (bkL N), pW Z a (N 6) (pkF N 0) (pkF N 1) (pkF N 2) (pkF N 3) (pkF N 4) (pkF N 5) (pkF N 6) (pkF N 7) (pkF N 8) (pkF N 9), xW Z x (a 0) (b 0) (a3 0) (b4 0) (c 0) (e 0) und ([A 0 0, A 1 0, A 2 0, A 3 0, A 4 0, A 5 0]) ss us, hW Z A H, rW Z b ef op ln nm qu qd, dW Z e P lp od_4 k1_4 f1_4 s1_4 pl_4]) (Lr := [rW Z b ef op ln nm qu qd, dW Z e P lp od_4 k1_4 f1_4 s1_4 pl_4]) 7 [0, 1, 2, 3, 4, 5, 6] [0, 1, 2, 3, 4, 5, 6] rfl (by decide +kernel) rfl (fun _ => rfl) (by decide +kernel) (fun u16 hp16 => ?_)
    obtain ⟨A_16, H_16, un_16⟩ := u16
    try dsimp only at hp16
    refine z_eq (ws' := zf [soW Z a N (ins N) (mvF N) (N 3), gW Z a (N 4) (N 5) (bkL N), pW Z a (N 6) (pkF N 0) (pkF N 1) (pkF N 2) (pkF N 3) (pkF N 4) (pkF N 5) (pkF N 6) (pkF N 7) (pkF N 8) (pkF N 9), xW Z x (a 0) (b 0) (a3 0) (b4 0) (c 0) (e 0) un_16 ([A_16 0 0, A_16 1 0, A_16 2 0, A_16 3 0, A_16 4 0, A_16 5 0]) ss us, hW Z A_16 H_16, rW Z b ef op ln nm qu qd, dW Z e P lp od_4 k1_4 f1_4 s1_4 pl_4]) rfl ?_
    refine z_aload_n ok dX6_carryOut_19 rfl ?_
    refine z_get (v := .ref (e 0)) ok zc6 16 rfl 5 (by decide) qf_RX6_39 rfl rfl dX6_carryOut_20 ?_
    refine z_iconst ok dX6_carryOut_23 ?_
    refine z_put (ws' := zf [soW Z a N (ins N) (mvF N) (N 3), gW Z a (N 4) (N 5) (bkL N), pW Z a (N 6) (pkF N 0) (pkF N 1) (pkF N 2) (pkF N 3) (pkF N 4) (pkF N 5) (pkF N 6) (pkF N 7) (pkF N 8) (pkF N 9), xW Z x (a 0) (b 0) (a3 0) (b4 0) (c 0) (e 0) un_16 ([A_16 0 0, A_16 1 0, A_16 2 0, A_16 3 0, A_16 4 0, A_16 5 0]) ss us, hW Z A_16 H_16, rW Z b ef op ln nm qu qd, dW Z e P 0 od_4 k1_4 f1_4 s1_4 pl_4]) ok zc3 121 rfl 1 (by decide) qf_RX6_198 rfl rfl rfl rfl (Nat.le_of_ble_eq_true rfl) dX6_carryOut_24 rfl ?_
    refine z_iconst ok dX6_carryOut_27 ?_
    refine z_istore_n (lv' := [(1, .int (iI 0)), (0, .ref (x 0))]) ok dX6_carryOut_28 (by decide) rfl ?_
    have L29 : ∀ (fuel : Nat) (j : Int) (M : Int → Int) (ef5 : Int) (op5 ln5 nm5 qu5 : Int → Int) (qd5 : Int), (0 ≤ j) → (j ≤ od_4) → (M = crN N P lp j) → (wf M) → (0 ≤ M 3) → (∀ x : Int, 0 ≤ x → x < j → ¬ crQ N P lp od_4 x) → (rOK M ef5 op5 ln5) → (od_4 - j).toNat < fuel → zV X 0 0 (zf [soW Z a M (ins M) (mvF M) (M 3), gW Z a (M 4) (M 5) (bkL M), pW Z a (M 6) (pkF M 0) (pkF M 1) (pkF M 2) (pkF M 3) (pkF M 4) (pkF M 5) (pkF M 6) (pkF M 7) (pkF M 8) (pkF M 9), xW Z x (a 0) (b 0) (a3 0) (b4 0) (c 0) (e 0) un_16 ([A_16 0 0, A_16 1 0, A_16 2 0, A_16 3 0, A_16 4 0, A_16 5 0]) ss us, hW Z A_16 H_16, rW Z b ef5 op5 ln5 nm5 qu5 qd5, dW Z e P 0 od_4 k1_4 f1_4 s1_4 pl_4]) 29 [(0, .ref (x 0)), (1, .int (iI j))] [] := by
      intro fuel
      induction fuel with
      | zero => intro j M ef5 op5 ln5 nm5 qu5 qd5 h29_0 h29_1 h29_2 h29_3 h29_4 h29_5 h29_6 hf; exact absurd hf (Nat.not_lt_zero _)
      | succ fuel ih29 =>
        intro j M ef5 op5 ln5 nm5 qu5 qd5 h29_0 h29_1 h29_2 h29_3 h29_4 h29_5 h29_6 hf
        refine z_iload_n ok dX6_carryOut_29 rfl ?_
        refine z_aload_n ok dX6_carryOut_30 rfl ?_
        refine z_get (v := .ref (e 0)) ok zc6 16 rfl 5 (by decide) qf_RX6_39 rfl rfl dX6_carryOut_31 ?_
        refine z_get (v := .int (iI od_4)) ok zc3 121 rfl 2 (by decide) qf_RX6_242 rfl rfl dX6_carryOut_34 ?_
        refine z_icmp_ge (tgt := 56) ok dX6_carryOut_37 (by decide) (by omega) (by omega) (fun c37 => ?_) (fun c37 => ?_)
        · -- t
          refine z_aload_n ok dX6_carryOut_56 rfl ?_
          refine z_get (v := .ref (e 0)) ok zc6 16 rfl 5 (by decide) qf_RX6_39 rfl rfl dX6_carryOut_57 ?_
          refine z_get (v := .int (iI od_4)) ok zc3 121 rfl 2 (by decide) qf_RX6_242 rfl rfl dX6_carryOut_60 ?_
          have hjo : j = od_4 := by omega
          have hres : od_4 = crR N P lp := by unfold crR; rw [← hf2]; exact (fsk_yes (by omega) (Int.le_refl _) (Or.inl rfl) (by rw [← hjo]; rw [hjo] at h29_5; rw [hjo]; exact h29_5)).symm
          exact fin od_4 (M, (A_16, H_16, un_16), ((ef5, op5), ln5, nm5, qu5, qd5), (pl_4, od_4, k1_4, f1_4, s1_4), 0) 63 _ _ _ dX6_carryOut_63 (trivial) (⟨h29_6, Or.inr ⟨c9, hres, by rw [← hjo]; exact h29_2, hp16, rfl⟩⟩) (by decide) (by decide)
        · -- f
          have hor := ords_at3 hpd hords h29_0 (by omega : j < od_4) M
          have hwo := wf_ord (k := k1_4 j) (a := f1_4 j) (b := s1_4 j) h29_3 h29_4 hor.2.1.2
          refine z_aload_n ok dX6_carryOut_40 rfl ?_
          refine z_iload_n ok dX6_carryOut_41 rfl ?_
          refine z_callVig ok (fun l => c_X6_obey  (h29_3) (h29_6) (by omega) (by omega) (h29_4) (hor.1) (hor.2.1) (hor.2.2.1)) zm_X6_obey zv_X6_obey qm_RX6_245 dX6_carryOut_42 (by decide) (by decide) rfl rfl (Nat.le_of_ble_eq_true rfl) (q0 := 16) rfl rfl rfl (L := [soW Z a M (ins M) (mvF M) (M 3), gW Z a (M 4) (M 5) (bkL M), pW Z a (M 6) (pkF M 0) (pkF M 1) (pkF M 2) (pkF M 3) (pkF M 4) (pkF M 5) (pkF M 6) (pkF M 7) (pkF M 8) (pkF M 9), xW Z x (a 0) (b 0) (a3 0) (b4 0) (c 0) (e 0) un_16 ([A_16 0 0, A_16 1 0, A_16 2 0, A_16 3 0, A_16 4 0, A_16 5 0]) ss us, hW Z A_16 H_16, rW Z b ef5 op5 ln5 nm5 qu5 qd5, dW Z e P 0 od_4 k1_4 f1_4 s1_4 pl_4]) (Lr := [hW Z A_16 H_16]) 7 [0, 1, 2, 3, 5, 6, 4] [0, 1, 2, 3, 6, 4, 5] rfl (by decide +kernel) rfl (fun _ => rfl) (by decide +kernel) (fun r42 u42 hp42 => ?_)
          obtain ⟨n_42, ro_42, ln_42, nm_42, qu_42, qd_42⟩ := u42
          try dsimp only at hp42
          obtain ⟨rfl, hM42, hk42⟩ := hp42
          refine z_eq (ws' := zf [soW Z a n_42 (ins n_42) (mvF n_42) (n_42 3), gW Z a (n_42 4) (n_42 5) (bkL n_42), pW Z a (n_42 6) (pkF n_42 0) (pkF n_42 1) (pkF n_42 2) (pkF n_42 3) (pkF n_42 4) (pkF n_42 5) (pkF n_42 6) (pkF n_42 7) (pkF n_42 8) (pkF n_42 9), xW Z x (a 0) (b 0) (a3 0) (b4 0) (c 0) (e 0) un_16 ([A_16 0 0, A_16 1 0, A_16 2 0, A_16 3 0, A_16 4 0, A_16 5 0]) ss us, hW Z A_16 H_16, rW Z b ro_42.1 ro_42.2 ln_42 nm_42 qu_42 qd_42, dW Z e P 0 od_4 k1_4 f1_4 s1_4 pl_4]) rfl ?_
          refine z_ifb_ne (tgt := 50) ok dX6_carryOut_45 (by decide) (fun c45 => ?_) (fun c45 => ?_)
          · -- t
            refine z_iinc (lv' := [(1, .int (iI (j + 1))), (0, .ref (x 0))]) ok dX6_carryOut_50 1 rfl (by decide) rfl ?_
            refine z_goto (tgt := 29) ok dX6_carryOut_53 (by decide) ?_
            refine z_lsub ok (lv' := [(0, .ref (x 0)), (1, .int (iI (j + 1)))]) [1, 0] rfl ?_
            exact ih29 _ n_42 _ _ _ _ _ _ (by omega) (by omega) (by rw [crN_s (by omega) h29_2, ← hor.2.2.2.2]; exact hM42) (by rw [hM42]; exact hwo.1) (by rw [hM42]; exact hwo.2.1) (zall h29_5 (fun z => by rcases z with z | z; (omega); (rw [← h29_2, ← hor.2.2.2.1] at z; omega))) (hk42) (by omega)
          · -- f
            refine z_iload_n ok dX6_carryOut_48 rfl ?_
            have hres : j = crR N P lp := by unfold crR; rw [← hf2]; exact (fsk_yes h29_0 h29_1 (Or.inr (by rw [← h29_2, ← hor.2.2.2.1]; omega)) h29_5).symm
            exact fin j (n_42, (A_16, H_16, un_16), ((ro_42.1, ro_42.2), ln_42, nm_42, qu_42, qd_42), (pl_4, od_4, k1_4, f1_4, s1_4), 0) 49 _ _ _ dX6_carryOut_49 (trivial) (⟨hk42, Or.inr ⟨c9, hres, by show n_42 = _; rw [hM42, hwo.2.2.2 (by omega)]; exact h29_2, hp16, rfl⟩⟩) (by decide) (by decide)
    refine z_lsub ok (lv' := [(0, .ref (x 0)), (1, .int (iI 0))]) [1, 0] rfl ?_
    exact L29 _ _ N _ _ _ _ _ _ (by omega) (by omega) (rfl) (hw) (h3) (fun x h0 h1 => absurd h1 (by omega)) (hok) (Nat.lt_succ_self _)
  · -- f
    refine z_bipush ok dX6_carryOut_12 (by decide) ?_
    exact fin (-3) (N, (A, H, und), ((ef, op), ln, nm, qu, qd), (pl_4, od_4, k1_4, f1_4, s1_4), lp) 14 _ _ _ dX6_carryOut_14 (trivial) (⟨hok, Or.inl ⟨c9, rfl, rfl, rfl, rfl⟩⟩) (by decide) (by decide)
