set_option maxRecDepth 20000 in
theorem c_X6_pairsWithout {l : Launch} {Z : zZ} {x a b a3 b4 c e : Nat → Nat} {und : Int} {hs ss : List Nat} {us : Int → Int} {N : Int → Int} {K : Int → Int} {ef4 : Int} {op4 ln4 nm4 qu4 : Int → Int} {qd4 : Int} {lk : Int} (hw : wf N) (hlk : 0 ≤ lk ∧ lk < 50) : zI (T := (Int × (Int → Int)) × (Int → Int) × (Int → Int) × (Int → Int) × Int) l yX6_pairsWithout (Cond.code yX6_pairsWithout cX6_pairsWithout 2 (some .int) :: wsL_law) ({ frames := 4, cells := 0, slots := 0, locals := 102 } : Room) Z [.ref (x 0), .int (iI lk)] (zf [soW Z a N (ins N) (mvF N) (N 3), gW Z a (N 4) (N 5) (bkL N), pW Z a (N 6) (pkF N 0) (pkF N 1) (pkF N 2) (pkF N 3) (pkF N 4) (pkF N 5) (pkF N 6) (pkF N 7) (pkF N 8) (pkF N 9), soW Z a3 K (ins K) (mvF K) (K 3), gW Z a3 (K 4) (K 5) (bkL K), pW Z a3 (K 6) (pkF K 0) (pkF K 1) (pkF K 2) (pkF K 3) (pkF K 4) (pkF K 5) (pkF K 6) (pkF K 7) (pkF K 8) (pkF K 9), xW Z x (a 0) (b 0) (a3 0) (b4 0) (c 0) (e 0) und hs ss us, rW Z b4 ef4 op4 ln4 nm4 qu4 qd4]) (fun u => zf [soW Z a N (ins N) (mvF N) (N 3), gW Z a (N 4) (N 5) (bkL N), pW Z a (N 6) (pkF N 0) (pkF N 1) (pkF N 2) (pkF N 3) (pkF N 4) (pkF N 5) (pkF N 6) (pkF N 7) (pkF N 8) (pkF N 9), soW Z a3 (zu N (10 + lk) 1) (ins (zu N (10 + lk) 1)) (mvF (zu N (10 + lk) 1)) ((zu N (10 + lk) 1) 3), gW Z a3 ((zu N (10 + lk) 1) 4) ((zu N (10 + lk) 1) 5) (bkL (zu N (10 + lk) 1)), pW Z a3 ((zu N (10 + lk) 1) 6) (pkF (zu N (10 + lk) 1) 0) (pkF (zu N (10 + lk) 1) 1) (pkF (zu N (10 + lk) 1) 2) (pkF (zu N (10 + lk) 1) 3) (pkF (zu N (10 + lk) 1) 4) (pkF (zu N (10 + lk) 1) 5) (pkF (zu N (10 + lk) 1) 6) (pkF (zu N (10 + lk) 1) 7) (pkF (zu N (10 + lk) 1) 8) (pkF (zu N (10 + lk) 1) 9), xW Z x (a 0) (b 0) (a3 0) (b4 0) (c 0) (e 0) und hs ss us, rW Z b4 u.1.1 u.1.2 u.2.1 u.2.2.1 u.2.2.2.1 u.2.2.2.2]) (fun ρ u => ρ = prB N lk) := by
  refine zI_of (C := RX6) (by decide +kernel) rfl (Nat.le_of_ble_eq_true rfl) (fun _ => True) znI (fun X ok fin => ?_)
  have hwt := wf_lk (v := 1) hw (by omega : 10 ≤ 10 + lk ∧ 10 + lk < 60) (by decide)
  refine z_lsub ok (lv' := [(0, .ref (x 0)), (1, .int (iI lk))]) [0, 1] rfl ?_
  refine z_aload_n ok dX6_pairsWithout_0 rfl ?_
  refine z_get (v := .ref (a 0)) ok zc6 32 rfl 0 (by decide) qf_RX6_12 rfl rfl dX6_pairsWithout_1 ?_
  refine z_aload_n ok dX6_pairsWithout_4 rfl ?_
  refine z_get (v := .ref (a3 0)) ok zc6 32 rfl 2 (by decide) qf_RX6_23 rfl rfl dX6_pairsWithout_5 ?_
  refine z_callSvg ok (fun l => c_X5_copyState  ) zm_X5_copyState qt_X5_copyState qm_RX6_224 dX6_pairsWithout_8 (by decide) (by decide) rfl rfl (Nat.le_of_ble_eq_true rfl) (L := [soW Z a N (ins N) (mvF N) (N 3), gW Z a (N 4) (N 5) (bkL N), pW Z a (N 6) (pkF N 0) (pkF N 1) (pkF N 2) (pkF N 3) (pkF N 4) (pkF N 5) (pkF N 6) (pkF N 7) (pkF N 8) (pkF N 9), soW Z a3 K (ins K) (mvF K) (K 3), gW Z a3 (K 4) (K 5) (bkL K), pW Z a3 (K 6) (pkF K 0) (pkF K 1) (pkF K 2) (pkF K 3) (pkF K 4) (pkF K 5) (pkF K 6) (pkF K 7) (pkF K 8) (pkF K 9), xW Z x (a 0) (b 0) (a3 0) (b4 0) (c 0) (e 0) und hs ss us, rW Z b4 ef4 op4 ln4 nm4 qu4 qd4]) (Lr := [xW Z x (a 0) (b 0) (a3 0) (b4 0) (c 0) (e 0) und hs ss us, rW Z b4 ef4 op4 ln4 nm4 qu4 qd4]) 8 [0, 1, 2, 3, 4, 5, 6, 7] [0, 1, 2, 3, 4, 5, 6, 7] rfl (by decide +kernel) rfl (fun _ => rfl) (by decide +kernel) (fun _ hp8 => ?_)
  refine z_eq (ws' := zf [soW Z a N (ins N) (mvF N) (N 3), gW Z a (N 4) (N 5) (bkL N), pW Z a (N 6) (pkF N 0) (pkF N 1) (pkF N 2) (pkF N 3) (pkF N 4) (pkF N 5) (pkF N 6) (pkF N 7) (pkF N 8) (pkF N 9), soW Z a3 N (ins N) (mvF N) (N 3), gW Z a3 (N 4) (N 5) (bkL N), pW Z a3 (N 6) (pkF N 0) (pkF N 1) (pkF N 2) (pkF N 3) (pkF N 4) (pkF N 5) (pkF N 6) (pkF N 7) (pkF N 8) (pkF N 9), xW Z x (a 0) (b 0) (a3 0) (b4 0) (c 0) (e 0) und hs ss us, rW Z b4 ef4 op4 ln4 nm4 qu4 qd4]) rfl ?_
  refine z_aload_n ok dX6_pairsWithout_11 rfl ?_
  refine z_get (v := .ref (a3 0)) ok zc6 32 rfl 2 (by decide) qf_RX6_23 rfl rfl dX6_pairsWithout_12 ?_
  refine z_get (v := .ref (a3 2)) ok zc5 16 rfl 1 (by decide) qf_RX6_88 rfl rfl dX6_pairsWithout_15 ?_
  refine z_iload_n ok dX6_pairsWithout_18 rfl ?_
  refine z_iconst ok dX6_pairsWithout_19 ?_
  refine z_callVvg ok (fun l => c_X0_makeWhole  (hlk) (by decide)) zm_X0_makeWhole zv_X0_makeWhole qm_RX6_267 dX6_pairsWithout_20 (by decide) (by decide) rfl rfl (Nat.le_of_ble_eq_true rfl) (q0 := 0) rfl rfl rfl (L := [soW Z a N (ins N) (mvF N) (N 3), gW Z a (N 4) (N 5) (bkL N), pW Z a (N 6) (pkF N 0) (pkF N 1) (pkF N 2) (pkF N 3) (pkF N 4) (pkF N 5) (pkF N 6) (pkF N 7) (pkF N 8) (pkF N 9), soW Z a3 N (ins N) (mvF N) (N 3), gW Z a3 (N 4) (N 5) (bkL N), pW Z a3 (N 6) (pkF N 0) (pkF N 1) (pkF N 2) (pkF N 3) (pkF N 4) (pkF N 5) (pkF N 6) (pkF N 7) (pkF N 8) (pkF N 9), xW Z x (a 0) (b 0) (a3 0) (b4 0) (c 0) (e 0) und hs ss us, rW Z b4 ef4 op4 ln4 nm4 qu4 qd4]) (Lr := [soW Z a N (ins N) (mvF N) (N 3), gW Z a (N 4) (N 5) (bkL N), pW Z a (N 6) (pkF N 0) (pkF N 1) (pkF N 2) (pkF N 3) (pkF N 4) (pkF N 5) (pkF N 6) (pkF N 7) (pkF N 8) (pkF N 9), soW Z a3 N (ins N) (mvF N) (N 3), pW Z a3 (N 6) (pkF N 0) (pkF N 1) (pkF N 2) (pkF N 3) (pkF N 4) (pkF N 5) (pkF N 6) (pkF N 7) (pkF N 8) (pkF N 9), xW Z x (a 0) (b 0) (a3 0) (b4 0) (c 0) (e 0) und hs ss us, rW Z b4 ef4 op4 ln4 nm4 qu4 qd4]) 8 [4, 0, 1, 2, 3, 5, 6, 7] [1, 2, 3, 4, 0, 5, 6, 7] rfl (by decide +kernel) rfl (fun _ => rfl) (by decide +kernel) (fun u20 hp20 => ?_)
  obtain ⟨bo_20, rfl⟩ : ∃ z, z = u20 := ⟨_, rfl⟩
  try dsimp only at hp20
  refine z_eq (ws' := zf [soW Z a N (ins N) (mvF N) (N 3), gW Z a (N 4) (N 5) (bkL N), pW Z a (N 6) (pkF N 0) (pkF N 1) (pkF N 2) (pkF N 3) (pkF N 4) (pkF N 5) (pkF N 6) (pkF N 7) (pkF N 8) (pkF N 9), soW Z a3 N (ins N) (mvF N) (N 3), gW Z a3 (N 4) (N 5) bo_20, pW Z a3 (N 6) (pkF N 0) (pkF N 1) (pkF N 2) (pkF N 3) (pkF N 4) (pkF N 5) (pkF N 6) (pkF N 7) (pkF N 8) (pkF N 9), xW Z x (a 0) (b 0) (a3 0) (b4 0) (c 0) (e 0) und hs ss us, rW Z b4 ef4 op4 ln4 nm4 qu4 qd4]) rfl ?_
  have hbo := hp20.trans (congrArg bkL (show _ = zu N (10 + lk) 1 from rfl))
  subst hbo
  refine z_perm (zf_perm (zix_permN (nn := 8) (ix := [3, 4, 5, 0, 1, 2, 6, 7]) (L := [soW Z a N (ins N) (mvF N) (N 3), gW Z a (N 4) (N 5) (bkL N), pW Z a (N 6) (pkF N 0) (pkF N 1) (pkF N 2) (pkF N 3) (pkF N 4) (pkF N 5) (pkF N 6) (pkF N 7) (pkF N 8) (pkF N 9), soW Z a3 N (ins N) (mvF N) (N 3), gW Z a3 (N 4) (N 5) (bkL (zu N (10 + lk) 1)), pW Z a3 (N 6) (pkF N 0) (pkF N 1) (pkF N 2) (pkF N 3) (pkF N 4) (pkF N 5) (pkF N 6) (pkF N 7) (pkF N 8) (pkF N 9), xW Z x (a 0) (b 0) (a3 0) (b4 0) (c 0) (e 0) und hs ss us, rW Z b4 ef4 op4 ln4 nm4 qu4 qd4]) rfl (by decide +kernel))) ?_
  refine z_eq (ws' := zf [soW Z a3 N (ins N) (mvF N) (N 3), gW Z a3 (N 4) (N 5) (bkL (zu N (10 + lk) 1)), pW Z a3 (N 6) (pkF N 0) (pkF N 1) (pkF N 2) (pkF N 3) (pkF N 4) (pkF N 5) (pkF N 6) (pkF N 7) (pkF N 8) (pkF N 9), soW Z a N (ins N) (mvF N) (N 3), gW Z a (N 4) (N 5) (bkL N), pW Z a (N 6) (pkF N 0) (pkF N 1) (pkF N 2) (pkF N 3) (pkF N 4) (pkF N 5) (pkF N 6) (pkF N 7) (pkF N 8) (pkF N 9), xW Z x (a 0) (b 0) (a3 0) (b4 0) (c 0) (e 0) und hs ss us, rW Z b4 ef4 op4 ln4 nm4 qu4 qd4]) rfl ?_
  refine z_lnk ok _ (by omega) ?_
  refine z_perm (zf_perm (zix_permN (nn := 8) (ix := [3, 4, 5, 0, 1, 2, 6, 7]) (L := [soW Z a3 (zu N (10 + lk) 1) (ins (zu N (10 + lk) 1)) (mvF (zu N (10 + lk) 1)) ((zu N (10 + lk) 1) 3), gW Z a3 ((zu N (10 + lk) 1) 4) ((zu N (10 + lk) 1) 5) (bkL (zu N (10 + lk) 1)), pW Z a3 ((zu N (10 + lk) 1) 6) (pkF (zu N (10 + lk) 1) 0) (pkF (zu N (10 + lk) 1) 1) (pkF (zu N (10 + lk) 1) 2) (pkF (zu N (10 + lk) 1) 3) (pkF (zu N (10 + lk) 1) 4) (pkF (zu N (10 + lk) 1) 5) (pkF (zu N (10 + lk) 1) 6) (pkF (zu N (10 + lk) 1) 7) (pkF (zu N (10 + lk) 1) 8) (pkF (zu N (10 + lk) 1) 9), soW Z a N (ins N) (mvF N) (N 3), gW Z a (N 4) (N 5) (bkL N), pW Z a (N 6) (pkF N 0) (pkF N 1) (pkF N 2) (pkF N 3) (pkF N 4) (pkF N 5) (pkF N 6) (pkF N 7) (pkF N 8) (pkF N 9), xW Z x (a 0) (b 0) (a3 0) (b4 0) (c 0) (e 0) und hs ss us, rW Z b4 ef4 op4 ln4 nm4 qu4 qd4]) rfl (by decide +kernel))) ?_
  refine z_eq (ws' := zf [soW Z a N (ins N) (mvF N) (N 3), gW Z a (N 4) (N 5) (bkL N), pW Z a (N 6) (pkF N 0) (pkF N 1) (pkF N 2) (pkF N 3) (pkF N 4) (pkF N 5) (pkF N 6) (pkF N 7) (pkF N 8) (pkF N 9), soW Z a3 (zu N (10 + lk) 1) (ins (zu N (10 + lk) 1)) (mvF (zu N (10 + lk) 1)) ((zu N (10 + lk) 1) 3), gW Z a3 ((zu N (10 + lk) 1) 4) ((zu N (10 + lk) 1) 5) (bkL (zu N (10 + lk) 1)), pW Z a3 ((zu N (10 + lk) 1) 6) (pkF (zu N (10 + lk) 1) 0) (pkF (zu N (10 + lk) 1) 1) (pkF (zu N (10 + lk) 1) 2) (pkF (zu N (10 + lk) 1) 3) (pkF (zu N (10 + lk) 1) 4) (pkF (zu N (10 + lk) 1) 5) (pkF (zu N (10 + lk) 1) 6) (pkF (zu N (10 + lk) 1) 7) (pkF (zu N (10 + lk) 1) 8) (pkF (zu N (10 + lk) 1) 9), xW Z x (a 0) (b 0) (a3 0) (b4 0) (c 0) (e 0) und hs ss us, rW Z b4 ef4 op4 ln4 nm4 qu4 qd4]) rfl ?_
  refine z_aload_n ok dX6_pairsWithout_23 rfl ?_
  refine z_get (v := .ref (b4 0)) ok zc6 32 rfl 3 (by decide) qf_RX6_26 rfl rfl dX6_pairsWithout_24 ?_
  refine z_aload_n ok dX6_pairsWithout_27 rfl ?_
  refine z_get (v := .ref (a3 0)) ok zc6 32 rfl 2 (by decide) qf_RX6_23 rfl rfl dX6_pairsWithout_28 ?_
  refine z_get (v := .ref (a3 2)) ok zc5 16 rfl 1 (by decide) qf_RX6_88 rfl rfl dX6_pairsWithout_31 ?_
  refine z_aload_n ok dX6_pairsWithout_34 rfl ?_
  refine z_get (v := .ref (a3 0)) ok zc6 32 rfl 2 (by decide) qf_RX6_23 rfl rfl dX6_pairsWithout_35 ?_
  refine z_get (v := .ref (a3 1)) ok zc5 16 rfl 0 (by decide) qf_RX6_71 rfl rfl dX6_pairsWithout_38 ?_
  refine z_iconst ok dX6_pairsWithout_41 ?_
  refine z_iald (f := zu N (10 + lk) 1) ok 17 rfl dX6_pairsWithout_42 (by omega) (by decide) ?_
  refine z_callVvg ok (fun l => c_X4_learn  (hwt)) zm_X4_learn zv_X4_learn qm_RX6_257 dX6_pairsWithout_43 (by decide) (by decide) rfl rfl (Nat.le_of_ble_eq_true rfl) (q0 := 0) rfl rfl rfl (L := [soW Z a N (ins N) (mvF N) (N 3), gW Z a (N 4) (N 5) (bkL N), pW Z a (N 6) (pkF N 0) (pkF N 1) (pkF N 2) (pkF N 3) (pkF N 4) (pkF N 5) (pkF N 6) (pkF N 7) (pkF N 8) (pkF N 9), soW Z a3 (zu N (10 + lk) 1) (ins (zu N (10 + lk) 1)) (mvF (zu N (10 + lk) 1)) ((zu N (10 + lk) 1) 3), gW Z a3 ((zu N (10 + lk) 1) 4) ((zu N (10 + lk) 1) 5) (bkL (zu N (10 + lk) 1)), pW Z a3 ((zu N (10 + lk) 1) 6) (pkF (zu N (10 + lk) 1) 0) (pkF (zu N (10 + lk) 1) 1) (pkF (zu N (10 + lk) 1) 2) (pkF (zu N (10 + lk) 1) 3) (pkF (zu N (10 + lk) 1) 4) (pkF (zu N (10 + lk) 1) 5) (pkF (zu N (10 + lk) 1) 6) (pkF (zu N (10 + lk) 1) 7) (pkF (zu N (10 + lk) 1) 8) (pkF (zu N (10 + lk) 1) 9), xW Z x (a 0) (b 0) (a3 0) (b4 0) (c 0) (e 0) und hs ss us, rW Z b4 ef4 op4 ln4 nm4 qu4 qd4]) (Lr := [soW Z a N (ins N) (mvF N) (N 3), gW Z a (N 4) (N 5) (bkL N), pW Z a (N 6) (pkF N 0) (pkF N 1) (pkF N 2) (pkF N 3) (pkF N 4) (pkF N 5) (pkF N 6) (pkF N 7) (pkF N 8) (pkF N 9), soW Z a3 (zu N (10 + lk) 1) (ins (zu N (10 + lk) 1)) (mvF (zu N (10 + lk) 1)) ((zu N (10 + lk) 1) 3), pW Z a3 ((zu N (10 + lk) 1) 6) (pkF (zu N (10 + lk) 1) 0) (pkF (zu N (10 + lk) 1) 1) (pkF (zu N (10 + lk) 1) 2) (pkF (zu N (10 + lk) 1) 3) (pkF (zu N (10 + lk) 1) 4) (pkF (zu N (10 + lk) 1) 5) (pkF (zu N (10 + lk) 1) 6) (pkF (zu N (10 + lk) 1) 7) (pkF (zu N (10 + lk) 1) 8) (pkF (zu N (10 + lk) 1) 9), xW Z x (a 0) (b 0) (a3 0) (b4 0) (c 0) (e 0) und hs ss us]) 8 [7, 4, 0, 1, 2, 3, 5, 6] [2, 3, 4, 5, 1, 6, 7, 0] rfl (by decide +kernel) rfl (fun _ => rfl) (by decide +kernel) (fun u43 hp43 => ?_)
  obtain ⟨ro_43, ln_43, nm_43, qu_43, qd_43⟩ := u43
  try dsimp only at hp43
  refine z_eq (ws' := zf [soW Z a N (ins N) (mvF N) (N 3), gW Z a (N 4) (N 5) (bkL N), pW Z a (N 6) (pkF N 0) (pkF N 1) (pkF N 2) (pkF N 3) (pkF N 4) (pkF N 5) (pkF N 6) (pkF N 7) (pkF N 8) (pkF N 9), soW Z a3 (zu N (10 + lk) 1) (ins (zu N (10 + lk) 1)) (mvF (zu N (10 + lk) 1)) ((zu N (10 + lk) 1) 3), gW Z a3 ((zu N (10 + lk) 1) 4) ((zu N (10 + lk) 1) 5) (bkL (zu N (10 + lk) 1)), pW Z a3 ((zu N (10 + lk) 1) 6) (pkF (zu N (10 + lk) 1) 0) (pkF (zu N (10 + lk) 1) 1) (pkF (zu N (10 + lk) 1) 2) (pkF (zu N (10 + lk) 1) 3) (pkF (zu N (10 + lk) 1) 4) (pkF (zu N (10 + lk) 1) 5) (pkF (zu N (10 + lk) 1) 6) (pkF (zu N (10 + lk) 1) 7) (pkF (zu N (10 + lk) 1) 8) (pkF (zu N (10 + lk) 1) 9), xW Z x (a 0) (b 0) (a3 0) (b4 0) (c 0) (e 0) und hs ss us, rW Z b4 ro_43.1 ro_43.2 ln_43 nm_43 qu_43 qd_43]) rfl ?_
  refine z_aload_n ok dX6_pairsWithout_46 rfl ?_
  refine z_get (v := .ref (a3 0)) ok zc6 32 rfl 2 (by decide) qf_RX6_23 rfl rfl dX6_pairsWithout_47 ?_
  refine z_aload_n ok dX6_pairsWithout_50 rfl ?_
  refine z_get (v := .ref (b4 0)) ok zc6 32 rfl 3 (by decide) qf_RX6_26 rfl rfl dX6_pairsWithout_51 ?_
  refine z_callVig ok (fun l => c_X5_connectedPairs  (hwt) (hp43)) zm_X5_connectedPairs zv_X5_connectedPairs qm_RX6_208 dX6_pairsWithout_54 (by decide) (by decide) rfl rfl (Nat.le_of_ble_eq_true rfl) (q0 := 0) rfl rfl rfl (L := [soW Z a N (ins N) (mvF N) (N 3), gW Z a (N 4) (N 5) (bkL N), pW Z a (N 6) (pkF N 0) (pkF N 1) (pkF N 2) (pkF N 3) (pkF N 4) (pkF N 5) (pkF N 6) (pkF N 7) (pkF N 8) (pkF N 9), soW Z a3 (zu N (10 + lk) 1) (ins (zu N (10 + lk) 1)) (mvF (zu N (10 + lk) 1)) ((zu N (10 + lk) 1) 3), gW Z a3 ((zu N (10 + lk) 1) 4) ((zu N (10 + lk) 1) 5) (bkL (zu N (10 + lk) 1)), pW Z a3 ((zu N (10 + lk) 1) 6) (pkF (zu N (10 + lk) 1) 0) (pkF (zu N (10 + lk) 1) 1) (pkF (zu N (10 + lk) 1) 2) (pkF (zu N (10 + lk) 1) 3) (pkF (zu N (10 + lk) 1) 4) (pkF (zu N (10 + lk) 1) 5) (pkF (zu N (10 + lk) 1) 6) (pkF (zu N (10 + lk) 1) 7) (pkF (zu N (10 + lk) 1) 8) (pkF (zu N (10 + lk) 1) 9), xW Z x (a 0) (b 0) (a3 0) (b4 0) (c 0) (e 0) und hs ss us, rW Z b4 ro_43.1 ro_43.2 ln_43 nm_43 qu_43 qd_43]) (Lr := [soW Z a N (ins N) (mvF N) (N 3), gW Z a (N 4) (N 5) (bkL N), pW Z a (N 6) (pkF N 0) (pkF N 1) (pkF N 2) (pkF N 3) (pkF N 4) (pkF N 5) (pkF N 6) (pkF N 7) (pkF N 8) (pkF N 9), pW Z a3 ((zu N (10 + lk) 1) 6) (pkF (zu N (10 + lk) 1) 0) (pkF (zu N (10 + lk) 1) 1) (pkF (zu N (10 + lk) 1) 2) (pkF (zu N (10 + lk) 1) 3) (pkF (zu N (10 + lk) 1) 4) (pkF (zu N (10 + lk) 1) 5) (pkF (zu N (10 + lk) 1) 6) (pkF (zu N (10 + lk) 1) 7) (pkF (zu N (10 + lk) 1) 8) (pkF (zu N (10 + lk) 1) 9), xW Z x (a 0) (b 0) (a3 0) (b4 0) (c 0) (e 0) und hs ss us]) 8 [3, 4, 7, 0, 1, 2, 5, 6] [3, 4, 5, 0, 1, 6, 7, 2] rfl (by decide +kernel) rfl (fun _ => rfl) (by decide +kernel) (fun ρ _ hρ => ?_)
  subst hρ
  refine z_eq (ws' := zf [soW Z a N (ins N) (mvF N) (N 3), gW Z a (N 4) (N 5) (bkL N), pW Z a (N 6) (pkF N 0) (pkF N 1) (pkF N 2) (pkF N 3) (pkF N 4) (pkF N 5) (pkF N 6) (pkF N 7) (pkF N 8) (pkF N 9), soW Z a3 (zu N (10 + lk) 1) (ins (zu N (10 + lk) 1)) (mvF (zu N (10 + lk) 1)) ((zu N (10 + lk) 1) 3), gW Z a3 ((zu N (10 + lk) 1) 4) ((zu N (10 + lk) 1) 5) (bkL (zu N (10 + lk) 1)), pW Z a3 ((zu N (10 + lk) 1) 6) (pkF (zu N (10 + lk) 1) 0) (pkF (zu N (10 + lk) 1) 1) (pkF (zu N (10 + lk) 1) 2) (pkF (zu N (10 + lk) 1) 3) (pkF (zu N (10 + lk) 1) 4) (pkF (zu N (10 + lk) 1) 5) (pkF (zu N (10 + lk) 1) 6) (pkF (zu N (10 + lk) 1) 7) (pkF (zu N (10 + lk) 1) 8) (pkF (zu N (10 + lk) 1) 9), xW Z x (a 0) (b 0) (a3 0) (b4 0) (c 0) (e 0) und hs ss us, rW Z b4 ro_43.1 ro_43.2 ln_43 nm_43 qu_43 qd_43]) rfl ?_
  exact fin (prs (zu N (10 + lk) 1)) ((ro_43.1, ro_43.2), ln_43, nm_43, qu_43, qd_43) 57 _ _ _ dX6_pairsWithout_57 (trivial) (rfl) (by decide) (by decide)
set_option maxHeartbeats 4000000 in
set_option maxRecDepth 20000 in
theorem c_X6_findWorstLink {l : Launch} {Z : zZ} {x a b a3 b4 c e : Nat → Nat} {und : Int} {hs ss : List Nat} {us : Int → Int} {N : Int → Int} {K : Int → Int} {ef4 : Int} {op4 ln4 nm4 qu4 : Int → Int} {qd4 : Int} (hw : wf N) : zI (T := (Int → Int) × (Int × (Int → Int)) × (Int → Int) × (Int → Int) × (Int → Int) × Int) l yX6_findWorstLink (Cond.code yX6_findWorstLink cX6_findWorstLink 5 (some .int) :: wsL_law) ({ frames := 5, cells := 0, slots := 0, locals := 123 } : Room) Z [.ref (x 0)] (zf [soW Z a N (ins N) (mvF N) (N 3), gW Z a (N 4) (N 5) (bkL N), pW Z a (N 6) (pkF N 0) (pkF N 1) (pkF N 2) (pkF N 3) (pkF N 4) (pkF N 5) (pkF N 6) (pkF N 7) (pkF N 8) (pkF N 9), soW Z a3 K (ins K) (mvF K) (K 3), gW Z a3 (K 4) (K 5) (bkL K), pW Z a3 (K 6) (pkF K 0) (pkF K 1) (pkF K 2) (pkF K 3) (pkF K 4) (pkF K 5) (pkF K 6) (pkF K 7) (pkF K 8) (pkF K 9), xW Z x (a 0) (b 0) (a3 0) (b4 0) (c 0) (e 0) und hs ss us, rW Z b4 ef4 op4 ln4 nm4 qu4 qd4]) (fun u => zf [soW Z a N (ins N) (mvF N) (N 3), gW Z a (N 4) (N 5) (bkL N), pW Z a (N 6) (pkF N 0) (pkF N 1) (pkF N 2) (pkF N 3) (pkF N 4) (pkF N 5) (pkF N 6) (pkF N 7) (pkF N 8) (pkF N 9), soW Z a3 u.1 (ins u.1) (mvF u.1) (u.1 3), gW Z a3 (u.1 4) (u.1 5) (bkL u.1), pW Z a3 (u.1 6) (pkF u.1 0) (pkF u.1 1) (pkF u.1 2) (pkF u.1 3) (pkF u.1 4) (pkF u.1 5) (pkF u.1 6) (pkF u.1 7) (pkF u.1 8) (pkF u.1 9), xW Z x (a 0) (b 0) (a3 0) (b4 0) (c 0) (e 0) und hs ss us, rW Z b4 u.2.1.1 u.2.1.2 u.2.2.1 u.2.2.2.1 u.2.2.2.2.1 u.2.2.2.2.2]) (fun ρ u => ρ = (wlF N (2 * (N 4 * N 5)).toNat).1) := by
  refine zI_of (C := RX6) (by decide +kernel) rfl (Nat.le_of_ble_eq_true rfl) (fun _ => True) znI (fun X ok fin => ?_)
  obtain ⟨w0, w1, w2, hc, hr, w6, wl, wp⟩ := id hw
  have hcr := cr_rng hc hr
  refine z_lsub ok (lv' := [(0, .ref (x 0))]) [0] rfl ?_
  refine z_iconst ok dX6_findWorstLink_0 ?_
  refine z_istore_n (lv' := [(1, .int (iI (-1))), (0, .ref (x 0))]) ok dX6_findWorstLink_1 (by decide) rfl ?_
  refine z_iconst ok dX6_findWorstLink_2 ?_
  refine z_istore_n (lv' := [(2, .int (iI 0)), (1, .int (iI (-1))), (0, .ref (x 0))]) ok dX6_findWorstLink_3 (by decide) rfl ?_
  refine z_iconst ok dX6_findWorstLink_4 ?_
  refine z_istore_n (lv' := [(3, .int (iI 0)), (2, .int (iI 0)), (1, .int (iI (-1))), (0, .ref (x 0))]) ok dX6_findWorstLink_5 (by decide) rfl ?_
  have L6 : ∀ (fuel : Nat) (k wo fe : Int) (K1 : Int → Int) (ef5 : Int) (op5 ln5 nm5 qu5 : Int → Int) (qd5 : Int), (0 ≤ k) → (k ≤ 2 * (N 4 * N 5)) → (wo = (wlF N k.toNat).1) → (fe = (wlF N k.toNat).2) → (2 * (N 4 * N 5) - k).toNat < fuel → zV X 0 0 (zf [soW Z a N (ins N) (mvF N) (N 3), gW Z a (N 4) (N 5) (bkL N), pW Z a (N 6) (pkF N 0) (pkF N 1) (pkF N 2) (pkF N 3) (pkF N 4) (pkF N 5) (pkF N 6) (pkF N 7) (pkF N 8) (pkF N 9), soW Z a3 K1 (ins K1) (mvF K1) (K1 3), gW Z a3 (K1 4) (K1 5) (bkL K1), pW Z a3 (K1 6) (pkF K1 0) (pkF K1 1) (pkF K1 2) (pkF K1 3) (pkF K1 4) (pkF K1 5) (pkF K1 6) (pkF K1 7) (pkF K1 8) (pkF K1 9), xW Z x (a 0) (b 0) (a3 0) (b4 0) (c 0) (e 0) und hs ss us, rW Z b4 ef5 op5 ln5 nm5 qu5 qd5]) 6 [(0, .ref (x 0)), (1, .int (iI wo)), (2, .int (iI fe)), (3, .int (iI k))] [] := by
    intro fuel
    induction fuel with
    | zero => intro k wo fe K1 ef5 op5 ln5 nm5 qu5 qd5 h6_0 h6_1 h6_2 h6_3 hf; exact absurd hf (Nat.not_lt_zero _)
    | succ fuel ih6 =>
      intro k wo fe K1 ef5 op5 ln5 nm5 qu5 qd5 h6_0 h6_1 h6_2 h6_3 hf
      have hwr := wlF_rng hw k.toNat (by omega)
      have hws := wlF_s (N := N) h6_0
      refine z_iload_n ok dX6_findWorstLink_6 rfl ?_
      refine z_iconst ok dX6_findWorstLink_7 ?_
      refine z_aload_n ok dX6_findWorstLink_8 rfl ?_
      refine z_get (v := .ref (a 0)) ok zc6 32 rfl 0 (by decide) qf_RX6_12 rfl rfl dX6_findWorstLink_9 ?_
      refine z_get (v := .ref (a 2)) ok zc5 0 rfl 1 (by decide) qf_RX6_88 rfl rfl dX6_findWorstLink_12 ?_
      refine z_callVig ok (fun l => c_X0_boxes  ) zm_X0_boxes zv_X0_boxes qm_RX6_98 dX6_findWorstLink_15 (by decide) (by decide) rfl rfl (Nat.le_of_ble_eq_true rfl) (q0 := 0) rfl rfl rfl (L := [soW Z a N (ins N) (mvF N) (N 3), gW Z a (N 4) (N 5) (bkL N), pW Z a (N 6) (pkF N 0) (pkF N 1) (pkF N 2) (pkF N 3) (pkF N 4) (pkF N 5) (pkF N 6) (pkF N 7) (pkF N 8) (pkF N 9), soW Z a3 K1 (ins K1) (mvF K1) (K1 3), gW Z a3 (K1 4) (K1 5) (bkL K1), pW Z a3 (K1 6) (pkF K1 0) (pkF K1 1) (pkF K1 2) (pkF K1 3) (pkF K1 4) (pkF K1 5) (pkF K1 6) (pkF K1 7) (pkF K1 8) (pkF K1 9), xW Z x (a 0) (b 0) (a3 0) (b4 0) (c 0) (e 0) und hs ss us, rW Z b4 ef5 op5 ln5 nm5 qu5 qd5]) (Lr := [soW Z a N (ins N) (mvF N) (N 3), pW Z a (N 6) (pkF N 0) (pkF N 1) (pkF N 2) (pkF N 3) (pkF N 4) (pkF N 5) (pkF N 6) (pkF N 7) (pkF N 8) (pkF N 9), soW Z a3 K1 (ins K1) (mvF K1) (K1 3), gW Z a3 (K1 4) (K1 5) (bkL K1), pW Z a3 (K1 6) (pkF K1 0) (pkF K1 1) (pkF K1 2) (pkF K1 3) (pkF K1 4) (pkF K1 5) (pkF K1 6) (pkF K1 7) (pkF K1 8) (pkF K1 9), xW Z x (a 0) (b 0) (a3 0) (b4 0) (c 0) (e 0) und hs ss us, rW Z b4 ef5 op5 ln5 nm5 qu5 qd5]) 8 [1, 0, 2, 3, 4, 5, 6, 7] [1, 0, 2, 3, 4, 5, 6, 7] rfl (by decide +kernel) rfl (fun _ => rfl) (by decide +kernel) (fun ρ _ hρ => ?_)
      subst hρ
      refine z_eq (ws' := zf [soW Z a N (ins N) (mvF N) (N 3), gW Z a (N 4) (N 5) (bkL N), pW Z a (N 6) (pkF N 0) (pkF N 1) (pkF N 2) (pkF N 3) (pkF N 4) (pkF N 5) (pkF N 6) (pkF N 7) (pkF N 8) (pkF N 9), soW Z a3 K1 (ins K1) (mvF K1) (K1 3), gW Z a3 (K1 4) (K1 5) (bkL K1), pW Z a3 (K1 6) (pkF K1 0) (pkF K1 1) (pkF K1 2) (pkF K1 3) (pkF K1 4) (pkF K1 5) (pkF K1 6) (pkF K1 7) (pkF K1 8) (pkF K1 9), xW Z x (a 0) (b 0) (a3 0) (b4 0) (c 0) (e 0) und hs ss us, rW Z b4 ef5 op5 ln5 nm5 qu5 qd5]) rfl ?_
      refine z_imul ok dX6_findWorstLink_18 ?_
      refine z_icmp_ge (tgt := 79) ok dX6_findWorstLink_19 (by decide) (by omega) (by omega) (fun c19 => ?_) (fun c19 => ?_)
      · -- t
        refine z_iload_n ok dX6_findWorstLink_79 rfl ?_
        exact fin wo (K1, (ef5, op5), ln5, nm5, qu5, qd5) 80 _ _ _ dX6_findWorstLink_80 (trivial) (by rw [h6_2, show k = 2 * (N 4 * N 5) by omega]) (by decide) (by decide)
      · -- f
        refine z_aload_n ok dX6_findWorstLink_22 rfl ?_
        refine z_get (v := .ref (a 0)) ok zc6 32 rfl 0 (by decide) qf_RX6_12 rfl rfl dX6_findWorstLink_23 ?_
        refine z_get (v := .ref (a 2)) ok zc5 0 rfl 1 (by decide) qf_RX6_88 rfl rfl dX6_findWorstLink_26 ?_
        refine z_iload_n ok dX6_findWorstLink_29 rfl ?_
        refine z_callVig ok (fun l => c_X0_isLink  (hw) (by omega)) zm_X0_isLink zv_X0_isLink qm_RX6_283 dX6_findWorstLink_30 (by decide) (by decide) rfl rfl (Nat.le_of_ble_eq_true rfl) (q0 := 0) rfl rfl rfl (L := [soW Z a N (ins N) (mvF N) (N 3), gW Z a (N 4) (N 5) (bkL N), pW Z a (N 6) (pkF N 0) (pkF N 1) (pkF N 2) (pkF N 3) (pkF N 4) (pkF N 5) (pkF N 6) (pkF N 7) (pkF N 8) (pkF N 9), soW Z a3 K1 (ins K1) (mvF K1) (K1 3), gW Z a3 (K1 4) (K1 5) (bkL K1), pW Z a3 (K1 6) (pkF K1 0) (pkF K1 1) (pkF K1 2) (pkF K1 3) (pkF K1 4) (pkF K1 5) (pkF K1 6) (pkF K1 7) (pkF K1 8) (pkF K1 9), xW Z x (a 0) (b 0) (a3 0) (b4 0) (c 0) (e 0) und hs ss us, rW Z b4 ef5 op5 ln5 nm5 qu5 qd5]) (Lr := [soW Z a N (ins N) (mvF N) (N 3), pW Z a (N 6) (pkF N 0) (pkF N 1) (pkF N 2) (pkF N 3) (pkF N 4) (pkF N 5) (pkF N 6) (pkF N 7) (pkF N 8) (pkF N 9), soW Z a3 K1 (ins K1) (mvF K1) (K1 3), gW Z a3 (K1 4) (K1 5) (bkL K1), pW Z a3 (K1 6) (pkF K1 0) (pkF K1 1) (pkF K1 2) (pkF K1 3) (pkF K1 4) (pkF K1 5) (pkF K1 6) (pkF K1 7) (pkF K1 8) (pkF K1 9), xW Z x (a 0) (b 0) (a3 0) (b4 0) (c 0) (e 0) und hs ss us, rW Z b4 ef5 op5 ln5 nm5 qu5 qd5]) 8 [1, 0, 2, 3, 4, 5, 6, 7] [1, 0, 2, 3, 4, 5, 6, 7] rfl (by decide +kernel) rfl (fun _ => rfl) (by decide +kernel) (fun ρ _ hρ => ?_)
        subst hρ
        refine z_eq (ws' := zf [soW Z a N (ins N) (mvF N) (N 3), gW Z a (N 4) (N 5) (bkL N), pW Z a (N 6) (pkF N 0) (pkF N 1) (pkF N 2) (pkF N 3) (pkF N 4) (pkF N 5) (pkF N 6) (pkF N 7) (pkF N 8) (pkF N 9), soW Z a3 K1 (ins K1) (mvF K1) (K1 3), gW Z a3 (K1 4) (K1 5) (bkL K1), pW Z a3 (K1 6) (pkF K1 0) (pkF K1 1) (pkF K1 2) (pkF K1 3) (pkF K1 4) (pkF K1 5) (pkF K1 6) (pkF K1 7) (pkF K1 8) (pkF K1 9), xW Z x (a 0) (b 0) (a3 0) (b4 0) (c 0) (e 0) und hs ss us, rW Z b4 ef5 op5 ln5 nm5 qu5 qd5]) rfl ?_
        refine z_ifb_eq (tgt := 73) ok dX6_findWorstLink_33 (by decide) (fun c33 => ?_) (fun c33 => ?_)
        · -- t
          refine z_iinc (lv' := [(3, .int (iI (k + 1))), (0, .ref (x 0)), (1, .int (iI wo)), (2, .int (iI fe))]) ok dX6_findWorstLink_73 3 rfl (by decide) rfl ?_
          refine z_goto (tgt := 6) ok dX6_findWorstLink_76 (by decide) ?_
          refine z_lsub ok (lv' := [(0, .ref (x 0)), (1, .int (iI wo)), (2, .int (iI fe)), (3, .int (iI (k + 1)))]) [1, 2, 3, 0] rfl ?_
          exact ih6 _ _ _ K1 _ _ _ _ _ _ (by omega) (by omega) (by rw [hws]; first | (rw [wlS_no (fun z => c33 z.1)]; exact h6_2) | (rw [wlS_no (fun z => c47 (by rw [← hj]; exact z.2))]; exact h6_2) | (rw [wlS_yes hop, if_pos (by omega)]; done) | (rw [wlS_yes hop, if_neg (by omega)]; exact h6_2)) (by rw [hws]; first | (rw [wlS_no (fun z => c33 z.1)]; exact h6_3) | (rw [wlS_no (fun z => c47 (by rw [← hj]; exact z.2))]; exact h6_3) | (rw [wlS_yes hop, if_pos (by omega)]; done) | (rw [wlS_yes hop, if_neg (by omega)]; exact h6_3)) (by omega)
        · -- f
          have hj : lkm N (k / 2) (2 * (k % 2)) = 10 + k := by unfold lkm; (repeat' split) <;> omega
          have hbit := wl (10 + k) (by omega) (by omega)
          refine z_aload_n ok dX6_findWorstLink_36 rfl ?_
          refine z_get (v := .ref (a 0)) ok zc6 32 rfl 0 (by decide) qf_RX6_12 rfl rfl dX6_findWorstLink_37 ?_
          refine z_get (v := .ref (a 2)) ok zc5 0 rfl 1 (by decide) qf_RX6_88 rfl rfl dX6_findWorstLink_40 ?_
          refine z_iload_n ok dX6_findWorstLink_43 rfl ?_
          refine z_callVig ok (fun l => c_X0_isWhole  (by omega) (by omega)) zm_X0_isWhole zv_X0_isWhole qm_RX6_264 dX6_findWorstLink_44 (by decide) (by decide) rfl rfl (Nat.le_of_ble_eq_true rfl) (q0 := 0) rfl rfl rfl (L := [soW Z a N (ins N) (mvF N) (N 3), gW Z a (N 4) (N 5) (bkL N), pW Z a (N 6) (pkF N 0) (pkF N 1) (pkF N 2) (pkF N 3) (pkF N 4) (pkF N 5) (pkF N 6) (pkF N 7) (pkF N 8) (pkF N 9), soW Z a3 K1 (ins K1) (mvF K1) (K1 3), gW Z a3 (K1 4) (K1 5) (bkL K1), pW Z a3 (K1 6) (pkF K1 0) (pkF K1 1) (pkF K1 2) (pkF K1 3) (pkF K1 4) (pkF K1 5) (pkF K1 6) (pkF K1 7) (pkF K1 8) (pkF K1 9), xW Z x (a 0) (b 0) (a3 0) (b4 0) (c 0) (e 0) und hs ss us, rW Z b4 ef5 op5 ln5 nm5 qu5 qd5]) (Lr := [soW Z a N (ins N) (mvF N) (N 3), pW Z a (N 6) (pkF N 0) (pkF N 1) (pkF N 2) (pkF N 3) (pkF N 4) (pkF N 5) (pkF N 6) (pkF N 7) (pkF N 8) (pkF N 9), soW Z a3 K1 (ins K1) (mvF K1) (K1 3), gW Z a3 (K1 4) (K1 5) (bkL K1), pW Z a3 (K1 6) (pkF K1 0) (pkF K1 1) (pkF K1 2) (pkF K1 3) (pkF K1 4) (pkF K1 5) (pkF K1 6) (pkF K1 7) (pkF K1 8) (pkF K1 9), xW Z x (a 0) (b 0) (a3 0) (b4 0) (c 0) (e 0) und hs ss us, rW Z b4 ef5 op5 ln5 nm5 qu5 qd5]) 8 [1, 0, 2, 3, 4, 5, 6, 7] [1, 0, 2, 3, 4, 5, 6, 7] rfl (by decide +kernel) rfl (fun _ => rfl) (by decide +kernel) (fun ρ _ hρ => ?_)
          subst hρ
          refine z_eq (ws' := zf [soW Z a N (ins N) (mvF N) (N 3), gW Z a (N 4) (N 5) (bkL N), pW Z a (N 6) (pkF N 0) (pkF N 1) (pkF N 2) (pkF N 3) (pkF N 4) (pkF N 5) (pkF N 6) (pkF N 7) (pkF N 8) (pkF N 9), soW Z a3 K1 (ins K1) (mvF K1) (K1 3), gW Z a3 (K1 4) (K1 5) (bkL K1), pW Z a3 (K1 6) (pkF K1 0) (pkF K1 1) (pkF K1 2) (pkF K1 3) (pkF K1 4) (pkF K1 5) (pkF K1 6) (pkF K1 7) (pkF K1 8) (pkF K1 9), xW Z x (a 0) (b 0) (a3 0) (b4 0) (c 0) (e 0) und hs ss us, rW Z b4 ef5 op5 ln5 nm5 qu5 qd5]) rfl ?_
          refine z_ifb_eq (tgt := 73) ok dX6_findWorstLink_47 (by decide) (fun c47 => ?_) (fun c47 => ?_)
          · -- t
            refine z_iinc (lv' := [(3, .int (iI (k + 1))), (0, .ref (x 0)), (1, .int (iI wo)), (2, .int (iI fe))]) ok dX6_findWorstLink_73 3 rfl (by decide) rfl ?_
            refine z_goto (tgt := 6) ok dX6_findWorstLink_76 (by decide) ?_
            refine z_lsub ok (lv' := [(0, .ref (x 0)), (1, .int (iI wo)), (2, .int (iI fe)), (3, .int (iI (k + 1)))]) [1, 2, 3, 0] rfl ?_
            exact ih6 _ _ _ K1 _ _ _ _ _ _ (by omega) (by omega) (by rw [hws]; first | (rw [wlS_no (fun z => c33 z.1)]; exact h6_2) | (rw [wlS_no (fun z => c47 (by rw [← hj]; exact z.2))]; exact h6_2) | (rw [wlS_yes hop, if_pos (by omega)]; done) | (rw [wlS_yes hop, if_neg (by omega)]; exact h6_2)) (by rw [hws]; first | (rw [wlS_no (fun z => c33 z.1)]; exact h6_3) | (rw [wlS_no (fun z => c47 (by rw [← hj]; exact z.2))]; exact h6_3) | (rw [wlS_yes hop, if_pos (by omega)]; done) | (rw [wlS_yes hop, if_neg (by omega)]; exact h6_3)) (by omega)
          · -- f
            have hop : opn N (k / 2) (2 * (k % 2)) := ⟨c33, by rw [hj]; exact c47⟩
            have hpb : 0 ≤ prB N k ∧ prB N k ≤ 625 := prs_rng (wf_lk hw (by omega) (by omega))
            refine z_aload_n ok dX6_findWorstLink_50 rfl ?_
            refine z_iload_n ok dX6_findWorstLink_51 rfl ?_
            refine z_callVi0 ok (fun l => c_X6_pairsWithout  (hw) (by omega)) zm_X6_pairsWithout zv_X6_pairsWithout qm_RX6_221 dX6_findWorstLink_52 (by decide) (by decide) rfl rfl (Nat.le_of_ble_eq_true rfl) (q0 := 32) rfl rfl rfl (fun r52 u52 hp52 => ?_)
            obtain ⟨ro_52, ln_52, nm_52, qu_52, qd_52⟩ := u52
            try dsimp only at hp52
            obtain ⟨rfl⟩ := hp52
            refine z_eq (ws' := zf [soW Z a N (ins N) (mvF N) (N 3), gW Z a (N 4) (N 5) (bkL N), pW Z a (N 6) (pkF N 0) (pkF N 1) (pkF N 2) (pkF N 3) (pkF N 4) (pkF N 5) (pkF N 6) (pkF N 7) (pkF N 8) (pkF N 9), soW Z a3 (zu N (10 + k) 1) (ins (zu N (10 + k) 1)) (mvF (zu N (10 + k) 1)) ((zu N (10 + k) 1) 3), gW Z a3 ((zu N (10 + k) 1) 4) ((zu N (10 + k) 1) 5) (bkL (zu N (10 + k) 1)), pW Z a3 ((zu N (10 + k) 1) 6) (pkF (zu N (10 + k) 1) 0) (pkF (zu N (10 + k) 1) 1) (pkF (zu N (10 + k) 1) 2) (pkF (zu N (10 + k) 1) 3) (pkF (zu N (10 + k) 1) 4) (pkF (zu N (10 + k) 1) 5) (pkF (zu N (10 + k) 1) 6) (pkF (zu N (10 + k) 1) 7) (pkF (zu N (10 + k) 1) 8) (pkF (zu N (10 + k) 1) 9), xW Z x (a 0) (b 0) (a3 0) (b4 0) (c 0) (e 0) und hs ss us, rW Z b4 ro_52.1 ro_52.2 ln_52 nm_52 qu_52 qd_52]) rfl ?_
            refine z_istore (lv' := [(4, .int (iI (prB N k))), (0, .ref (x 0)), (1, .int (iI wo)), (2, .int (iI fe)), (3, .int (iI k))]) ok dX6_findWorstLink_55 (by decide) rfl ?_
            refine z_iload_n ok dX6_findWorstLink_57 rfl ?_
            refine z_iconst ok dX6_findWorstLink_58 ?_
            refine z_icmp_eq (tgt := 68) ok dX6_findWorstLink_59 (by decide) (by omega) (by omega) (fun c59 => ?_) (fun c59 => ?_)
            · -- t
              refine z_iload_n ok dX6_findWorstLink_68 rfl ?_
              refine z_istore_n (lv' := [(1, .int (iI k)), (4, .int (iI (prB N k))), (0, .ref (x 0)), (2, .int (iI fe)), (3, .int (iI k))]) ok dX6_findWorstLink_69 (by decide) rfl ?_
              refine z_iload ok dX6_findWorstLink_70 rfl ?_
              refine z_istore_n (lv' := [(2, .int (iI (prB N k))), (1, .int (iI k)), (4, .int (iI (prB N k))), (0, .ref (x 0)), (3, .int (iI k))]) ok dX6_findWorstLink_72 (by decide) rfl ?_
              refine z_iinc (lv' := [(3, .int (iI (k + 1))), (2, .int (iI (prB N k))), (1, .int (iI k)), (4, .int (iI (prB N k))), (0, .ref (x 0))]) ok dX6_findWorstLink_73 4 rfl (by decide) rfl ?_
              refine z_goto (tgt := 6) ok dX6_findWorstLink_76 (by decide) ?_
              refine z_lsub ok (lv' := [(0, .ref (x 0)), (1, .int (iI k)), (2, .int (iI (prB N k))), (3, .int (iI (k + 1)))]) [4, 2, 1, 0] rfl ?_
              exact ih6 _ _ _ (zu N (10 + k) 1) _ _ _ _ _ _ (by omega) (by omega) (by rw [hws]; first | (rw [wlS_no (fun z => c33 z.1)]; exact h6_2) | (rw [wlS_no (fun z => c47 (by rw [← hj]; exact z.2))]; exact h6_2) | (rw [wlS_yes hop, if_pos (by omega)]; done) | (rw [wlS_yes hop, if_neg (by omega)]; exact h6_2)) (by rw [hws]; first | (rw [wlS_no (fun z => c33 z.1)]; exact h6_3) | (rw [wlS_no (fun z => c47 (by rw [← hj]; exact z.2))]; exact h6_3) | (rw [wlS_yes hop, if_pos (by omega)]; done) | (rw [wlS_yes hop, if_neg (by omega)]; exact h6_3)) (by omega)
            · -- f
              refine z_iload ok dX6_findWorstLink_62 rfl ?_
              refine z_iload_n ok dX6_findWorstLink_64 rfl ?_
              refine z_icmp_ge (tgt := 73) ok dX6_findWorstLink_65 (by decide) (by omega) (by omega) (fun c65 => ?_) (fun c65 => ?_)
              · -- t
                refine z_iinc (lv' := [(3, .int (iI (k + 1))), (4, .int (iI (prB N k))), (0, .ref (x 0)), (1, .int (iI wo)), (2, .int (iI fe))]) ok dX6_findWorstLink_73 4 rfl (by decide) rfl ?_
                refine z_goto (tgt := 6) ok dX6_findWorstLink_76 (by decide) ?_
                refine z_lsub ok (lv' := [(0, .ref (x 0)), (1, .int (iI wo)), (2, .int (iI fe)), (3, .int (iI (k + 1)))]) [2, 3, 4, 0] rfl ?_
                exact ih6 _ _ _ (zu N (10 + k) 1) _ _ _ _ _ _ (by omega) (by omega) (by rw [hws]; first | (rw [wlS_no (fun z => c33 z.1)]; exact h6_2) | (rw [wlS_no (fun z => c47 (by rw [← hj]; exact z.2))]; exact h6_2) | (rw [wlS_yes hop, if_pos (by omega)]; done) | (rw [wlS_yes hop, if_neg (by omega)]; exact h6_2)) (by rw [hws]; first | (rw [wlS_no (fun z => c33 z.1)]; exact h6_3) | (rw [wlS_no (fun z => c47 (by rw [← hj]; exact z.2))]; exact h6_3) | (rw [wlS_yes hop, if_pos (by omega)]; done) | (rw [wlS_yes hop, if_neg (by omega)]; exact h6_3)) (by omega)
              · -- f
                refine z_iload_n ok dX6_findWorstLink_68 rfl ?_
                refine z_istore_n (lv' := [(1, .int (iI k)), (4, .int (iI (prB N k))), (0, .ref (x 0)), (2, .int (iI fe)), (3, .int (iI k))]) ok dX6_findWorstLink_69 (by decide) rfl ?_
                refine z_iload ok dX6_findWorstLink_70 rfl ?_
                refine z_istore_n (lv' := [(2, .int (iI (prB N k))), (1, .int (iI k)), (4, .int (iI (prB N k))), (0, .ref (x 0)), (3, .int (iI k))]) ok dX6_findWorstLink_72 (by decide) rfl ?_
                refine z_iinc (lv' := [(3, .int (iI (k + 1))), (2, .int (iI (prB N k))), (1, .int (iI k)), (4, .int (iI (prB N k))), (0, .ref (x 0))]) ok dX6_findWorstLink_73 4 rfl (by decide) rfl ?_
                refine z_goto (tgt := 6) ok dX6_findWorstLink_76 (by decide) ?_
                refine z_lsub ok (lv' := [(0, .ref (x 0)), (1, .int (iI k)), (2, .int (iI (prB N k))), (3, .int (iI (k + 1)))]) [4, 2, 1, 0] rfl ?_
                exact ih6 _ _ _ (zu N (10 + k) 1) _ _ _ _ _ _ (by omega) (by omega) (by rw [hws]; first | (rw [wlS_no (fun z => c33 z.1)]; exact h6_2) | (rw [wlS_no (fun z => c47 (by rw [← hj]; exact z.2))]; exact h6_2) | (rw [wlS_yes hop, if_pos (by omega)]; done) | (rw [wlS_yes hop, if_neg (by omega)]; exact h6_2)) (by rw [hws]; first | (rw [wlS_no (fun z => c33 z.1)]; exact h6_3) | (rw [wlS_no (fun z => c47 (by rw [← hj]; exact z.2))]; exact h6_3) | (rw [wlS_yes hop, if_pos (by omega)]; done) | (rw [wlS_yes hop, if_neg (by omega)]; exact h6_3)) (by omega)
  refine z_lsub ok (lv' := [(0, .ref (x 0)), (1, .int (iI (-1))), (2, .int (iI 0)), (3, .int (iI 0))]) [3, 2, 1, 0] rfl ?_
  exact L6 _ _ _ _ K _ _ _ _ _ _ (by omega) (by omega) (rfl) (rfl) (Nat.lt_succ_self _)
set_option maxRecDepth 20000 in
theorem c_X6_worstLink {l : Launch} {Z : zZ} {x a b a3 b4 c e : Nat → Nat} {und : Int} {hs ss : List Nat} {us : Int → Int} {N : Int → Int} {K : Int → Int} {ef4 : Int} {op4 ln4 nm4 qu4 : Int → Int} {qd4 : Int} {w : Int} (hw : wf N) (hwr : -2147483648 ≤ w ∧ w < 2147483648) : zI (T := (Int → Int) × (Int × (Int → Int)) × (Int → Int) × (Int → Int) × (Int → Int) × Int) l yX6_worstLink (Cond.code yX6_worstLink cX6_worstLink 3 (some .int) :: wsL_law) ({ frames := 6, cells := 0, slots := 0, locals := 147 } : Room) Z [.ref (x 0), .int (iI w)] (zf [soW Z a N (ins N) (mvF N) (N 3), gW Z a (N 4) (N 5) (bkL N), pW Z a (N 6) (pkF N 0) (pkF N 1) (pkF N 2) (pkF N 3) (pkF N 4) (pkF N 5) (pkF N 6) (pkF N 7) (pkF N 8) (pkF N 9), soW Z a3 K (ins K) (mvF K) (K 3), gW Z a3 (K 4) (K 5) (bkL K), pW Z a3 (K 6) (pkF K 0) (pkF K 1) (pkF K 2) (pkF K 3) (pkF K 4) (pkF K 5) (pkF K 6) (pkF K 7) (pkF K 8) (pkF K 9), xW Z x (a 0) (b 0) (a3 0) (b4 0) (c 0) (e 0) und hs ss us, rW Z b4 ef4 op4 ln4 nm4 qu4 qd4]) (fun u => zf [soW Z a N (ins N) (mvF N) (N 3), gW Z a (N 4) (N 5) (bkL N), pW Z a (N 6) (pkF N 0) (pkF N 1) (pkF N 2) (pkF N 3) (pkF N 4) (pkF N 5) (pkF N 6) (pkF N 7) (pkF N 8) (pkF N 9), soW Z a3 u.1 (ins u.1) (mvF u.1) (u.1 3), gW Z a3 (u.1 4) (u.1 5) (bkL u.1), pW Z a3 (u.1 6) (pkF u.1 0) (pkF u.1 1) (pkF u.1 2) (pkF u.1 3) (pkF u.1 4) (pkF u.1 5) (pkF u.1 6) (pkF u.1 7) (pkF u.1 8) (pkF u.1 9), xW Z x (a 0) (b 0) (a3 0) (b4 0) (c 0) (e 0) und hs ss us, rW Z b4 u.2.1.1 u.2.1.2 u.2.2.1 u.2.2.2.1 u.2.2.2.2.1 u.2.2.2.2.2]) (fun ρ u => ρ = wlR N w) := by
  refine zI_of (C := RX6) (by decide +kernel) rfl (Nat.le_of_ble_eq_true rfl) (fun _ => True) znI (fun X ok fin => ?_)
  obtain ⟨w0, w1, w2, hc, hr, w6, wl, wp⟩ := id hw
  have hcr := cr_rng hc hr
  refine z_lsub ok (lv' := [(0, .ref (x 0)), (1, .int (iI w))]) [0, 1] rfl ?_
  refine z_iload_n ok dX6_worstLink_0 rfl ?_
  refine z_if_lt (tgt := 9) ok dX6_worstLink_1 (by decide) (by omega) (fun c1 => ?_) (fun c1 => ?_)
  · -- t
    refine z_bipush ok dX6_worstLink_9 (by decide) ?_
    exact fin (-2) (K, (ef4, op4), ln4, nm4, qu4, qd4) 11 _ _ _ dX6_worstLink_11 (trivial) (by unfold wlR; rw [if_pos (by omega)]) (by decide) (by decide)
  · -- f
    refine z_iload_n ok dX6_worstLink_4 rfl ?_
    refine z_iconst ok dX6_worstLink_5 ?_
    refine z_icmp_le (tgt := 12) ok dX6_worstLink_6 (by decide) (by omega) (by omega) (fun c6 => ?_) (fun c6 => ?_)
    · -- t
      have hwr := wlF_rng hw (2 * (N 4 * N 5)).toNat (by omega)
      have hwp := wlF_pr (N := N) (2 * (N 4 * N 5)).toNat
      refine z_aload_n ok dX6_worstLink_12 rfl ?_
      refine z_callVi0 ok (fun l => c_X6_findWorstLink  (hw)) zm_X6_findWorstLink zv_X6_findWorstLink qm_RX6_212 dX6_worstLink_13 (by decide) (by decide) rfl rfl (Nat.le_of_ble_eq_true rfl) (q0 := 32) rfl rfl rfl (fun r13 u13 hp13 => ?_)
      obtain ⟨tr_13, ro_13, ln_13, nm_13, qu_13, qd_13⟩ := u13
      try dsimp only at hp13
      obtain ⟨rfl⟩ := hp13
      refine z_eq (ws' := zf [soW Z a N (ins N) (mvF N) (N 3), gW Z a (N 4) (N 5) (bkL N), pW Z a (N 6) (pkF N 0) (pkF N 1) (pkF N 2) (pkF N 3) (pkF N 4) (pkF N 5) (pkF N 6) (pkF N 7) (pkF N 8) (pkF N 9), soW Z a3 tr_13 (ins tr_13) (mvF tr_13) (tr_13 3), gW Z a3 (tr_13 4) (tr_13 5) (bkL tr_13), pW Z a3 (tr_13 6) (pkF tr_13 0) (pkF tr_13 1) (pkF tr_13 2) (pkF tr_13 3) (pkF tr_13 4) (pkF tr_13 5) (pkF tr_13 6) (pkF tr_13 7) (pkF tr_13 8) (pkF tr_13 9), xW Z x (a 0) (b 0) (a3 0) (b4 0) (c 0) (e 0) und hs ss us, rW Z b4 ro_13.1 ro_13.2 ln_13 nm_13 qu_13 qd_13]) rfl ?_
      refine z_istore_n (lv' := [(2, .int (iI ((wlF N (2 * (N 4 * N 5)).toNat).1))), (0, .ref (x 0)), (1, .int (iI w))]) ok dX6_worstLink_16 (by decide) rfl ?_
      refine z_iload_n ok dX6_worstLink_17 rfl ?_
      refine z_iconst ok dX6_worstLink_18 ?_
      refine z_icmp_ne (tgt := 25) ok dX6_worstLink_19 (by decide) (by omega) (by omega) (fun c19 => ?_) (fun c19 => ?_)
      · -- t
        refine z_iload_n ok dX6_worstLink_25 rfl ?_
        rcases (show (w ≠ 0 ∧ w ≠ 1) ∨ w = 0 ∨ w = 1 by omega) with c26 | c26 | c26
        · -- switch
          refine z_lookup (off := 36) (tgt := 62) ok dX6_worstLink_26 (by omega) (by decide) (zlk_no (by simp; omega)) (by decide) ?_
          refine z_aload_n ok dX6_worstLink_62 rfl ?_
          refine z_iload_n ok dX6_worstLink_63 rfl ?_
          refine z_callVi0 ok (fun l => c_X6_pairsWithout  (hw) (by omega)) zm_X6_pairsWithout zv_X6_pairsWithout qm_RX6_221 dX6_worstLink_64 (by decide) (by decide) rfl rfl (Nat.le_of_ble_eq_true rfl) (q0 := 32) rfl rfl rfl (fun r64 u64 hp64 => ?_)
          obtain ⟨ro_64, ln_64, nm_64, qu_64, qd_64⟩ := u64
          try dsimp only at hp64
          obtain ⟨rfl⟩ := hp64
          refine z_eq (ws' := zf [soW Z a N (ins N) (mvF N) (N 3), gW Z a (N 4) (N 5) (bkL N), pW Z a (N 6) (pkF N 0) (pkF N 1) (pkF N 2) (pkF N 3) (pkF N 4) (pkF N 5) (pkF N 6) (pkF N 7) (pkF N 8) (pkF N 9), soW Z a3 (zu N (10 + ((wlF N (2 * (N 4 * N 5)).toNat).1)) 1) (ins (zu N (10 + ((wlF N (2 * (N 4 * N 5)).toNat).1)) 1)) (mvF (zu N (10 + ((wlF N (2 * (N 4 * N 5)).toNat).1)) 1)) ((zu N (10 + ((wlF N (2 * (N 4 * N 5)).toNat).1)) 1) 3), gW Z a3 ((zu N (10 + ((wlF N (2 * (N 4 * N 5)).toNat).1)) 1) 4) ((zu N (10 + ((wlF N (2 * (N 4 * N 5)).toNat).1)) 1) 5) (bkL (zu N (10 + ((wlF N (2 * (N 4 * N 5)).toNat).1)) 1)), pW Z a3 ((zu N (10 + ((wlF N (2 * (N 4 * N 5)).toNat).1)) 1) 6) (pkF (zu N (10 + ((wlF N (2 * (N 4 * N 5)).toNat).1)) 1) 0) (pkF (zu N (10 + ((wlF N (2 * (N 4 * N 5)).toNat).1)) 1) 1) (pkF (zu N (10 + ((wlF N (2 * (N 4 * N 5)).toNat).1)) 1) 2) (pkF (zu N (10 + ((wlF N (2 * (N 4 * N 5)).toNat).1)) 1) 3) (pkF (zu N (10 + ((wlF N (2 * (N 4 * N 5)).toNat).1)) 1) 4) (pkF (zu N (10 + ((wlF N (2 * (N 4 * N 5)).toNat).1)) 1) 5) (pkF (zu N (10 + ((wlF N (2 * (N 4 * N 5)).toNat).1)) 1) 6) (pkF (zu N (10 + ((wlF N (2 * (N 4 * N 5)).toNat).1)) 1) 7) (pkF (zu N (10 + ((wlF N (2 * (N 4 * N 5)).toNat).1)) 1) 8) (pkF (zu N (10 + ((wlF N (2 * (N 4 * N 5)).toNat).1)) 1) 9), xW Z x (a 0) (b 0) (a3 0) (b4 0) (c 0) (e 0) und hs ss us, rW Z b4 ro_64.1 ro_64.2 ln_64 nm_64 qu_64 qd_64]) rfl ?_
          exact fin (prB N ((wlF N (2 * (N 4 * N 5)).toNat).1)) (zu N (10 + ((wlF N (2 * (N 4 * N 5)).toNat).1)) 1, (ro_64.1, ro_64.2), ln_64, nm_64, qu_64, qd_64) 67 _ _ _ dX6_worstLink_67 (trivial) (by unfold wlR; rw [if_neg (by omega), if_neg (by omega), if_neg (by omega), if_neg (by omega), hwp (by omega)]) (by decide) (by decide)
        · -- switch
          refine z_lookup (off := 26) (tgt := 52) ok dX6_worstLink_26 (by omega) (by decide) (by rw [c26]; rfl) (by decide) ?_
          refine z_iload_n ok dX6_worstLink_52 rfl ?_
          refine z_callSie ok (fun l => c_X0_boxOfLink  (by omega)) zm_X0_boxOfLink qt_X0_boxOfLink qm_RX6_215 dX6_worstLink_53 (by decide) (by decide) rfl rfl (Nat.le_of_ble_eq_true rfl) (fun ρ _ hρ => ?_)
          subst hρ
          exact fin (((wlF N (2 * (N 4 * N 5)).toNat).1) / 2) (tr_13, (ro_13.1, ro_13.2), ln_13, nm_13, qu_13, qd_13) 56 _ _ _ dX6_worstLink_56 (trivial) (by unfold wlR; rw [if_neg (by omega), if_neg (by omega), if_pos (by omega)]) (by decide) (by decide)
        · -- switch
          refine z_lookup (off := 31) (tgt := 57) ok dX6_worstLink_26 (by omega) (by decide) (by rw [c26]; rfl) (by decide) ?_
          refine z_iload_n ok dX6_worstLink_57 rfl ?_
          refine z_callSie ok (fun l => c_X0_sideOfLink  (by omega)) zm_X0_sideOfLink qt_X0_sideOfLink qm_RX6_218 dX6_worstLink_58 (by decide) (by decide) rfl rfl (Nat.le_of_ble_eq_true rfl) (fun ρ _ hρ => ?_)
          subst hρ
          exact fin (2 * (((wlF N (2 * (N 4 * N 5)).toNat).1) % 2)) (tr_13, (ro_13.1, ro_13.2), ln_13, nm_13, qu_13, qd_13) 61 _ _ _ dX6_worstLink_61 (trivial) (by unfold wlR; rw [if_neg (by omega), if_neg (by omega), if_neg (by omega), if_pos (by omega)]) (by decide) (by decide)
      · -- f
        refine z_bipush ok dX6_worstLink_22 (by decide) ?_
        exact fin (-6) (tr_13, (ro_13.1, ro_13.2), ln_13, nm_13, qu_13, qd_13) 24 _ _ _ dX6_worstLink_24 (trivial) (by unfold wlR; rw [if_neg (by omega), if_pos (by omega)]) (by decide) (by decide)
    · -- f
      refine z_bipush ok dX6_worstLink_9 (by decide) ?_
      exact fin (-2) (K, (ef4, op4), ln4, nm4, qu4, qd4) 11 _ _ _ dX6_worstLink_11 (trivial) (by unfold wlR; rw [if_pos (by omega)]) (by decide) (by decide)
