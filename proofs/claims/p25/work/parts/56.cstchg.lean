set_option maxRecDepth 20000 in
theorem c_X5_comesInside {l : Launch} {Z : zZ} {a : Nat → Nat} {N : Int → Int} {p : Int} (hw : wf N) (hp : 0 ≤ p ∧ p < N 6) (h2 : pk N p 2 = 0) : zI (T := (Int → Int)) l yX5_comesInside (Cond.code yX5_comesInside cX5_comesInside 3 (some .boolean) :: wsL_law) ({ frames := 1, cells := 0, slots := 0, locals := 21 } : Room) Z [.ref (a 0), .int (iI p)] (zf [soW Z a N (ins N) (mvF N) (N 3), gW Z a (N 4) (N 5) (bkL N), pW Z a (N 6) (pkF N 0) (pkF N 1) (pkF N 2) (pkF N 3) (pkF N 4) (pkF N 5) (pkF N 6) (pkF N 7) (pkF N 8) (pkF N 9)]) (fun u => zf (sL Z a u [])) (fun ρ u => (ρ = 1 ∧ ins N (pk N p 3) < N 2 ∧ u = bk N p 2 1) ∨ (ρ = 0 ∧ ¬ ins N (pk N p 3) < N 2 ∧ u = N)) := by
  refine zI_of (C := RX5) (by decide +kernel) rfl (Nat.le_of_ble_eq_true rfl) (fun ρ => ρ = 0 ∨ ρ = 1) znZ (fun X ok fin => ?_)
  obtain ⟨w0, w1, w2, hc, hr, w6, wl, wp⟩ := id hw
  have hcr := cr_rng hc hr
  have wpp := wp p hp.1 hp.2
  refine z_lsub ok (lv' := [(0, .ref (a 0)), (1, .int (iI p))]) [0, 1] rfl ?_
  refine z_aload_n ok dX5_comesInside_0 rfl ?_
  refine z_get (v := .ref (a 3)) ok zc5 0 rfl 2 (by decide) qf_RX5_25 rfl rfl dX5_comesInside_1 ?_
  refine z_get (v := .ref (a 7)) ok zc2 5 rfl 4 (by decide) qf_RX5_63 rfl rfl dX5_comesInside_4 ?_
  refine z_iload_n ok dX5_comesInside_7 rfl ?_
  refine z_iale (f := pkF N 3) (v := pk N p 3) ok 9 rfl rfl dX5_comesInside_8 (by omega) (by decide) ?_
  refine z_istore_n (lv' := [(2, .int (iI (pk N p 3))), (0, .ref (a 0)), (1, .int (iI p))]) ok dX5_comesInside_9 (by decide) rfl ?_
  refine z_aload_n ok dX5_comesInside_10 rfl ?_
  refine z_iload_n ok dX5_comesInside_11 rfl ?_
  refine z_callVif ok (fun l => c_X5_hasRoom  (hw) (by omega)) zm_X5_hasRoom zv_X5_hasRoom qm_RX5_98 dX5_comesInside_12 (by decide) (by decide) rfl rfl (Nat.le_of_ble_eq_true rfl) (q0 := 0) rfl rfl rfl (L := [soW Z a N (ins N) (mvF N) (N 3), gW Z a (N 4) (N 5) (bkL N), pW Z a (N 6) (pkF N 0) (pkF N 1) (pkF N 2) (pkF N 3) (pkF N 4) (pkF N 5) (pkF N 6) (pkF N 7) (pkF N 8) (pkF N 9)]) (Lr := [gW Z a (N 4) (N 5) (bkL N), pW Z a (N 6) (pkF N 0) (pkF N 1) (pkF N 2) (pkF N 3) (pkF N 4) (pkF N 5) (pkF N 6) (pkF N 7) (pkF N 8) (pkF N 9)]) [0, 1, 2] [0, 1, 2] rfl rfl (fun _ => rfl) (fun ρ _ hρ => ?_)
  subst hρ
  refine z_eq (ws' := zf [soW Z a N (ins N) (mvF N) (N 3), gW Z a (N 4) (N 5) (bkL N), pW Z a (N 6) (pkF N 0) (pkF N 1) (pkF N 2) (pkF N 3) (pkF N 4) (pkF N 5) (pkF N 6) (pkF N 7) (pkF N 8) (pkF N 9)]) rfl ?_
  refine z_ifb_ne (tgt := 20) ok dX5_comesInside_15 (by decide) (fun c15 => ?_) (fun c15 => ?_)
  · -- t
    refine z_aload_n ok dX5_comesInside_20 rfl ?_
    refine z_get (v := .ref (a 3)) ok zc5 0 rfl 2 (by decide) qf_RX5_25 rfl rfl dX5_comesInside_21 ?_
    refine z_get (v := .ref (a 6)) ok zc2 5 rfl 3 (by decide) qf_RX5_88 rfl rfl dX5_comesInside_24 ?_
    refine z_iload_n ok dX5_comesInside_27 rfl ?_
    refine z_iconst ok dX5_comesInside_28 ?_
    refine z_iast (f := pkF N 2) (v := 1) (ws' := zf [soW Z a N (ins N) (mvF N) (N 3), gW Z a (N 4) (N 5) (bkL N), pW Z a (N 6) (pkF N 0) (pkF N 1) (zu (pkF N 2) p 1) (pkF N 3) (pkF N 4) (pkF N 5) (pkF N 6) (pkF N 7) (pkF N 8) (pkF N 9)]) ok 8 rfl dX5_comesInside_29 (by omega) (by decide) rfl ?_
    refine z_aload_n ok dX5_comesInside_30 rfl ?_
    refine z_get (v := .ref (a 14)) ok zc5 0 rfl 3 (by decide) qf_RX5_29 rfl rfl dX5_comesInside_31 ?_
    refine z_iload_n ok dX5_comesInside_34 rfl ?_
    refine z_dup2 ok dX5_comesInside_35 rfl rfl ?_
    refine z_iale (f := ins N) (v := ins N (pk N p 3)) ok 2 rfl rfl dX5_comesInside_36 (by omega) (by decide) ?_
    refine z_iconst ok dX5_comesInside_37 ?_
    refine z_iadd ok dX5_comesInside_38 ?_
    refine z_iast (f := ins N) (v := (ins N (pk N p 3)) + 1) (ws' := zf [soW Z a N (zu (ins N) (pk N p 3) ((ins N (pk N p 3)) + 1)) (mvF N) (N 3), gW Z a (N 4) (N 5) (bkL N), pW Z a (N 6) (pkF N 0) (pkF N 1) (zu (pkF N 2) p 1) (pkF N 3) (pkF N 4) (pkF N 5) (pkF N 6) (pkF N 7) (pkF N 8) (pkF N 9)]) ok 2 rfl dX5_comesInside_39 (by omega) (by decide) rfl ?_
    refine z_ci ok [] hp h2 ?_
    refine z_iconst ok dX5_comesInside_40 ?_
    exact fin 1 (bk N p 2 1) 41 _ _ _ dX5_comesInside_41 (by first | decide | exact zb_01 _ | omega) (Or.inl ⟨rfl, c15.2.2, rfl⟩) (by decide) (by decide)
  · -- f
    refine z_iconst ok dX5_comesInside_18 ?_
    exact fin 0 N 19 _ _ _ dX5_comesInside_19 (by first | decide | exact zb_01 _ | omega) (Or.inr ⟨rfl, fun z => c15 ⟨by omega, by omega, z⟩, rfl⟩) (by decide) (by decide)
set_option maxRecDepth 20000 in
theorem c_X5_movesOn {l : Launch} {Z : zZ} {a : Nat → Nat} {N : Int → Int} {b : Nat → Nat} {ef : Int} {op ln nm qu : Int → Int} {qd : Int} {p : Int} (hw : wf N) (hok : rOK N ef op ln) (hp : 0 ≤ p ∧ p < N 6) (h2 : pk N p 2 = 1) : zI (T := (Int → Int)) l yX5_movesOn (Cond.code yX5_movesOn cX5_movesOn 7 (some .boolean) :: wsL_law) ({ frames := 4, cells := 0, slots := 0, locals := 98 } : Room) Z [.ref (a 0), .ref (b 0), .int (iI p)] (zf [soW Z a N (ins N) (mvF N) (N 3), gW Z a (N 4) (N 5) (bkL N), pW Z a (N 6) (pkF N 0) (pkF N 1) (pkF N 2) (pkF N 3) (pkF N 4) (pkF N 5) (pkF N 6) (pkF N 7) (pkF N 8) (pkF N 9), rW Z b ef op ln nm qu qd]) (fun u => zf (sL Z a u [rW Z b ef op ln nm qu qd])) (fun ρ u => (ρ = 1 ∧ 0 ≤ goN N p ∧ u = mvN N p (goN N p)) ∨ (ρ = 0 ∧ ¬ 0 ≤ goN N p ∧ u = N)) := by
  refine zI_of (C := RX5) (by decide +kernel) rfl (Nat.le_of_ble_eq_true rfl) (fun ρ => ρ = 0 ∨ ρ = 1) znZ (fun X ok fin => ?_)
  obtain ⟨w0, w1, w2, hc, hr, w6, wl, wp⟩ := id hw
  have hcr := cr_rng hc hr
  have wpp := wp p hp.1 hp.2
  have hg : fsG N p 1 = goN N p := fsG_1 (by omega)
  have hgr := goN_rng N p
  have hg6 := goN_6 N p
  have hmm := mm_rng hw hp
  refine z_lsub ok (lv' := [(0, .ref (a 0)), (1, .ref (b 0)), (2, .int (iI p))]) [0, 1, 2] rfl ?_
  refine z_aload_n ok dX5_movesOn_0 rfl ?_
  refine z_aload_n ok dX5_movesOn_1 rfl ?_
  refine z_iload_n ok dX5_movesOn_2 rfl ?_
  refine z_iconst ok dX5_movesOn_3 ?_
  refine z_callVi0 ok (fun l => c_X5_firstSide  (hw) (hok) (hp) (by decide)) zm_X5_firstSide zv_X5_firstSide qm_RX5_123 dX5_movesOn_4 (by decide) (by decide) rfl rfl (Nat.le_of_ble_eq_true rfl) (q0 := 0) rfl rfl rfl (fun ρ _ hρ => ?_)
  subst hρ
  refine z_eq (ws' := zf [soW Z a N (ins N) (mvF N) (N 3), gW Z a (N 4) (N 5) (bkL N), pW Z a (N 6) (pkF N 0) (pkF N 1) (pkF N 2) (pkF N 3) (pkF N 4) (pkF N 5) (pkF N 6) (pkF N 7) (pkF N 8) (pkF N 9), rW Z b ef op ln nm qu qd]) rfl ?_
  rw [hg]
  refine z_istore_n (lv' := [(3, .int (iI (goN N p))), (0, .ref (a 0)), (1, .ref (b 0)), (2, .int (iI p))]) ok dX5_movesOn_7 (by decide) rfl ?_
  refine z_iload_n ok dX5_movesOn_8 rfl ?_
  refine z_bipush ok dX5_movesOn_9 (by decide) ?_
  refine z_icmp_ne (tgt := 16) ok dX5_movesOn_11 (by decide) (by omega) (by omega) (fun c11 => ?_) (fun c11 => ?_)
  · -- t
    have hg0 : 0 ≤ goN N p := by omega
    obtain ⟨hg4, hgp, hgr2⟩ := goN_spec hg0
    obtain ⟨hl1, hl2, hl3, hl4⟩ := pss_laf (d := goN N p) hw hok hp (by omega)
    have hlt := hl1.mpr hgp
    obtain ⟨hob, hnb0⟩ := hl4 (by omega)
    have hnr := nb_rng (b := pk N p 3) (d := goN N p) hw (by omega) (by omega)
    have hdn := dist_nb (d := goN N p) (to := pk N p 1) hw.2.2.2.1 (by omega : 0 ≤ pk N p 3) hnb0
    have hd1 := dist_le hw (a := pk N p 3) (b := pk N p 1) (by omega) (by omega)
    have hd2 := dist_le hw (a := nb N (pk N p 3) (goN N p)) (b := pk N p 1) (by omega) (by omega)
    refine z_aload_n ok dX5_movesOn_16 rfl ?_
    refine z_get (v := .ref (a 3)) ok zc5 0 rfl 2 (by decide) qf_RX5_25 rfl rfl dX5_movesOn_17 ?_
    refine z_get (v := .ref (a 7)) ok zc2 5 rfl 4 (by decide) qf_RX5_63 rfl rfl dX5_movesOn_20 ?_
    refine z_iload_n ok dX5_movesOn_23 rfl ?_
    refine z_iale (f := pkF N 3) (v := pk N p 3) ok 9 rfl rfl dX5_movesOn_24 (by omega) (by decide) ?_
    refine z_istore (lv' := [(4, .int (iI (pk N p 3))), (3, .int (iI (goN N p))), (0, .ref (a 0)), (1, .ref (b 0)), (2, .int (iI p))]) ok dX5_movesOn_25 (by decide) rfl ?_
    refine z_aload_n ok dX5_movesOn_27 rfl ?_
    refine z_get (v := .ref (a 3)) ok zc5 0 rfl 2 (by decide) qf_RX5_25 rfl rfl dX5_movesOn_28 ?_
    refine z_get (v := .ref (a 5)) ok zc2 5 rfl 2 (by decide) qf_RX5_69 rfl rfl dX5_movesOn_31 ?_
    refine z_iload_n ok dX5_movesOn_34 rfl ?_
    refine z_iale (f := pkF N 1) (v := pk N p 1) ok 7 rfl rfl dX5_movesOn_35 (by omega) (by decide) ?_
    refine z_istore (lv' := [(5, .int (iI (pk N p 1))), (4, .int (iI (pk N p 3))), (3, .int (iI (goN N p))), (0, .ref (a 0)), (1, .ref (b 0)), (2, .int (iI p))]) ok dX5_movesOn_36 (by decide) rfl ?_
    refine z_aload_n ok dX5_movesOn_38 rfl ?_
    refine z_iload ok dX5_movesOn_39 rfl ?_
    refine z_iload_n ok dX5_movesOn_41 rfl ?_
    refine z_callVif ok (fun l => c_X4_boxBehind  (by omega) (by omega)) zm_X4_boxBehind zv_X4_boxBehind qm_RX5_91 dX5_movesOn_42 (by decide) (by decide) rfl rfl (Nat.le_of_ble_eq_true rfl) (q0 := 0) rfl rfl rfl (L := [soW Z a N (ins N) (mvF N) (N 3), gW Z a (N 4) (N 5) (bkL N), pW Z a (N 6) (pkF N 0) (pkF N 1) (pkF N 2) (pkF N 3) (pkF N 4) (pkF N 5) (pkF N 6) (pkF N 7) (pkF N 8) (pkF N 9), rW Z b ef op ln nm qu qd]) (Lr := [soW Z a N (ins N) (mvF N) (N 3), gW Z a (N 4) (N 5) (bkL N), pW Z a (N 6) (pkF N 0) (pkF N 1) (pkF N 2) (pkF N 3) (pkF N 4) (pkF N 5) (pkF N 6) (pkF N 7) (pkF N 8) (pkF N 9)]) [3, 0, 1, 2] [1, 2, 3, 0] rfl rfl (fun _ => rfl) (fun ρ _ hρ => ?_)
    subst hρ
    refine z_eq (ws' := zf [soW Z a N (ins N) (mvF N) (N 3), gW Z a (N 4) (N 5) (bkL N), pW Z a (N 6) (pkF N 0) (pkF N 1) (pkF N 2) (pkF N 3) (pkF N 4) (pkF N 5) (pkF N 6) (pkF N 7) (pkF N 8) (pkF N 9), rW Z b ef op ln nm qu qd]) rfl ?_
    rw [hob]
    refine z_istore (lv' := [(6, .int (iI (nb N (pk N p 3) (goN N p)))), (5, .int (iI (pk N p 1))), (4, .int (iI (pk N p 3))), (3, .int (iI (goN N p))), (0, .ref (a 0)), (1, .ref (b 0)), (2, .int (iI p))]) ok dX5_movesOn_45 (by decide) rfl ?_
    refine z_aload_n ok dX5_movesOn_47 rfl ?_
    refine z_get (v := .ref (a 14)) ok zc5 0 rfl 3 (by decide) qf_RX5_29 rfl rfl dX5_movesOn_48 ?_
    refine z_iload ok dX5_movesOn_51 rfl ?_
    refine z_dup2 ok dX5_movesOn_53 rfl rfl ?_
    refine z_iale (f := ins N) (v := ins N (pk N p 3)) ok 2 rfl rfl dX5_movesOn_54 (by omega) (by decide) ?_
    refine z_iconst ok dX5_movesOn_55 ?_
    refine z_isub ok dX5_movesOn_56 ?_
    refine z_iast (f := ins N) (v := (ins N (pk N p 3)) - 1) (ws' := zf [soW Z a N (zu (ins N) (pk N p 3) ((ins N (pk N p 3)) - 1)) (mvF N) (N 3), gW Z a (N 4) (N 5) (bkL N), pW Z a (N 6) (pkF N 0) (pkF N 1) (pkF N 2) (pkF N 3) (pkF N 4) (pkF N 5) (pkF N 6) (pkF N 7) (pkF N 8) (pkF N 9), rW Z b ef op ln nm qu qd]) ok 2 rfl dX5_movesOn_57 (by omega) (by decide) rfl ?_
    refine z_aload_n ok dX5_movesOn_58 rfl ?_
    refine z_get (v := .ref (a 15)) ok zc5 0 rfl 4 (by decide) qf_RX5_32 rfl rfl dX5_movesOn_59 ?_
    refine z_iload ok dX5_movesOn_62 rfl ?_
    refine z_iconst ok dX5_movesOn_64 ?_
    refine z_imul ok dX5_movesOn_65 ?_
    refine z_iload_n ok dX5_movesOn_66 rfl ?_
    refine z_iadd ok dX5_movesOn_67 ?_
    refine z_dup2 ok dX5_movesOn_68 rfl rfl ?_
    refine z_iale (f := mvF N) (v := N (60 + (((pk N p 3) * 4) + (goN N p)))) ok 3 rfl rfl dX5_movesOn_69 (by omega) (by decide) ?_
    refine z_iconst ok dX5_movesOn_70 ?_
    refine z_iadd ok dX5_movesOn_71 ?_
    refine z_iast (f := mvF N) (v := (N (60 + (((pk N p 3) * 4) + (goN N p)))) + 1) (ws' := zf [soW Z a N (zu (ins N) (pk N p 3) ((ins N (pk N p 3)) - 1)) (zu (mvF N) (((pk N p 3) * 4) + (goN N p)) ((N (60 + (((pk N p 3) * 4) + (goN N p)))) + 1)) (N 3), gW Z a (N 4) (N 5) (bkL N), pW Z a (N 6) (pkF N 0) (pkF N 1) (pkF N 2) (pkF N 3) (pkF N 4) (pkF N 5) (pkF N 6) (pkF N 7) (pkF N 8) (pkF N 9), rW Z b ef op ln nm qu qd]) ok 3 rfl dX5_movesOn_72 (by omega) (by decide) rfl ?_
    refine z_aload_n ok dX5_movesOn_73 rfl ?_
    refine z_get (v := .ref (a 3)) ok zc5 0 rfl 2 (by decide) qf_RX5_25 rfl rfl dX5_movesOn_74 ?_
    refine z_iload_n ok dX5_movesOn_77 rfl ?_
    refine z_iload ok dX5_movesOn_78 rfl ?_
    refine z_iload_n ok dX5_movesOn_80 rfl ?_
    refine z_aload_n ok dX5_movesOn_81 rfl ?_
    refine z_get (v := .ref (a 2)) ok zc5 0 rfl 1 (by decide) qf_RX5_18 rfl rfl dX5_movesOn_82 ?_
    refine z_iload ok dX5_movesOn_85 rfl ?_
    refine z_iload ok dX5_movesOn_87 rfl ?_
    refine z_callVif ok (fun l => c_X0_distance  (by omega) (by omega) (by omega) (by omega)) zm_X0_distance zv_X0_distance qm_RX5_59 dX5_movesOn_89 (by decide) (by decide) rfl rfl (Nat.le_of_ble_eq_true rfl) (q0 := 0) rfl rfl rfl (L := [soW Z a N (zu (ins N) (pk N p 3) ((ins N (pk N p 3)) - 1)) (zu (mvF N) (((pk N p 3) * 4) + (goN N p)) ((N (60 + (((pk N p 3) * 4) + (goN N p)))) + 1)) (N 3), gW Z a (N 4) (N 5) (bkL N), pW Z a (N 6) (pkF N 0) (pkF N 1) (pkF N 2) (pkF N 3) (pkF N 4) (pkF N 5) (pkF N 6) (pkF N 7) (pkF N 8) (pkF N 9), rW Z b ef op ln nm qu qd]) (Lr := [soW Z a N (zu (ins N) (pk N p 3) ((ins N (pk N p 3)) - 1)) (zu (mvF N) (((pk N p 3) * 4) + (goN N p)) ((N (60 + (((pk N p 3) * 4) + (goN N p)))) + 1)) (N 3), pW Z a (N 6) (pkF N 0) (pkF N 1) (pkF N 2) (pkF N 3) (pkF N 4) (pkF N 5) (pkF N 6) (pkF N 7) (pkF N 8) (pkF N 9), rW Z b ef op ln nm qu qd]) [1, 0, 2, 3] [1, 0, 2, 3] rfl rfl (fun _ => rfl) (fun ρ _ hρ => ?_)
    subst hρ
    refine z_eq (ws' := zf [soW Z a N (zu (ins N) (pk N p 3) ((ins N (pk N p 3)) - 1)) (zu (mvF N) (((pk N p 3) * 4) + (goN N p)) ((N (60 + (((pk N p 3) * 4) + (goN N p)))) + 1)) (N 3), gW Z a (N 4) (N 5) (bkL N), pW Z a (N 6) (pkF N 0) (pkF N 1) (pkF N 2) (pkF N 3) (pkF N 4) (pkF N 5) (pkF N 6) (pkF N 7) (pkF N 8) (pkF N 9), rW Z b ef op ln nm qu qd]) rfl ?_
    refine z_aload_n ok dX5_movesOn_92 rfl ?_
    refine z_get (v := .ref (a 2)) ok zc5 0 rfl 1 (by decide) qf_RX5_18 rfl rfl dX5_movesOn_93 ?_
    refine z_iload ok dX5_movesOn_96 rfl ?_
    refine z_iload ok dX5_movesOn_98 rfl ?_
    refine z_callVif ok (fun l => c_X0_distance  (by omega) (by omega) (by omega) (by omega)) zm_X0_distance zv_X0_distance qm_RX5_59 dX5_movesOn_100 (by decide) (by decide) rfl rfl (Nat.le_of_ble_eq_true rfl) (q0 := 0) rfl rfl rfl (L := [soW Z a N (zu (ins N) (pk N p 3) ((ins N (pk N p 3)) - 1)) (zu (mvF N) (((pk N p 3) * 4) + (goN N p)) ((N (60 + (((pk N p 3) * 4) + (goN N p)))) + 1)) (N 3), gW Z a (N 4) (N 5) (bkL N), pW Z a (N 6) (pkF N 0) (pkF N 1) (pkF N 2) (pkF N 3) (pkF N 4) (pkF N 5) (pkF N 6) (pkF N 7) (pkF N 8) (pkF N 9), rW Z b ef op ln nm qu qd]) (Lr := [soW Z a N (zu (ins N) (pk N p 3) ((ins N (pk N p 3)) - 1)) (zu (mvF N) (((pk N p 3) * 4) + (goN N p)) ((N (60 + (((pk N p 3) * 4) + (goN N p)))) + 1)) (N 3), pW Z a (N 6) (pkF N 0) (pkF N 1) (pkF N 2) (pkF N 3) (pkF N 4) (pkF N 5) (pkF N 6) (pkF N 7) (pkF N 8) (pkF N 9), rW Z b ef op ln nm qu qd]) [1, 0, 2, 3] [1, 0, 2, 3] rfl rfl (fun _ => rfl) (fun ρ _ hρ => ?_)
    subst hρ
    refine z_eq (ws' := zf [soW Z a N (zu (ins N) (pk N p 3) ((ins N (pk N p 3)) - 1)) (zu (mvF N) (((pk N p 3) * 4) + (goN N p)) ((N (60 + (((pk N p 3) * 4) + (goN N p)))) + 1)) (N 3), gW Z a (N 4) (N 5) (bkL N), pW Z a (N 6) (pkF N 0) (pkF N 1) (pkF N 2) (pkF N 3) (pkF N 4) (pkF N 5) (pkF N 6) (pkF N 7) (pkF N 8) (pkF N 9), rW Z b ef op ln nm qu qd]) rfl ?_
    refine z_icmp_le (tgt := 110) ok dX5_movesOn_103 (by decide) (by omega) (by omega) (fun c103 => ?_) (fun c103 => ?_)
    · -- t
      have hz : zb (dtr N (pk N p 3) (nb N (pk N p 3) (goN N p)) (pk N p 1)) = 0 := zb_f (fun z => by unfold dtr at z; omega)
      refine z_iconst ok dX5_movesOn_110 ?_
      refine z_callVvf ok (fun l => c_X2_noteMove  (by omega) (by omega) (by omega)) zm_X2_noteMove zv_X2_noteMove qm_RX5_127 dX5_movesOn_111 (by decide) (by decide) rfl rfl (Nat.le_of_ble_eq_true rfl) (q0 := 0) rfl rfl rfl (L := [soW Z a N (zu (ins N) (pk N p 3) ((ins N (pk N p 3)) - 1)) (zu (mvF N) (((pk N p 3) * 4) + (goN N p)) ((N (60 + (((pk N p 3) * 4) + (goN N p)))) + 1)) (N 3), gW Z a (N 4) (N 5) (bkL N), pW Z a (N 6) (pkF N 0) (pkF N 1) (pkF N 2) (pkF N 3) (pkF N 4) (pkF N 5) (pkF N 6) (pkF N 7) (pkF N 8) (pkF N 9), rW Z b ef op ln nm qu qd]) (Lr := [soW Z a N (zu (ins N) (pk N p 3) ((ins N (pk N p 3)) - 1)) (zu (mvF N) (((pk N p 3) * 4) + (goN N p)) ((N (60 + (((pk N p 3) * 4) + (goN N p)))) + 1)) (N 3), gW Z a (N 4) (N 5) (bkL N), rW Z b ef op ln nm qu qd]) [2, 0, 1, 3] [1, 2, 0, 3] rfl rfl (fun _ => rfl) (fun _ hp111 => ?_)
      refine z_eq (ws' := zf [soW Z a N (zu (ins N) (pk N p 3) ((ins N (pk N p 3)) - 1)) (zu (mvF N) (((pk N p 3) * 4) + (goN N p)) ((N (60 + (((pk N p 3) * 4) + (goN N p)))) + 1)) (N 3), gW Z a (N 4) (N 5) (bkL N), pW Z a (N 6) (pkF N 0) (pkF N 1) (pkF N 2) (zu (pkF N 3) p (nb N (pk N p 3) (goN N p))) (zu (pkF N 4) p (pk N p 4 + 1)) (zu (pkF N 5) p (pk N p 5 + 0)) (pkF N 6) (pkF N 7) (pkF N 8) (zu (pkF N 9) p (if (goN N p) = 0 then pk N p 9 else 1)), rW Z b ef op ln nm qu qd]) rfl ?_
      refine z_iload ok dX5_movesOn_114 rfl ?_
      refine z_iload ok dX5_movesOn_116 rfl ?_
      refine z_icmp_ne (tgt := 147) ok dX5_movesOn_118 (by decide) (by omega) (by omega) (fun c118 => ?_) (fun c118 => ?_)
      · -- t
        refine z_aload_n ok dX5_movesOn_147 rfl ?_
        refine z_get (v := .ref (a 14)) ok zc5 0 rfl 3 (by decide) qf_RX5_29 rfl rfl dX5_movesOn_148 ?_
        refine z_iload ok dX5_movesOn_151 rfl ?_
        refine z_dup2 ok dX5_movesOn_153 rfl rfl ?_
        refine z_iald (f := zu (ins N) (pk N p 3) ((ins N (pk N p 3)) - 1)) ok 2 rfl dX5_movesOn_154 (by omega) (by decide) ?_
        refine z_iconst ok dX5_movesOn_155 ?_
        refine z_iadd ok dX5_movesOn_156 ?_
        refine z_iast (f := zu (ins N) (pk N p 3) ((ins N (pk N p 3)) - 1)) (v := ((zu (ins N) (pk N p 3) ((ins N (pk N p 3)) - 1)) (nb N (pk N p 3) (goN N p))) + 1) (ws' := zf [soW Z a N (zu (zu (ins N) (pk N p 3) ((ins N (pk N p 3)) - 1)) (nb N (pk N p 3) (goN N p)) (((zu (ins N) (pk N p 3) ((ins N (pk N p 3)) - 1)) (nb N (pk N p 3) (goN N p))) + 1)) (zu (mvF N) (((pk N p 3) * 4) + (goN N p)) ((N (60 + (((pk N p 3) * 4) + (goN N p)))) + 1)) (N 3), gW Z a (N 4) (N 5) (bkL N), pW Z a (N 6) (pkF N 0) (pkF N 1) (pkF N 2) (zu (pkF N 3) p (nb N (pk N p 3) (goN N p))) (zu (pkF N 4) p (pk N p 4 + 1)) (zu (pkF N 5) p (pk N p 5 + 0)) (pkF N 6) (pkF N 7) (pkF N 8) (zu (pkF N 9) p (if (goN N p) = 0 then pk N p 9 else 1)), rW Z b ef op ln nm qu qd]) ok 2 rfl dX5_movesOn_157 (by omega) (by decide) rfl ?_
        refine z_mv (d := goN N p) ok [rW Z b ef op ln nm qu qd] hw hp h2 (by omega) hnb0 (by rw [hz]) (by first | exact Or.inl ⟨c118, rfl, rfl, rfl⟩ | exact Or.inr ⟨c118, rfl, rfl, rfl⟩) ?_
        refine z_iconst ok dX5_movesOn_158 ?_
        exact fin 1 (mvN N p (goN N p)) 159 _ _ _ dX5_movesOn_159 (by first | decide | exact zb_01 _ | omega) (Or.inl ⟨rfl, hg0, rfl⟩) (by decide) (by decide)
      · -- f
        refine z_aload_n ok dX5_movesOn_121 rfl ?_
        refine z_get (v := .ref (a 3)) ok zc5 0 rfl 2 (by decide) qf_RX5_25 rfl rfl dX5_movesOn_122 ?_
        refine z_get (v := .ref (a 6)) ok zc2 5 rfl 3 (by decide) qf_RX5_88 rfl rfl dX5_movesOn_125 ?_
        refine z_iload_n ok dX5_movesOn_128 rfl ?_
        refine z_iconst ok dX5_movesOn_129 ?_
        refine z_iast (f := pkF N 2) (v := 2) (ws' := zf [soW Z a N (zu (ins N) (pk N p 3) ((ins N (pk N p 3)) - 1)) (zu (mvF N) (((pk N p 3) * 4) + (goN N p)) ((N (60 + (((pk N p 3) * 4) + (goN N p)))) + 1)) (N 3), gW Z a (N 4) (N 5) (bkL N), pW Z a (N 6) (pkF N 0) (pkF N 1) (zu (pkF N 2) p 2) (zu (pkF N 3) p (nb N (pk N p 3) (goN N p))) (zu (pkF N 4) p (pk N p 4 + 1)) (zu (pkF N 5) p (pk N p 5 + 0)) (pkF N 6) (pkF N 7) (pkF N 8) (zu (pkF N 9) p (if (goN N p) = 0 then pk N p 9 else 1)), rW Z b ef op ln nm qu qd]) ok 8 rfl dX5_movesOn_130 (by omega) (by decide) rfl ?_
        refine z_aload_n ok dX5_movesOn_131 rfl ?_
        refine z_get (v := .ref (a 3)) ok zc5 0 rfl 2 (by decide) qf_RX5_25 rfl rfl dX5_movesOn_132 ?_
        refine z_get (v := .ref (a 12)) ok zc2 5 rfl 9 (by decide) qf_RX5_131 rfl rfl dX5_movesOn_135 ?_
        refine z_iload_n ok dX5_movesOn_138 rfl ?_
        refine z_aload_n ok dX5_movesOn_139 rfl ?_
        refine z_get (v := .int (iI (N 3))) ok zc5 0 rfl 5 (by decide) qf_RX5_35 rfl rfl dX5_movesOn_140 ?_
        refine z_iast (f := pkF N 8) (v := N 3) (ws' := zf [soW Z a N (zu (ins N) (pk N p 3) ((ins N (pk N p 3)) - 1)) (zu (mvF N) (((pk N p 3) * 4) + (goN N p)) ((N (60 + (((pk N p 3) * 4) + (goN N p)))) + 1)) (N 3), gW Z a (N 4) (N 5) (bkL N), pW Z a (N 6) (pkF N 0) (pkF N 1) (zu (pkF N 2) p 2) (zu (pkF N 3) p (nb N (pk N p 3) (goN N p))) (zu (pkF N 4) p (pk N p 4 + 1)) (zu (pkF N 5) p (pk N p 5 + 0)) (pkF N 6) (pkF N 7) (zu (pkF N 8) p (N 3)) (zu (pkF N 9) p (if (goN N p) = 0 then pk N p 9 else 1)), rW Z b ef op ln nm qu qd]) ok 14 rfl dX5_movesOn_143 (by omega) (by decide) rfl ?_
        refine z_goto (tgt := 158) ok dX5_movesOn_144 (by decide) ?_
        refine z_mv (d := goN N p) ok [rW Z b ef op ln nm qu qd] hw hp h2 (by omega) hnb0 (by rw [hz]) (by first | exact Or.inl ⟨c118, rfl, rfl, rfl⟩ | exact Or.inr ⟨c118, rfl, rfl, rfl⟩) ?_
        refine z_iconst ok dX5_movesOn_158 ?_
        exact fin 1 (mvN N p (goN N p)) 159 _ _ _ dX5_movesOn_159 (by first | decide | exact zb_01 _ | omega) (Or.inl ⟨rfl, hg0, rfl⟩) (by decide) (by decide)
    · -- f
      have hz : zb (dtr N (pk N p 3) (nb N (pk N p 3) (goN N p)) (pk N p 1)) = 1 := zb_t (by unfold dtr; omega)
      refine z_iconst ok dX5_movesOn_106 ?_
      refine z_goto (tgt := 111) ok dX5_movesOn_107 (by decide) ?_
      refine z_callVvf ok (fun l => c_X2_noteMove  (by omega) (by omega) (by omega)) zm_X2_noteMove zv_X2_noteMove qm_RX5_127 dX5_movesOn_111 (by decide) (by decide) rfl rfl (Nat.le_of_ble_eq_true rfl) (q0 := 0) rfl rfl rfl (L := [soW Z a N (zu (ins N) (pk N p 3) ((ins N (pk N p 3)) - 1)) (zu (mvF N) (((pk N p 3) * 4) + (goN N p)) ((N (60 + (((pk N p 3) * 4) + (goN N p)))) + 1)) (N 3), gW Z a (N 4) (N 5) (bkL N), pW Z a (N 6) (pkF N 0) (pkF N 1) (pkF N 2) (pkF N 3) (pkF N 4) (pkF N 5) (pkF N 6) (pkF N 7) (pkF N 8) (pkF N 9), rW Z b ef op ln nm qu qd]) (Lr := [soW Z a N (zu (ins N) (pk N p 3) ((ins N (pk N p 3)) - 1)) (zu (mvF N) (((pk N p 3) * 4) + (goN N p)) ((N (60 + (((pk N p 3) * 4) + (goN N p)))) + 1)) (N 3), gW Z a (N 4) (N 5) (bkL N), rW Z b ef op ln nm qu qd]) [2, 0, 1, 3] [1, 2, 0, 3] rfl rfl (fun _ => rfl) (fun _ hp111 => ?_)
      refine z_eq (ws' := zf [soW Z a N (zu (ins N) (pk N p 3) ((ins N (pk N p 3)) - 1)) (zu (mvF N) (((pk N p 3) * 4) + (goN N p)) ((N (60 + (((pk N p 3) * 4) + (goN N p)))) + 1)) (N 3), gW Z a (N 4) (N 5) (bkL N), pW Z a (N 6) (pkF N 0) (pkF N 1) (pkF N 2) (zu (pkF N 3) p (nb N (pk N p 3) (goN N p))) (zu (pkF N 4) p (pk N p 4 + 1)) (zu (pkF N 5) p (pk N p 5 + 1)) (pkF N 6) (pkF N 7) (pkF N 8) (zu (pkF N 9) p (if (goN N p) = 0 then pk N p 9 else 1)), rW Z b ef op ln nm qu qd]) rfl ?_
      refine z_iload ok dX5_movesOn_114 rfl ?_
      refine z_iload ok dX5_movesOn_116 rfl ?_
      refine z_icmp_ne (tgt := 147) ok dX5_movesOn_118 (by decide) (by omega) (by omega) (fun c118 => ?_) (fun c118 => ?_)
      · -- t
        refine z_aload_n ok dX5_movesOn_147 rfl ?_
        refine z_get (v := .ref (a 14)) ok zc5 0 rfl 3 (by decide) qf_RX5_29 rfl rfl dX5_movesOn_148 ?_
        refine z_iload ok dX5_movesOn_151 rfl ?_
        refine z_dup2 ok dX5_movesOn_153 rfl rfl ?_
        refine z_iald (f := zu (ins N) (pk N p 3) ((ins N (pk N p 3)) - 1)) ok 2 rfl dX5_movesOn_154 (by omega) (by decide) ?_
        refine z_iconst ok dX5_movesOn_155 ?_
        refine z_iadd ok dX5_movesOn_156 ?_
        refine z_iast (f := zu (ins N) (pk N p 3) ((ins N (pk N p 3)) - 1)) (v := ((zu (ins N) (pk N p 3) ((ins N (pk N p 3)) - 1)) (nb N (pk N p 3) (goN N p))) + 1) (ws' := zf [soW Z a N (zu (zu (ins N) (pk N p 3) ((ins N (pk N p 3)) - 1)) (nb N (pk N p 3) (goN N p)) (((zu (ins N) (pk N p 3) ((ins N (pk N p 3)) - 1)) (nb N (pk N p 3) (goN N p))) + 1)) (zu (mvF N) (((pk N p 3) * 4) + (goN N p)) ((N (60 + (((pk N p 3) * 4) + (goN N p)))) + 1)) (N 3), gW Z a (N 4) (N 5) (bkL N), pW Z a (N 6) (pkF N 0) (pkF N 1) (pkF N 2) (zu (pkF N 3) p (nb N (pk N p 3) (goN N p))) (zu (pkF N 4) p (pk N p 4 + 1)) (zu (pkF N 5) p (pk N p 5 + 1)) (pkF N 6) (pkF N 7) (pkF N 8) (zu (pkF N 9) p (if (goN N p) = 0 then pk N p 9 else 1)), rW Z b ef op ln nm qu qd]) ok 2 rfl dX5_movesOn_157 (by omega) (by decide) rfl ?_
        refine z_mv (d := goN N p) ok [rW Z b ef op ln nm qu qd] hw hp h2 (by omega) hnb0 (by rw [hz]) (by first | exact Or.inl ⟨c118, rfl, rfl, rfl⟩ | exact Or.inr ⟨c118, rfl, rfl, rfl⟩) ?_
        refine z_iconst ok dX5_movesOn_158 ?_
        exact fin 1 (mvN N p (goN N p)) 159 _ _ _ dX5_movesOn_159 (by first | decide | exact zb_01 _ | omega) (Or.inl ⟨rfl, hg0, rfl⟩) (by decide) (by decide)
      · -- f
        refine z_aload_n ok dX5_movesOn_121 rfl ?_
        refine z_get (v := .ref (a 3)) ok zc5 0 rfl 2 (by decide) qf_RX5_25 rfl rfl dX5_movesOn_122 ?_
        refine z_get (v := .ref (a 6)) ok zc2 5 rfl 3 (by decide) qf_RX5_88 rfl rfl dX5_movesOn_125 ?_
        refine z_iload_n ok dX5_movesOn_128 rfl ?_
        refine z_iconst ok dX5_movesOn_129 ?_
        refine z_iast (f := pkF N 2) (v := 2) (ws' := zf [soW Z a N (zu (ins N) (pk N p 3) ((ins N (pk N p 3)) - 1)) (zu (mvF N) (((pk N p 3) * 4) + (goN N p)) ((N (60 + (((pk N p 3) * 4) + (goN N p)))) + 1)) (N 3), gW Z a (N 4) (N 5) (bkL N), pW Z a (N 6) (pkF N 0) (pkF N 1) (zu (pkF N 2) p 2) (zu (pkF N 3) p (nb N (pk N p 3) (goN N p))) (zu (pkF N 4) p (pk N p 4 + 1)) (zu (pkF N 5) p (pk N p 5 + 1)) (pkF N 6) (pkF N 7) (pkF N 8) (zu (pkF N 9) p (if (goN N p) = 0 then pk N p 9 else 1)), rW Z b ef op ln nm qu qd]) ok 8 rfl dX5_movesOn_130 (by omega) (by decide) rfl ?_
        refine z_aload_n ok dX5_movesOn_131 rfl ?_
        refine z_get (v := .ref (a 3)) ok zc5 0 rfl 2 (by decide) qf_RX5_25 rfl rfl dX5_movesOn_132 ?_
        refine z_get (v := .ref (a 12)) ok zc2 5 rfl 9 (by decide) qf_RX5_131 rfl rfl dX5_movesOn_135 ?_
        refine z_iload_n ok dX5_movesOn_138 rfl ?_
        refine z_aload_n ok dX5_movesOn_139 rfl ?_
        refine z_get (v := .int (iI (N 3))) ok zc5 0 rfl 5 (by decide) qf_RX5_35 rfl rfl dX5_movesOn_140 ?_
        refine z_iast (f := pkF N 8) (v := N 3) (ws' := zf [soW Z a N (zu (ins N) (pk N p 3) ((ins N (pk N p 3)) - 1)) (zu (mvF N) (((pk N p 3) * 4) + (goN N p)) ((N (60 + (((pk N p 3) * 4) + (goN N p)))) + 1)) (N 3), gW Z a (N 4) (N 5) (bkL N), pW Z a (N 6) (pkF N 0) (pkF N 1) (zu (pkF N 2) p 2) (zu (pkF N 3) p (nb N (pk N p 3) (goN N p))) (zu (pkF N 4) p (pk N p 4 + 1)) (zu (pkF N 5) p (pk N p 5 + 1)) (pkF N 6) (pkF N 7) (zu (pkF N 8) p (N 3)) (zu (pkF N 9) p (if (goN N p) = 0 then pk N p 9 else 1)), rW Z b ef op ln nm qu qd]) ok 14 rfl dX5_movesOn_143 (by omega) (by decide) rfl ?_
        refine z_goto (tgt := 158) ok dX5_movesOn_144 (by decide) ?_
        refine z_mv (d := goN N p) ok [rW Z b ef op ln nm qu qd] hw hp h2 (by omega) hnb0 (by rw [hz]) (by first | exact Or.inl ⟨c118, rfl, rfl, rfl⟩ | exact Or.inr ⟨c118, rfl, rfl, rfl⟩) ?_
        refine z_iconst ok dX5_movesOn_158 ?_
        exact fin 1 (mvN N p (goN N p)) 159 _ _ _ dX5_movesOn_159 (by first | decide | exact zb_01 _ | omega) (Or.inl ⟨rfl, hg0, rfl⟩) (by decide) (by decide)
  · -- f
    refine z_iconst ok dX5_movesOn_14 ?_
    exact fin 0 N 15 _ _ _ dX5_movesOn_15 (by first | decide | exact zb_01 _ | omega) (Or.inr ⟨rfl, by omega, rfl⟩) (by decide) (by decide)
set_option maxRecDepth 20000 in
theorem c_X5_passTicks {l : Launch} {Z : zZ} {a : Nat → Nat} {N : Int → Int} {b : Nat → Nat} {ef : Int} {op ln nm qu : Int → Int} {qd : Int} {n : Int} (hw : wf N) (hok : rOK N ef op ln) (hn : 0 ≤ n ∧ n ≤ 1000) : zN (T := Unit) l yX5_passTicks (Cond.code yX5_passTicks cX5_passTicks 7 none :: wsL_law) ({ frames := 5, cells := 0, slots := 0, locals := 124 } : Room) Z [.ref (a 0), .ref (b 0), .int (iI n)] (zf [soW Z a N (ins N) (mvF N) (N 3), gW Z a (N 4) (N 5) (bkL N), pW Z a (N 6) (pkF N 0) (pkF N 1) (pkF N 2) (pkF N 3) (pkF N 4) (pkF N 5) (pkF N 6) (pkF N 7) (pkF N 8) (pkF N 9), rW Z b ef op ln nm qu qd]) (fun _ => zf [soW Z a (tkN N n.toNat) (ins (tkN N n.toNat)) (mvF (tkN N n.toNat)) ((tkN N n.toNat) 3), gW Z a ((tkN N n.toNat) 4) ((tkN N n.toNat) 5) (bkL (tkN N n.toNat)), pW Z a ((tkN N n.toNat) 6) (pkF (tkN N n.toNat) 0) (pkF (tkN N n.toNat) 1) (pkF (tkN N n.toNat) 2) (pkF (tkN N n.toNat) 3) (pkF (tkN N n.toNat) 4) (pkF (tkN N n.toNat) 5) (pkF (tkN N n.toNat) 6) (pkF (tkN N n.toNat) 7) (pkF (tkN N n.toNat) 8) (pkF (tkN N n.toNat) 9), rW Z b ef op ln nm qu qd]) (fun _ => True) := by
  refine zN_of (C := RX5) (by decide +kernel) rfl (Nat.le_of_ble_eq_true rfl) (fun X ok fin => ?_)
  obtain ⟨w0, w1, w2, hc, hr, w6, wl, wp⟩ := id hw
  have hcr := cr_rng hc hr
  refine z_lsub ok (lv' := [(0, .ref (a 0)), (1, .ref (b 0)), (2, .int (iI n))]) [0, 1, 2] rfl ?_
  refine z_iconst ok dX5_passTicks_0 ?_
  refine z_istore_n (lv' := [(3, .int (iI 0)), (0, .ref (a 0)), (1, .ref (b 0)), (2, .int (iI n))]) ok dX5_passTicks_1 (by decide) rfl ?_
  have L2 : ∀ (fuel : Nat) (i : Int) (M : Int → Int), (0 ≤ i) → (i ≤ n) → (M = tkN N i.toNat) → (n - i).toNat < fuel → zV X 0 0 (zf [soW Z a M (ins M) (mvF M) (M 3), gW Z a (M 4) (M 5) (bkL M), pW Z a (M 6) (pkF M 0) (pkF M 1) (pkF M 2) (pkF M 3) (pkF M 4) (pkF M 5) (pkF M 6) (pkF M 7) (pkF M 8) (pkF M 9), rW Z b ef op ln nm qu qd]) 2 [(0, .ref (a 0)), (1, .ref (b 0)), (2, .int (iI n)), (3, .int (iI i))] [] := by
    intro fuel
    induction fuel with
    | zero => intro i M h2_0 h2_1 h2_2 hf; exact absurd hf (Nat.not_lt_zero _)
    | succ fuel ih2 =>
      intro i M h2_0 h2_1 h2_2 hf
      obtain ⟨hwM, hlM, h3M⟩ := wf_tks hw i.toNat
      have hsM := tks_same hw i.toNat
      rw [← h2_2] at hwM hlM h3M hsM
      have hokM := rOK_same hw hsM hok
      have h6M : M 6 = N 6 := hlM 6 (by decide) (by decide)
      refine z_iload_n ok dX5_passTicks_2 rfl ?_
      refine z_iload_n ok dX5_passTicks_3 rfl ?_
      refine z_icmp_ge (tgt := 112) ok dX5_passTicks_4 (by decide) (by omega) (by omega) (fun c4 => ?_) (fun c4 => ?_)
      · -- t
        have hi : i = n := by omega
        subst hi
        subst h2_2
        exact fin () 112 _ _ _ dX5_passTicks_112 (trivial) (by decide) (by decide)
      · -- f
        refine z_iconst ok dX5_passTicks_7 ?_
        refine z_istore (lv' := [(4, .int (iI 0)), (0, .ref (a 0)), (1, .ref (b 0)), (2, .int (iI n)), (3, .int (iI i))]) ok dX5_passTicks_8 (by decide) rfl ?_
        have L10 : ∀ (fuel : Nat) (p : Int) (K : Int → Int), (0 ≤ p) → (p ≤ M 6) → (K = stN M p.toNat) → (M 6 - p).toNat < fuel → zV X 0 0 (zf [soW Z a K (ins K) (mvF K) (K 3), gW Z a (K 4) (K 5) (bkL K), pW Z a (K 6) (pkF K 0) (pkF K 1) (pkF K 2) (pkF K 3) (pkF K 4) (pkF K 5) (pkF K 6) (pkF K 7) (pkF K 8) (pkF K 9), rW Z b ef op ln nm qu qd]) 10 [(0, .ref (a 0)), (1, .ref (b 0)), (2, .int (iI n)), (3, .int (iI i)), (4, .int (iI p))] [] := by
          intro fuel
          induction fuel with
          | zero => intro p K h10_0 h10_1 h10_2 hf; exact absurd hf (Nat.not_lt_zero _)
          | succ fuel ih10 =>
            intro p K h10_0 h10_1 h10_2 hf
            obtain ⟨hwK, hlK⟩ := wf_st hwM p.toNat (by omega)
            rw [← h10_2] at hwK hlK
            have hokK := rOK_same hwM (lo_same hlK) hokM
            have h6K : K 6 = M 6 := hlK 6 (by decide)
            refine z_iload ok dX5_passTicks_10 rfl ?_
            refine z_aload_n ok dX5_passTicks_12 rfl ?_
            refine z_get (v := .ref (a 3)) ok zc5 0 rfl 2 (by decide) qf_RX5_25 rfl rfl dX5_passTicks_13 ?_
            refine z_get (v := .int (iI (K 6))) ok zc2 5 rfl 0 (by decide) qf_RX5_110 rfl rfl dX5_passTicks_16 ?_
            refine z_icmp_ge (tgt := 96) ok dX5_passTicks_19 (by decide) (by omega) (by omega) (fun c19 => ?_) (fun c19 => ?_)
            · -- t
              refine z_aload_n ok dX5_passTicks_96 rfl ?_
              refine z_dup ok dX5_passTicks_97 rfl ?_
              refine z_get (v := .int (iI (K 3))) ok zc5 0 rfl 5 (by decide) qf_RX5_35 rfl rfl dX5_passTicks_98 ?_
              refine z_iconst ok dX5_passTicks_101 ?_
              refine z_iadd ok dX5_passTicks_102 ?_
              refine z_put (ws' := zf [soW Z a K (ins K) (mvF K) ((K 3) + 1), gW Z a (K 4) (K 5) (bkL K), pW Z a (K 6) (pkF K 0) (pkF K 1) (pkF K 2) (pkF K 3) (pkF K 4) (pkF K 5) (pkF K 6) (pkF K 7) (pkF K 8) (pkF K 9), rW Z b ef op ln nm qu qd]) ok zc5 0 rfl 5 (by decide) qf_RX5_35 rfl rfl rfl rfl (Nat.le_of_ble_eq_true rfl) dX5_passTicks_103 rfl ?_
              refine z_tk ok [rW Z b ef op ln nm qu qd] ?_
              refine z_iinc (lv' := [(3, .int (iI (i + 1))), (0, .ref (a 0)), (1, .ref (b 0)), (2, .int (iI n)), (4, .int (iI p))]) ok dX5_passTicks_106 3 rfl (by decide) rfl ?_
              refine z_goto (tgt := 2) ok dX5_passTicks_109 (by decide) ?_
              refine z_lsub ok (lv' := [(0, .ref (a 0)), (1, .ref (b 0)), (2, .int (iI n)), (3, .int (iI (i + 1)))]) [1, 2, 3, 0] rfl ?_
              have hKM : K = stN M (M 6).toNat := by rw [h10_2]; congr 1; omega
              exact ih2 _ (mvB K 3) (by omega) (by omega) (by rw [tkN_s (by omega) h2_2]; unfold pasN; rw [← hKM]) (by omega)
            · -- f
              have wpp := hwK.2.2.2.2.2.2.2 p (by omega) (by omega)
              refine z_aload_n ok dX5_passTicks_22 rfl ?_
              refine z_get (v := .ref (a 3)) ok zc5 0 rfl 2 (by decide) qf_RX5_25 rfl rfl dX5_passTicks_23 ?_
              refine z_get (v := .ref (a 6)) ok zc2 5 rfl 3 (by decide) qf_RX5_88 rfl rfl dX5_passTicks_26 ?_
              refine z_iload ok dX5_passTicks_29 rfl ?_
              refine z_iale (f := pkF K 2) (v := pk K p 2) ok 8 rfl rfl dX5_passTicks_31 (by omega) (by decide) ?_
              refine z_istore (lv' := [(5, .int (iI (pk K p 2))), (0, .ref (a 0)), (1, .ref (b 0)), (2, .int (iI n)), (3, .int (iI i)), (4, .int (iI p))]) ok dX5_passTicks_32 (by decide) rfl ?_
              refine z_iload ok dX5_passTicks_34 rfl ?_
              refine z_if_ne (tgt := 48) ok dX5_passTicks_36 (by decide) (by omega) (fun c36 => ?_) (fun c36 => ?_)
              · -- t
                refine z_iload ok dX5_passTicks_48 rfl ?_
                refine z_iconst ok dX5_passTicks_50 ?_
                refine z_icmp_ne (tgt := 68) ok dX5_passTicks_51 (by decide) (by omega) (by omega) (fun c51 => ?_) (fun c51 => ?_)
                · -- t
                  have hstp := stp_2 c36 c51
                  refine z_iconst ok dX5_passTicks_68 ?_
                  refine z_istore (lv' := [(6, .int (iI 0)), (5, .int (iI (pk K p 2))), (0, .ref (a 0)), (1, .ref (b 0)), (2, .int (iI n)), (3, .int (iI i)), (4, .int (iI p))]) ok dX5_passTicks_69 (by decide) rfl ?_
                  refine z_iload ok dX5_passTicks_71 rfl ?_
                  refine z_if_eq (tgt := 90) ok dX5_passTicks_73 (by decide) (by omega) (fun c73 => ?_) (fun c73 => ?_)
                  · -- t
                    refine z_iinc (lv' := [(4, .int (iI (p + 1))), (6, .int (iI 0)), (5, .int (iI (pk K p 2))), (0, .ref (a 0)), (1, .ref (b 0)), (2, .int (iI n)), (3, .int (iI i))]) ok dX5_passTicks_90 6 rfl (by decide) rfl ?_
                    refine z_goto (tgt := 10) ok dX5_passTicks_93 (by decide) ?_
                    refine z_lsub ok (lv' := [(0, .ref (a 0)), (1, .ref (b 0)), (2, .int (iI n)), (3, .int (iI i)), (4, .int (iI (p + 1)))]) [3, 4, 5, 6, 0] rfl ?_
                    exact ih10 _ K (by omega) (by omega) (by rw [stN_s (by omega) h10_2]; exact hstp) (by omega)
                  · -- f
                    exact absurd c73 (by decide)
                · -- f
                  refine z_aload_n ok dX5_passTicks_54 rfl ?_
                  refine z_aload_n ok dX5_passTicks_55 rfl ?_
                  refine z_iload ok dX5_passTicks_56 rfl ?_
                  refine z_callVi0 ok (fun l => c_X5_movesOn  (hwK) (hokK) (by omega) (c51)) zm_X5_movesOn zv_X5_movesOn qm_RX5_116 dX5_passTicks_58 (by decide) (by decide) rfl rfl (Nat.le_of_ble_eq_true rfl) (q0 := 0) rfl rfl rfl (fun r58 u58 hp58 => ?_)
                  obtain ⟨M_58, rfl⟩ : ∃ z, z = u58 := ⟨_, rfl⟩
                  try dsimp only at hp58
                  refine z_eq (ws' := zf [soW Z a M_58 (ins M_58) (mvF M_58) (M_58 3), gW Z a (M_58 4) (M_58 5) (bkL M_58), pW Z a (M_58 6) (pkF M_58 0) (pkF M_58 1) (pkF M_58 2) (pkF M_58 3) (pkF M_58 4) (pkF M_58 5) (pkF M_58 6) (pkF M_58 7) (pkF M_58 8) (pkF M_58 9), rW Z b ef op ln nm qu qd]) rfl ?_
                  refine z_if_ne (tgt := 68) ok dX5_passTicks_61 (by decide) (by rcases hp58 with ⟨e, _, _⟩ | ⟨e, _, _⟩ <;> omega) (fun c61 => ?_) (fun c61 => ?_)
                  · -- t
                    have hstp : M_58 = stpN K p := by rcases hp58 with ⟨_, e1, e2⟩ | ⟨e, _, _⟩; rw [e2]; exact stp_1y c51 e1; omega
                    refine z_iconst ok dX5_passTicks_68 ?_
                    refine z_istore (lv' := [(6, .int (iI 0)), (5, .int (iI (pk K p 2))), (0, .ref (a 0)), (1, .ref (b 0)), (2, .int (iI n)), (3, .int (iI i)), (4, .int (iI p))]) ok dX5_passTicks_69 (by decide) rfl ?_
                    refine z_iload ok dX5_passTicks_71 rfl ?_
                    refine z_if_eq (tgt := 90) ok dX5_passTicks_73 (by decide) (by omega) (fun c73 => ?_) (fun c73 => ?_)
                    · -- t
                      refine z_iinc (lv' := [(4, .int (iI (p + 1))), (6, .int (iI 0)), (5, .int (iI (pk K p 2))), (0, .ref (a 0)), (1, .ref (b 0)), (2, .int (iI n)), (3, .int (iI i))]) ok dX5_passTicks_90 6 rfl (by decide) rfl ?_
                      refine z_goto (tgt := 10) ok dX5_passTicks_93 (by decide) ?_
                      refine z_lsub ok (lv' := [(0, .ref (a 0)), (1, .ref (b 0)), (2, .int (iI n)), (3, .int (iI i)), (4, .int (iI (p + 1)))]) [3, 4, 5, 6, 0] rfl ?_
                      exact ih10 _ M_58 (by omega) (by omega) (by rw [stN_s (by omega) h10_2]; exact hstp) (by omega)
                    · -- f
                      exact absurd c73 (by decide)
                  · -- f
                    have hstp : bk M_58 p 6 (pk M_58 p 6 + 1) = stpN K p := by rcases hp58 with ⟨e, _, _⟩ | ⟨_, e1, e2⟩; omega; rw [e2]; exact stp_1n c51 e1
                    refine z_iconst ok dX5_passTicks_64 ?_
                    refine z_goto (tgt := 69) ok dX5_passTicks_65 (by decide) ?_
                    refine z_istore (lv' := [(6, .int (iI 1)), (5, .int (iI (pk K p 2))), (0, .ref (a 0)), (1, .ref (b 0)), (2, .int (iI n)), (3, .int (iI i)), (4, .int (iI p))]) ok dX5_passTicks_69 (by decide) rfl ?_
                    refine z_iload ok dX5_passTicks_71 rfl ?_
                    refine z_if_eq (tgt := 90) ok dX5_passTicks_73 (by decide) (by omega) (fun c73 => ?_) (fun c73 => ?_)
                    · -- t
                      exact absurd c73 (by decide)
                    · -- f
                      refine z_aload_n ok dX5_passTicks_76 rfl ?_
                      refine z_get (v := .ref (a 3)) ok zc5 0 rfl 2 (by decide) qf_RX5_25 rfl rfl dX5_passTicks_77 ?_
                      refine z_get (v := .ref (a 10)) ok zc2 5 rfl 7 (by decide) qf_RX5_120 rfl rfl dX5_passTicks_80 ?_
                      refine z_iload ok dX5_passTicks_83 rfl ?_
                      refine z_dup2 ok dX5_passTicks_85 rfl rfl ?_
                      refine z_iale (f := pkF M_58 6) (v := pk M_58 p 6) ok 12 rfl rfl dX5_passTicks_86 (by omega) (by decide) ?_
                      refine z_iconst ok dX5_passTicks_87 ?_
                      refine z_iadd ok dX5_passTicks_88 ?_
                      refine z_iast (f := pkF M_58 6) (v := (pk M_58 p 6) + 1) (ws' := zf [soW Z a M_58 (ins M_58) (mvF M_58) (M_58 3), gW Z a (M_58 4) (M_58 5) (bkL M_58), pW Z a (M_58 6) (pkF M_58 0) (pkF M_58 1) (pkF M_58 2) (pkF M_58 3) (pkF M_58 4) (pkF M_58 5) (zu (pkF M_58 6) p ((pk M_58 p 6) + 1)) (pkF M_58 7) (pkF M_58 8) (pkF M_58 9), rW Z b ef op ln nm qu qd]) ok 12 rfl dX5_passTicks_89 (by omega) (by decide) rfl ?_
                      refine z_wt ok [rW Z b ef op ln nm qu qd] (by omega) ?_
                      refine z_iinc (lv' := [(4, .int (iI (p + 1))), (6, .int (iI 1)), (5, .int (iI (pk K p 2))), (0, .ref (a 0)), (1, .ref (b 0)), (2, .int (iI n)), (3, .int (iI i))]) ok dX5_passTicks_90 6 rfl (by decide) rfl ?_
                      refine z_goto (tgt := 10) ok dX5_passTicks_93 (by decide) ?_
                      refine z_lsub ok (lv' := [(0, .ref (a 0)), (1, .ref (b 0)), (2, .int (iI n)), (3, .int (iI i)), (4, .int (iI (p + 1)))]) [3, 4, 5, 6, 0] rfl ?_
                      exact ih10 _ (bk M_58 p 6 (pk M_58 p 6 + 1)) (by omega) (by omega) (by rw [stN_s (by omega) h10_2]; exact hstp) (by omega)
              · -- f
                refine z_aload_n ok dX5_passTicks_39 rfl ?_
                refine z_iload ok dX5_passTicks_40 rfl ?_
                refine z_callVif ok (fun l => c_X5_comesInside  (hwK) (by omega) (c36)) zm_X5_comesInside zv_X5_comesInside qm_RX5_113 dX5_passTicks_42 (by decide) (by decide) rfl rfl (Nat.le_of_ble_eq_true rfl) (q0 := 0) rfl rfl rfl (L := [soW Z a K (ins K) (mvF K) (K 3), gW Z a (K 4) (K 5) (bkL K), pW Z a (K 6) (pkF K 0) (pkF K 1) (pkF K 2) (pkF K 3) (pkF K 4) (pkF K 5) (pkF K 6) (pkF K 7) (pkF K 8) (pkF K 9), rW Z b ef op ln nm qu qd]) (Lr := [rW Z b ef op ln nm qu qd]) [0, 1, 2, 3] [0, 1, 2, 3] rfl rfl (fun _ => rfl) (fun r42 u42 hp42 => ?_)
                obtain ⟨M_42, rfl⟩ : ∃ z, z = u42 := ⟨_, rfl⟩
                try dsimp only at hp42
                refine z_eq (ws' := zf [soW Z a M_42 (ins M_42) (mvF M_42) (M_42 3), gW Z a (M_42 4) (M_42 5) (bkL M_42), pW Z a (M_42 6) (pkF M_42 0) (pkF M_42 1) (pkF M_42 2) (pkF M_42 3) (pkF M_42 4) (pkF M_42 5) (pkF M_42 6) (pkF M_42 7) (pkF M_42 8) (pkF M_42 9), rW Z b ef op ln nm qu qd]) rfl ?_
                refine z_if_eq (tgt := 64) ok dX5_passTicks_45 (by decide) (by rcases hp42 with ⟨e, _, _⟩ | ⟨e, _, _⟩ <;> omega) (fun c45 => ?_) (fun c45 => ?_)
                · -- t
                  have hstp : bk M_42 p 6 (pk M_42 p 6 + 1) = stpN K p := by rcases hp42 with ⟨e, _, _⟩ | ⟨_, e1, e2⟩; omega; rw [e2]; exact stp_0n c36 e1
                  refine z_iconst ok dX5_passTicks_64 ?_
                  refine z_goto (tgt := 69) ok dX5_passTicks_65 (by decide) ?_
                  refine z_istore (lv' := [(6, .int (iI 1)), (5, .int (iI (pk K p 2))), (0, .ref (a 0)), (1, .ref (b 0)), (2, .int (iI n)), (3, .int (iI i)), (4, .int (iI p))]) ok dX5_passTicks_69 (by decide) rfl ?_
                  refine z_iload ok dX5_passTicks_71 rfl ?_
                  refine z_if_eq (tgt := 90) ok dX5_passTicks_73 (by decide) (by omega) (fun c73 => ?_) (fun c73 => ?_)
                  · -- t
                    exact absurd c73 (by decide)
                  · -- f
                    refine z_aload_n ok dX5_passTicks_76 rfl ?_
                    refine z_get (v := .ref (a 3)) ok zc5 0 rfl 2 (by decide) qf_RX5_25 rfl rfl dX5_passTicks_77 ?_
                    refine z_get (v := .ref (a 10)) ok zc2 5 rfl 7 (by decide) qf_RX5_120 rfl rfl dX5_passTicks_80 ?_
                    refine z_iload ok dX5_passTicks_83 rfl ?_
                    refine z_dup2 ok dX5_passTicks_85 rfl rfl ?_
                    refine z_iale (f := pkF M_42 6) (v := pk M_42 p 6) ok 12 rfl rfl dX5_passTicks_86 (by omega) (by decide) ?_
                    refine z_iconst ok dX5_passTicks_87 ?_
                    refine z_iadd ok dX5_passTicks_88 ?_
                    refine z_iast (f := pkF M_42 6) (v := (pk M_42 p 6) + 1) (ws' := zf [soW Z a M_42 (ins M_42) (mvF M_42) (M_42 3), gW Z a (M_42 4) (M_42 5) (bkL M_42), pW Z a (M_42 6) (pkF M_42 0) (pkF M_42 1) (pkF M_42 2) (pkF M_42 3) (pkF M_42 4) (pkF M_42 5) (zu (pkF M_42 6) p ((pk M_42 p 6) + 1)) (pkF M_42 7) (pkF M_42 8) (pkF M_42 9), rW Z b ef op ln nm qu qd]) ok 12 rfl dX5_passTicks_89 (by omega) (by decide) rfl ?_
                    refine z_wt ok [rW Z b ef op ln nm qu qd] (by omega) ?_
                    refine z_iinc (lv' := [(4, .int (iI (p + 1))), (6, .int (iI 1)), (5, .int (iI (pk K p 2))), (0, .ref (a 0)), (1, .ref (b 0)), (2, .int (iI n)), (3, .int (iI i))]) ok dX5_passTicks_90 6 rfl (by decide) rfl ?_
                    refine z_goto (tgt := 10) ok dX5_passTicks_93 (by decide) ?_
                    refine z_lsub ok (lv' := [(0, .ref (a 0)), (1, .ref (b 0)), (2, .int (iI n)), (3, .int (iI i)), (4, .int (iI (p + 1)))]) [3, 4, 5, 6, 0] rfl ?_
                    exact ih10 _ (bk M_42 p 6 (pk M_42 p 6 + 1)) (by omega) (by omega) (by rw [stN_s (by omega) h10_2]; exact hstp) (by omega)
                · -- f
                  have hstp : M_42 = stpN K p := by rcases hp42 with ⟨_, e1, e2⟩ | ⟨e, _, _⟩; rw [e2]; exact stp_0y c36 e1; omega
                  refine z_iload ok dX5_passTicks_48 rfl ?_
                  refine z_iconst ok dX5_passTicks_50 ?_
                  refine z_icmp_ne (tgt := 68) ok dX5_passTicks_51 (by decide) (by omega) (by omega) (fun c51 => ?_) (fun c51 => ?_)
                  · -- t
                    refine z_iconst ok dX5_passTicks_68 ?_
                    refine z_istore (lv' := [(6, .int (iI 0)), (5, .int (iI (pk K p 2))), (0, .ref (a 0)), (1, .ref (b 0)), (2, .int (iI n)), (3, .int (iI i)), (4, .int (iI p))]) ok dX5_passTicks_69 (by decide) rfl ?_
                    refine z_iload ok dX5_passTicks_71 rfl ?_
                    refine z_if_eq (tgt := 90) ok dX5_passTicks_73 (by decide) (by omega) (fun c73 => ?_) (fun c73 => ?_)
                    · -- t
                      refine z_iinc (lv' := [(4, .int (iI (p + 1))), (6, .int (iI 0)), (5, .int (iI (pk K p 2))), (0, .ref (a 0)), (1, .ref (b 0)), (2, .int (iI n)), (3, .int (iI i))]) ok dX5_passTicks_90 6 rfl (by decide) rfl ?_
                      refine z_goto (tgt := 10) ok dX5_passTicks_93 (by decide) ?_
                      refine z_lsub ok (lv' := [(0, .ref (a 0)), (1, .ref (b 0)), (2, .int (iI n)), (3, .int (iI i)), (4, .int (iI (p + 1)))]) [3, 4, 5, 6, 0] rfl ?_
                      exact ih10 _ M_42 (by omega) (by omega) (by rw [stN_s (by omega) h10_2]; exact hstp) (by omega)
                    · -- f
                      exact absurd c73 (by decide)
                  · -- f
                    exact absurd c51 (by omega)
        refine z_lsub ok (lv' := [(0, .ref (a 0)), (1, .ref (b 0)), (2, .int (iI n)), (3, .int (iI i)), (4, .int (iI 0))]) [1, 2, 3, 4, 0] rfl ?_
        exact L10 _ _ M (by omega) (by omega) (rfl) (Nat.lt_succ_self _)
  refine z_lsub ok (lv' := [(0, .ref (a 0)), (1, .ref (b 0)), (2, .int (iI n)), (3, .int (iI 0))]) [1, 2, 3, 0] rfl ?_
  exact L2 _ _ N (by omega) (by omega) (rfl) (Nat.lt_succ_self _)
set_option maxRecDepth 20000 in
theorem c_X5_copyState {l : Launch} {Z : zZ} {a a2 : Nat → Nat} {sst siv smf sp0 sp1 sp2 sp3 sp4 sp5 sp6 sp7 sp8 sp9 tst tiv tmf tp0 tp1 tp2 tp3 tp4 tp5 tp6 tp7 tp8 tp9 : Int → Int} {stk sc sr ssn ttk tc tr tsn : Int} {sbk tbk : Int64}  : zN (T := Unit) l yX5_copyState (Cond.code yX5_copyState cX5_copyState 2 none :: wsL_law) ({ frames := 2, cells := 0, slots := 0, locals := 69 } : Room) Z [.ref (a 0), .ref (a2 0)] (zf [soW Z a sst siv smf stk, gW Z a sc sr sbk, pW Z a ssn sp0 sp1 sp2 sp3 sp4 sp5 sp6 sp7 sp8 sp9, soW Z a2 tst tiv tmf ttk, gW Z a2 tc tr tbk, pW Z a2 tsn tp0 tp1 tp2 tp3 tp4 tp5 tp6 tp7 tp8 tp9]) (fun _ => zf [soW Z a sst siv smf stk, gW Z a sc sr sbk, pW Z a ssn sp0 sp1 sp2 sp3 sp4 sp5 sp6 sp7 sp8 sp9, soW Z a2 sst siv smf stk, gW Z a2 sc sr sbk, pW Z a2 ssn sp0 sp1 sp2 sp3 sp4 sp5 sp6 sp7 sp8 sp9]) (fun _ => True) := by
  refine zN_of (C := RX5) (by decide +kernel) rfl (Nat.le_of_ble_eq_true rfl) (fun X ok fin => ?_)
  refine z_lsub ok (lv' := [(0, .ref (a 0)), (1, .ref (a2 0))]) [0, 1] rfl ?_
  refine z_aload_n ok dX5_copyState_0 rfl ?_
  refine z_ifnull ok dX5_copyState_1 ?_
  refine z_aload_n ok dX5_copyState_4 rfl ?_
  refine z_ifnonnull (tgt := 9) ok dX5_copyState_5 (by decide) ?_
  refine z_aload_n ok dX5_copyState_9 rfl ?_
  refine z_get (v := .ref (a 1)) ok zc5 0 rfl 0 (by decide) qf_RX5_9 rfl rfl dX5_copyState_10 ?_
  refine z_iconst ok dX5_copyState_13 ?_
  refine z_aload_n ok dX5_copyState_14 rfl ?_
  refine z_get (v := .ref (a2 1)) ok zc5 16 rfl 0 (by decide) qf_RX5_9 rfl rfl dX5_copyState_15 ?_
  refine z_iconst ok dX5_copyState_18 ?_
  refine z_iconst ok dX5_copyState_19 ?_
  refine z_copyA (f := sst) (g := tst) (ws' := zf [soW Z a sst siv smf stk, gW Z a sc sr sbk, pW Z a ssn sp0 sp1 sp2 sp3 sp4 sp5 sp6 sp7 sp8 sp9, soW Z a2 sst tiv tmf ttk, gW Z a2 tc tr tbk, pW Z a2 tsn tp0 tp1 tp2 tp3 tp4 tp5 tp6 tp7 tp8 tp9]) ok 1 17 rfl rfl rfl (by decide) qm_RX5_39 dX5_copyState_20 (by decide) (Nat.le_of_ble_eq_true rfl) rfl ?_
  refine z_aload_n ok dX5_copyState_23 rfl ?_
  refine z_get (v := .ref (a2 2)) ok zc5 16 rfl 1 (by decide) qf_RX5_18 rfl rfl dX5_copyState_24 ?_
  refine z_aload_n ok dX5_copyState_27 rfl ?_
  refine z_get (v := .ref (a 2)) ok zc5 0 rfl 1 (by decide) qf_RX5_18 rfl rfl dX5_copyState_28 ?_
  refine z_callVvf ok (fun l => c_X0_copyGrid  ) zm_X0_copyGrid zv_X0_copyGrid qm_RX5_45 dX5_copyState_31 (by decide) (by decide) rfl rfl (Nat.le_of_ble_eq_true rfl) (q0 := 0) rfl rfl rfl (L := [soW Z a sst siv smf stk, gW Z a sc sr sbk, pW Z a ssn sp0 sp1 sp2 sp3 sp4 sp5 sp6 sp7 sp8 sp9, soW Z a2 sst tiv tmf ttk, gW Z a2 tc tr tbk, pW Z a2 tsn tp0 tp1 tp2 tp3 tp4 tp5 tp6 tp7 tp8 tp9]) (Lr := [soW Z a sst siv smf stk, pW Z a ssn sp0 sp1 sp2 sp3 sp4 sp5 sp6 sp7 sp8 sp9, soW Z a2 sst tiv tmf ttk, pW Z a2 tsn tp0 tp1 tp2 tp3 tp4 tp5 tp6 tp7 tp8 tp9]) [4, 1, 0, 2, 3, 5] [2, 1, 3, 4, 0, 5] rfl rfl (fun _ => rfl) (fun _ hp31 => ?_)
  refine z_eq (ws' := zf [soW Z a sst siv smf stk, gW Z a sc sr sbk, pW Z a ssn sp0 sp1 sp2 sp3 sp4 sp5 sp6 sp7 sp8 sp9, soW Z a2 sst tiv tmf ttk, gW Z a2 sc sr sbk, pW Z a2 tsn tp0 tp1 tp2 tp3 tp4 tp5 tp6 tp7 tp8 tp9]) rfl ?_
  refine z_aload_n ok dX5_copyState_34 rfl ?_
  refine z_get (v := .ref (a2 3)) ok zc5 16 rfl 2 (by decide) qf_RX5_25 rfl rfl dX5_copyState_35 ?_
  refine z_aload_n ok dX5_copyState_38 rfl ?_
  refine z_get (v := .ref (a 3)) ok zc5 0 rfl 2 (by decide) qf_RX5_25 rfl rfl dX5_copyState_39 ?_
  refine z_callVvf ok (fun l => c_X2_copyPackets  ) zm_X2_copyPackets zv_X2_copyPackets qm_RX5_49 dX5_copyState_42 (by decide) (by decide) rfl rfl (Nat.le_of_ble_eq_true rfl) (q0 := 0) rfl rfl rfl (L := [soW Z a sst siv smf stk, gW Z a sc sr sbk, pW Z a ssn sp0 sp1 sp2 sp3 sp4 sp5 sp6 sp7 sp8 sp9, soW Z a2 sst tiv tmf ttk, gW Z a2 sc sr sbk, pW Z a2 tsn tp0 tp1 tp2 tp3 tp4 tp5 tp6 tp7 tp8 tp9]) (Lr := [soW Z a sst siv smf stk, gW Z a sc sr sbk, soW Z a2 sst tiv tmf ttk, gW Z a2 sc sr sbk]) [5, 2, 0, 1, 3, 4] [2, 3, 1, 4, 5, 0] rfl rfl (fun _ => rfl) (fun _ hp42 => ?_)
  refine z_eq (ws' := zf [soW Z a sst siv smf stk, gW Z a sc sr sbk, pW Z a ssn sp0 sp1 sp2 sp3 sp4 sp5 sp6 sp7 sp8 sp9, soW Z a2 sst tiv tmf ttk, gW Z a2 sc sr sbk, pW Z a2 ssn sp0 sp1 sp2 sp3 sp4 sp5 sp6 sp7 sp8 sp9]) rfl ?_
  refine z_aload_n ok dX5_copyState_45 rfl ?_
  refine z_get (v := .ref (a 14)) ok zc5 0 rfl 3 (by decide) qf_RX5_29 rfl rfl dX5_copyState_46 ?_
  refine z_iconst ok dX5_copyState_49 ?_
  refine z_aload_n ok dX5_copyState_50 rfl ?_
  refine z_get (v := .ref (a2 14)) ok zc5 16 rfl 3 (by decide) qf_RX5_29 rfl rfl dX5_copyState_51 ?_
  refine z_iconst ok dX5_copyState_54 ?_
  refine z_bipush ok dX5_copyState_55 (by decide) ?_
  refine z_copyA (f := siv) (g := tiv) (ws' := zf [soW Z a sst siv smf stk, gW Z a sc sr sbk, pW Z a ssn sp0 sp1 sp2 sp3 sp4 sp5 sp6 sp7 sp8 sp9, soW Z a2 sst siv tmf ttk, gW Z a2 sc sr sbk, pW Z a2 ssn sp0 sp1 sp2 sp3 sp4 sp5 sp6 sp7 sp8 sp9]) ok 2 18 rfl rfl rfl (by decide) qm_RX5_39 dX5_copyState_57 (by decide) (Nat.le_of_ble_eq_true rfl) rfl ?_
  refine z_aload_n ok dX5_copyState_60 rfl ?_
  refine z_get (v := .ref (a 15)) ok zc5 0 rfl 4 (by decide) qf_RX5_32 rfl rfl dX5_copyState_61 ?_
  refine z_iconst ok dX5_copyState_64 ?_
  refine z_aload_n ok dX5_copyState_65 rfl ?_
  refine z_get (v := .ref (a2 15)) ok zc5 16 rfl 4 (by decide) qf_RX5_32 rfl rfl dX5_copyState_66 ?_
  refine z_iconst ok dX5_copyState_69 ?_
  refine z_bipush ok dX5_copyState_70 (by decide) ?_
  refine z_copyA (f := smf) (g := tmf) (ws' := zf [soW Z a sst siv smf stk, gW Z a sc sr sbk, pW Z a ssn sp0 sp1 sp2 sp3 sp4 sp5 sp6 sp7 sp8 sp9, soW Z a2 sst siv smf ttk, gW Z a2 sc sr sbk, pW Z a2 ssn sp0 sp1 sp2 sp3 sp4 sp5 sp6 sp7 sp8 sp9]) ok 3 19 rfl rfl rfl (by decide) qm_RX5_39 dX5_copyState_72 (by decide) (Nat.le_of_ble_eq_true rfl) rfl ?_
  refine z_aload_n ok dX5_copyState_75 rfl ?_
  refine z_aload_n ok dX5_copyState_76 rfl ?_
  refine z_get (v := .int (iI stk)) ok zc5 0 rfl 5 (by decide) qf_RX5_35 rfl rfl dX5_copyState_77 ?_
  refine z_put (ws' := zf [soW Z a sst siv smf stk, gW Z a sc sr sbk, pW Z a ssn sp0 sp1 sp2 sp3 sp4 sp5 sp6 sp7 sp8 sp9, soW Z a2 sst siv smf stk, gW Z a2 sc sr sbk, pW Z a2 ssn sp0 sp1 sp2 sp3 sp4 sp5 sp6 sp7 sp8 sp9]) ok zc5 16 rfl 5 (by decide) qf_RX5_35 rfl rfl rfl rfl (Nat.le_of_ble_eq_true rfl) dX5_copyState_80 rfl ?_
  exact fin () 83 _ _ _ dX5_copyState_83 (trivial) (by decide) (by decide)
