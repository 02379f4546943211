set_option maxRecDepth 20000 in
theorem c_X6_set {l : Launch} {Z : zZ} {x a b a3 b4 c e : Nat → Nat} {und : Int} {ss : List Nat} {us : Int → Int} {N : Int → Int} {A : Nat → Nat → Nat} {H : Nat → Int → Int} {ef : Int} {op ln nm qu : Int → Int} {qd : Int} {i v : Int} (hw : wf N) (hok : rOK N ef op ln) (hu : 0 ≤ und ∧ und ≤ 6) (hir : -2147483648 ≤ i ∧ i < 2147483648) (hvr : -2147483648 ≤ v ∧ v < 2147483648) : zI (T := (Int → Int) × ((Nat → Nat → Nat) × (Nat → Int → Int) × Int) × (Int × (Int → Int)) × (Int → Int) × (Int → Int) × (Int → Int) × Int) l yX6_set (Cond.code yX6_set cX6_set 4 (some .int) :: wsL_law) ({ frames := 5, cells := 0, slots := 0, locals := 122 } : Room) Z [.ref (x 0), .int (iI i), .int (iI v)] (zf [soW Z a N (ins N) (mvF N) (N 3), gW Z a (N 4) (N 5) (bkL N), pW Z a (N 6) (pkF N 0) (pkF N 1) (pkF N 2) (pkF N 3) (pkF N 4) (pkF N 5) (pkF N 6) (pkF N 7) (pkF N 8) (pkF N 9), xW Z x (a 0) (b 0) (a3 0) (b4 0) (c 0) (e 0) und ([A 0 0, A 1 0, A 2 0, A 3 0, A 4 0, A 5 0]) ss us, hW Z A H, rW Z b ef op ln nm qu qd]) (fun u => zf [soW Z a u.1 (ins u.1) (mvF u.1) (u.1 3), gW Z a (u.1 4) (u.1 5) (bkL u.1), pW Z a (u.1 6) (pkF u.1 0) (pkF u.1 1) (pkF u.1 2) (pkF u.1 3) (pkF u.1 4) (pkF u.1 5) (pkF u.1 6) (pkF u.1 7) (pkF u.1 8) (pkF u.1 9), xW Z x (a 0) (b 0) (a3 0) (b4 0) (c 0) (e 0) u.2.1.2.2 ([u.2.1.1 0 0, u.2.1.1 1 0, u.2.1.1 2 0, u.2.1.1 3 0, u.2.1.1 4 0, u.2.1.1 5 0]) ss us, hW Z u.2.1.1 u.2.1.2.1, rW Z b u.2.2.1.1 u.2.2.1.2 u.2.2.2.1 u.2.2.2.2.1 u.2.2.2.2.2.1 u.2.2.2.2.2.2]) (fun ρ u => rOK u.1 u.2.2.1.1 u.2.2.1.2 u.2.2.2.1 ∧ ((¬ okS i v ∧ ρ = -2 ∧ u.1 = N ∧ u.2.1 = (A, H, und)) ∨ (okS i v ∧ ρ = N i ∧ u.1 = zu N i v ∧ recP und H N u.2.1.2.2 u.2.1.2.1))) := by
  refine zI_of (C := RX6) (by decide +kernel) rfl (Nat.le_of_ble_eq_true rfl) (fun _ => True) znI (fun X ok fin => ?_)
  obtain ⟨w0, w1, w2, hc, hr, w6, wl, wp⟩ := id hw
  have hcr := cr_rng hc hr
  refine z_lsub ok (lv' := [(0, .ref (x 0)), (1, .int (iI i)), (2, .int (iI v))]) [0, 1, 2] rfl ?_
  refine z_iload_n ok dX6_set_0 rfl ?_
  refine z_if_lt (tgt := 9) ok dX6_set_1 (by decide) (by omega) (fun c1 => ?_) (fun c1 => ?_)
  · -- t
    refine z_bipush ok dX6_set_9 (by decide) ?_
    exact fin (-2) (N, (A, H, und), (ef, op), ln, nm, qu, qd) 11 _ _ _ dX6_set_11 (trivial) (⟨hok, Or.inl ⟨by unfold okS; omega, rfl, rfl, rfl⟩⟩) (by decide) (by decide)
  · -- f
    refine z_iload_n ok dX6_set_4 rfl ?_
    refine z_iconst ok dX6_set_5 ?_
    refine z_icmp_lt (tgt := 12) ok dX6_set_6 (by decide) (by omega) (by omega) (fun c6 => ?_) (fun c6 => ?_)
    · -- t
      refine z_iload_n ok dX6_set_12 rfl ?_
      refine z_iload_n ok dX6_set_13 rfl ?_
      refine z_callSie ok (fun l => c_X6_leastOfSetting  (by omega)) zm_X6_leastOfSetting qt_X6_leastOfSetting qm_RX6_61 dX6_set_14 (by decide) (by decide) rfl rfl (Nat.le_of_ble_eq_true rfl) (fun ρ _ hρ => ?_)
      subst hρ
      refine z_icmp_lt (tgt := 28) ok dX6_set_17 (by decide) (by omega) (by split <;> omega) (fun c17 => ?_) (fun c17 => ?_)
      · -- t
        refine z_bipush ok dX6_set_28 (by decide) ?_
        exact fin (-2) (N, (A, H, und), (ef, op), ln, nm, qu, qd) 30 _ _ _ dX6_set_30 (trivial) (⟨hok, Or.inl ⟨by unfold okS; (first | (split at c17 <;> omega) | (split at c25 <;> omega)), rfl, rfl, rfl⟩⟩) (by decide) (by decide)
      · -- f
        refine z_iload_n ok dX6_set_20 rfl ?_
        refine z_iload_n ok dX6_set_21 rfl ?_
        refine z_callSie ok (fun l => c_X6_mostOfSetting  (by omega)) zm_X6_mostOfSetting qt_X6_mostOfSetting qm_RX6_65 dX6_set_22 (by decide) (by decide) rfl rfl (Nat.le_of_ble_eq_true rfl) (fun ρ _ hρ => ?_)
        subst hρ
        refine z_icmp_le (tgt := 31) ok dX6_set_25 (by decide) (by omega) (by split <;> omega) (fun c25 => ?_) (fun c25 => ?_)
        · -- t
          have hoks : okS i v := by unfold okS; (split at c17) <;> (split at c25) <;> omega
          refine z_aload_n ok dX6_set_31 rfl ?_
          refine z_callVvf ok (fun l => c_X6_recordState  (hu)) zm_X6_recordState zv_X6_recordState qm_RX6_68 dX6_set_32 (by decide) (by decide) rfl rfl (Nat.le_of_ble_eq_true rfl) (q0 := 16) rfl rfl rfl (L := [soW Z a N (ins N) (mvF N) (N 3), gW Z a (N 4) (N 5) (bkL N), pW Z a (N 6) (pkF N 0) (pkF N 1) (pkF N 2) (pkF N 3) (pkF N 4) (pkF N 5) (pkF N 6) (pkF N 7) (pkF N 8) (pkF N 9), xW Z x (a 0) (b 0) (a3 0) (b4 0) (c 0) (e 0) und ([A 0 0, A 1 0, A 2 0, A 3 0, A 4 0, A 5 0]) ss us, hW Z A H, rW Z b ef op ln nm qu qd]) (Lr := [rW Z b ef op ln nm qu qd]) [0, 1, 2, 3, 4, 5] [0, 1, 2, 3, 4, 5] rfl rfl (fun _ => rfl) (fun u32 hp32 => ?_)
          obtain ⟨A_32, H_32, un_32⟩ := u32
          try dsimp only at hp32
          refine z_eq (ws' := zf [soW Z a N (ins N) (mvF N) (N 3), gW Z a (N 4) (N 5) (bkL N), pW Z a (N 6) (pkF N 0) (pkF N 1) (pkF N 2) (pkF N 3) (pkF N 4) (pkF N 5) (pkF N 6) (pkF N 7) (pkF N 8) (pkF N 9), xW Z x (a 0) (b 0) (a3 0) (b4 0) (c 0) (e 0) un_32 ([A_32 0 0, A_32 1 0, A_32 2 0, A_32 3 0, A_32 4 0, A_32 5 0]) ss us, hW Z A_32 H_32, rW Z b ef op ln nm qu qd]) rfl ?_
          refine z_aload_n ok dX6_set_35 rfl ?_
          refine z_get (v := .ref (a 0)) ok zc6 16 rfl 0 (by decide) qf_RX6_12 rfl rfl dX6_set_36 ?_
          refine z_get (v := .ref (a 1)) ok zc5 0 rfl 0 (by decide) qf_RX6_71 rfl rfl dX6_set_39 ?_
          refine z_iload_n ok dX6_set_42 rfl ?_
          refine z_iald (f := N) ok 1 rfl dX6_set_43 (by omega) (by decide) ?_
          refine z_istore_n (lv' := [(3, .int (iI (N i))), (0, .ref (x 0)), (1, .int (iI i)), (2, .int (iI v))]) ok dX6_set_44 (by decide) rfl ?_
          refine z_aload_n ok dX6_set_45 rfl ?_
          refine z_get (v := .ref (a 0)) ok zc6 16 rfl 0 (by decide) qf_RX6_12 rfl rfl dX6_set_46 ?_
          refine z_get (v := .ref (a 1)) ok zc5 0 rfl 0 (by decide) qf_RX6_71 rfl rfl dX6_set_49 ?_
          refine z_iload_n ok dX6_set_52 rfl ?_
          refine z_iload_n ok dX6_set_53 rfl ?_
          refine z_iast (f := N) (v := v) (ws' := zf [soW Z a (zu N i v) (ins N) (mvF N) (N 3), gW Z a (N 4) (N 5) (bkL N), pW Z a (N 6) (pkF N 0) (pkF N 1) (pkF N 2) (pkF N 3) (pkF N 4) (pkF N 5) (pkF N 6) (pkF N 7) (pkF N 8) (pkF N 9), xW Z x (a 0) (b 0) (a3 0) (b4 0) (c 0) (e 0) un_32 ([A_32 0 0, A_32 1 0, A_32 2 0, A_32 3 0, A_32 4 0, A_32 5 0]) ss us, hW Z A_32 H_32, rW Z b ef op ln nm qu qd]) ok 1 rfl dX6_set_54 (by omega) (by decide) rfl ?_
          refine z_set ok _ (by omega) ?_
          refine z_aload_n ok dX6_set_55 rfl ?_
          refine z_callVvf ok (fun l => c_X6_learnRoutes  (wf_set hw hoks)) zm_X6_learnRoutes zv_X6_learnRoutes qm_RX6_58 dX6_set_56 (by decide) (by decide) rfl rfl (Nat.le_of_ble_eq_true rfl) (q0 := 16) rfl rfl rfl (L := [soW Z a (zu N i v) (ins (zu N i v)) (mvF (zu N i v)) ((zu N i v) 3), gW Z a ((zu N i v) 4) ((zu N i v) 5) (bkL (zu N i v)), pW Z a ((zu N i v) 6) (pkF (zu N i v) 0) (pkF (zu N i v) 1) (pkF (zu N i v) 2) (pkF (zu N i v) 3) (pkF (zu N i v) 4) (pkF (zu N i v) 5) (pkF (zu N i v) 6) (pkF (zu N i v) 7) (pkF (zu N i v) 8) (pkF (zu N i v) 9), xW Z x (a 0) (b 0) (a3 0) (b4 0) (c 0) (e 0) un_32 ([A_32 0 0, A_32 1 0, A_32 2 0, A_32 3 0, A_32 4 0, A_32 5 0]) ss us, hW Z A_32 H_32, rW Z b ef op ln nm qu qd]) (Lr := [hW Z A_32 H_32]) [0, 1, 2, 3, 5, 4] [0, 1, 2, 3, 5, 4] rfl rfl (fun _ => rfl) (fun u56 hp56 => ?_)
          obtain ⟨ro_56, ln_56, nm_56, qu_56, qd_56⟩ := u56
          try dsimp only at hp56
          refine z_eq (ws' := zf [soW Z a (zu N i v) (ins (zu N i v)) (mvF (zu N i v)) ((zu N i v) 3), gW Z a ((zu N i v) 4) ((zu N i v) 5) (bkL (zu N i v)), pW Z a ((zu N i v) 6) (pkF (zu N i v) 0) (pkF (zu N i v) 1) (pkF (zu N i v) 2) (pkF (zu N i v) 3) (pkF (zu N i v) 4) (pkF (zu N i v) 5) (pkF (zu N i v) 6) (pkF (zu N i v) 7) (pkF (zu N i v) 8) (pkF (zu N i v) 9), xW Z x (a 0) (b 0) (a3 0) (b4 0) (c 0) (e 0) un_32 ([A_32 0 0, A_32 1 0, A_32 2 0, A_32 3 0, A_32 4 0, A_32 5 0]) ss us, hW Z A_32 H_32, rW Z b ro_56.1 ro_56.2 ln_56 nm_56 qu_56 qd_56]) rfl ?_
          refine z_iload_n ok dX6_set_59 rfl ?_
          exact fin (N i) (zu N i v, (A_32, H_32, un_32), (ro_56.1, ro_56.2), ln_56, nm_56, qu_56, qd_56) 60 _ _ _ dX6_set_60 (trivial) (⟨hp56, Or.inr ⟨hoks, rfl, rfl, hp32⟩⟩) (by decide) (by decide)
        · -- f
          refine z_bipush ok dX6_set_28 (by decide) ?_
          exact fin (-2) (N, (A, H, und), (ef, op), ln, nm, qu, qd) 30 _ _ _ dX6_set_30 (trivial) (⟨hok, Or.inl ⟨by unfold okS; (first | (split at c17 <;> omega) | (split at c25 <;> omega)), rfl, rfl, rfl⟩⟩) (by decide) (by decide)
    · -- f
      refine z_bipush ok dX6_set_9 (by decide) ?_
      exact fin (-2) (N, (A, H, und), (ef, op), ln, nm, qu, qd) 11 _ _ _ dX6_set_11 (trivial) (⟨hok, Or.inl ⟨by unfold okS; omega, rfl, rfl, rfl⟩⟩) (by decide) (by decide)
set_option maxRecDepth 20000 in
theorem c_X6_mesh {l : Launch} {Z : zZ} {x a b a3 b4 c e : Nat → Nat} {und : Int} {ss : List Nat} {us : Int → Int} {N : Int → Int} {A : Nat → Nat → Nat} {H : Nat → Int → Int} {ef : Int} {op ln nm qu : Int → Int} {qd : Int} {c0 r0 : Int} (hw : wf N) (hok : rOK N ef op ln) (hu : 0 ≤ und ∧ und ≤ 6) (hc0r : -2147483648 ≤ c0 ∧ c0 < 2147483648) (hr0r : -2147483648 ≤ r0 ∧ r0 < 2147483648) : zI (T := (Int → Int) × ((Nat → Nat → Nat) × (Nat → Int → Int) × Int) × (Int × (Int → Int)) × (Int → Int) × (Int → Int) × (Int → Int) × Int) l yX6_mesh (Cond.code yX6_mesh cX6_mesh 3 (some .int) :: wsL_law) ({ frames := 5, cells := 0, slots := 0, locals := 122 } : Room) Z [.ref (x 0), .int (iI c0), .int (iI r0)] (zf [soW Z a N (ins N) (mvF N) (N 3), gW Z a (N 4) (N 5) (bkL N), pW Z a (N 6) (pkF N 0) (pkF N 1) (pkF N 2) (pkF N 3) (pkF N 4) (pkF N 5) (pkF N 6) (pkF N 7) (pkF N 8) (pkF N 9), xW Z x (a 0) (b 0) (a3 0) (b4 0) (c 0) (e 0) und ([A 0 0, A 1 0, A 2 0, A 3 0, A 4 0, A 5 0]) ss us, hW Z A H, rW Z b ef op ln nm qu qd]) (fun u => zf [soW Z a u.1 (ins u.1) (mvF u.1) (u.1 3), gW Z a (u.1 4) (u.1 5) (bkL u.1), pW Z a (u.1 6) (pkF u.1 0) (pkF u.1 1) (pkF u.1 2) (pkF u.1 3) (pkF u.1 4) (pkF u.1 5) (pkF u.1 6) (pkF u.1 7) (pkF u.1 8) (pkF u.1 9), xW Z x (a 0) (b 0) (a3 0) (b4 0) (c 0) (e 0) u.2.1.2.2 ([u.2.1.1 0 0, u.2.1.1 1 0, u.2.1.1 2 0, u.2.1.1 3 0, u.2.1.1 4 0, u.2.1.1 5 0]) ss us, hW Z u.2.1.1 u.2.1.2.1, rW Z b u.2.2.1.1 u.2.2.1.2 u.2.2.2.1 u.2.2.2.2.1 u.2.2.2.2.2.1 u.2.2.2.2.2.2]) (fun ρ u => rOK u.1 u.2.2.1.1 u.2.2.1.2 u.2.2.2.1 ∧ ((¬ okL c0 r0 ∧ ρ = -2 ∧ u.1 = N ∧ u.2.1 = (A, H, und)) ∨ ((okL c0 r0 ∧ 0 < N 6) ∧ ρ = -5 ∧ u.1 = N ∧ u.2.1 = (A, H, und)) ∨ ((okL c0 r0 ∧ N 6 ≤ 0) ∧ ρ = c0 * r0 ∧ u.1 = mshN N c0 r0 ∧ recP und H N u.2.1.2.2 u.2.1.2.1))) := by
  refine zI_of (C := RX6) (by decide +kernel) rfl (Nat.le_of_ble_eq_true rfl) (fun _ => True) znI (fun X ok fin => ?_)
  obtain ⟨w0, w1, w2, hc, hr, w6, wl, wp⟩ := id hw
  have hcr := cr_rng hc hr
  refine z_lsub ok (lv' := [(0, .ref (x 0)), (1, .int (iI c0)), (2, .int (iI r0))]) [0, 1, 2] rfl ?_
  refine z_iload_n ok dX6_mesh_0 rfl ?_
  refine z_callSie ok (fun l => c_X6_isLine  (by omega)) zm_X6_isLine qt_X6_isLine qm_RX6_75 dX6_mesh_1 (by decide) (by decide) rfl rfl (Nat.le_of_ble_eq_true rfl) (fun ρ _ hρ => ?_)
  subst hρ
  refine z_ifb_eq (tgt := 14) ok dX6_mesh_4 (by decide) (fun c4 => ?_) (fun c4 => ?_)
  · -- t
    refine z_bipush ok dX6_mesh_14 (by decide) ?_
    exact fin (-2) (N, (A, H, und), (ef, op), ln, nm, qu, qd) 16 _ _ _ dX6_mesh_16 (trivial) (⟨hok, Or.inl ⟨by unfold okL; omega, rfl, rfl, rfl⟩⟩) (by decide) (by decide)
  · -- f
    refine z_iload_n ok dX6_mesh_7 rfl ?_
    refine z_callSie ok (fun l => c_X6_isLine  (by omega)) zm_X6_isLine qt_X6_isLine qm_RX6_75 dX6_mesh_8 (by decide) (by decide) rfl rfl (Nat.le_of_ble_eq_true rfl) (fun ρ _ hρ => ?_)
    subst hρ
    refine z_ifb_ne (tgt := 17) ok dX6_mesh_11 (by decide) (fun c11 => ?_) (fun c11 => ?_)
    · -- t
      refine z_aload_n ok dX6_mesh_17 rfl ?_
      refine z_get (v := .ref (a 0)) ok zc6 16 rfl 0 (by decide) qf_RX6_12 rfl rfl dX6_mesh_18 ?_
      refine z_get (v := .ref (a 3)) ok zc5 0 rfl 2 (by decide) qf_RX6_79 rfl rfl dX6_mesh_21 ?_
      refine z_get (v := .int (iI (N 6))) ok zc2 5 rfl 0 (by decide) qf_RX6_83 rfl rfl dX6_mesh_24 ?_
      refine z_if_le (tgt := 33) ok dX6_mesh_27 (by decide) (by omega) (fun c27 => ?_) (fun c27 => ?_)
      · -- t
        refine z_aload_n ok dX6_mesh_33 rfl ?_
        refine z_callVvf ok (fun l => c_X6_recordState  (hu)) zm_X6_recordState zv_X6_recordState qm_RX6_68 dX6_mesh_34 (by decide) (by decide) rfl rfl (Nat.le_of_ble_eq_true rfl) (q0 := 16) rfl rfl rfl (L := [soW Z a N (ins N) (mvF N) (N 3), gW Z a (N 4) (N 5) (bkL N), pW Z a (N 6) (pkF N 0) (pkF N 1) (pkF N 2) (pkF N 3) (pkF N 4) (pkF N 5) (pkF N 6) (pkF N 7) (pkF N 8) (pkF N 9), xW Z x (a 0) (b 0) (a3 0) (b4 0) (c 0) (e 0) und ([A 0 0, A 1 0, A 2 0, A 3 0, A 4 0, A 5 0]) ss us, hW Z A H, rW Z b ef op ln nm qu qd]) (Lr := [rW Z b ef op ln nm qu qd]) [0, 1, 2, 3, 4, 5] [0, 1, 2, 3, 4, 5] rfl rfl (fun _ => rfl) (fun u34 hp34 => ?_)
        obtain ⟨A_34, H_34, un_34⟩ := u34
        try dsimp only at hp34
        refine z_eq (ws' := zf [soW Z a N (ins N) (mvF N) (N 3), gW Z a (N 4) (N 5) (bkL N), pW Z a (N 6) (pkF N 0) (pkF N 1) (pkF N 2) (pkF N 3) (pkF N 4) (pkF N 5) (pkF N 6) (pkF N 7) (pkF N 8) (pkF N 9), xW Z x (a 0) (b 0) (a3 0) (b4 0) (c 0) (e 0) un_34 ([A_34 0 0, A_34 1 0, A_34 2 0, A_34 3 0, A_34 4 0, A_34 5 0]) ss us, hW Z A_34 H_34, rW Z b ef op ln nm qu qd]) rfl ?_
        refine z_aload_n ok dX6_mesh_37 rfl ?_
        refine z_get (v := .ref (a 0)) ok zc6 16 rfl 0 (by decide) qf_RX6_12 rfl rfl dX6_mesh_38 ?_
        refine z_get (v := .ref (a 2)) ok zc5 0 rfl 1 (by decide) qf_RX6_88 rfl rfl dX6_mesh_41 ?_
        refine z_iload_n ok dX6_mesh_44 rfl ?_
        refine z_iload_n ok dX6_mesh_45 rfl ?_
        refine z_callVvf ok (fun l => c_X0_layOut  ) zm_X0_layOut zv_X0_layOut qm_RX6_92 dX6_mesh_46 (by decide) (by decide) rfl rfl (Nat.le_of_ble_eq_true rfl) (q0 := 0) rfl rfl rfl (L := [soW Z a N (ins N) (mvF N) (N 3), gW Z a (N 4) (N 5) (bkL N), pW Z a (N 6) (pkF N 0) (pkF N 1) (pkF N 2) (pkF N 3) (pkF N 4) (pkF N 5) (pkF N 6) (pkF N 7) (pkF N 8) (pkF N 9), xW Z x (a 0) (b 0) (a3 0) (b4 0) (c 0) (e 0) un_34 ([A_34 0 0, A_34 1 0, A_34 2 0, A_34 3 0, A_34 4 0, A_34 5 0]) ss us, hW Z A_34 H_34, rW Z b ef op ln nm qu qd]) (Lr := [soW Z a N (ins N) (mvF N) (N 3), pW Z a (N 6) (pkF N 0) (pkF N 1) (pkF N 2) (pkF N 3) (pkF N 4) (pkF N 5) (pkF N 6) (pkF N 7) (pkF N 8) (pkF N 9), xW Z x (a 0) (b 0) (a3 0) (b4 0) (c 0) (e 0) un_34 ([A_34 0 0, A_34 1 0, A_34 2 0, A_34 3 0, A_34 4 0, A_34 5 0]) ss us, hW Z A_34 H_34, rW Z b ef op ln nm qu qd]) [1, 0, 2, 3, 4, 5] [1, 0, 2, 3, 4, 5] rfl rfl (fun _ => rfl) (fun _ hp46 => ?_)
        refine z_eq (ws' := zf [soW Z a N (ins N) (mvF N) (N 3), gW Z a c0 r0 (iL 0), pW Z a (N 6) (pkF N 0) (pkF N 1) (pkF N 2) (pkF N 3) (pkF N 4) (pkF N 5) (pkF N 6) (pkF N 7) (pkF N 8) (pkF N 9), xW Z x (a 0) (b 0) (a3 0) (b4 0) (c 0) (e 0) un_34 ([A_34 0 0, A_34 1 0, A_34 2 0, A_34 3 0, A_34 4 0, A_34 5 0]) ss us, hW Z A_34 H_34, rW Z b ef op ln nm qu qd]) rfl ?_
        refine z_msh ok _ ?_
        refine z_aload_n ok dX6_mesh_49 rfl ?_
        refine z_callVvf ok (fun l => c_X6_learnRoutes  (wf_msh hw (by omega) ⟨c4, c11⟩)) zm_X6_learnRoutes zv_X6_learnRoutes qm_RX6_58 dX6_mesh_50 (by decide) (by decide) rfl rfl (Nat.le_of_ble_eq_true rfl) (q0 := 16) rfl rfl rfl (L := [soW Z a (mshN N c0 r0) (ins (mshN N c0 r0)) (mvF (mshN N c0 r0)) ((mshN N c0 r0) 3), gW Z a ((mshN N c0 r0) 4) ((mshN N c0 r0) 5) (bkL (mshN N c0 r0)), pW Z a ((mshN N c0 r0) 6) (pkF (mshN N c0 r0) 0) (pkF (mshN N c0 r0) 1) (pkF (mshN N c0 r0) 2) (pkF (mshN N c0 r0) 3) (pkF (mshN N c0 r0) 4) (pkF (mshN N c0 r0) 5) (pkF (mshN N c0 r0) 6) (pkF (mshN N c0 r0) 7) (pkF (mshN N c0 r0) 8) (pkF (mshN N c0 r0) 9), xW Z x (a 0) (b 0) (a3 0) (b4 0) (c 0) (e 0) un_34 ([A_34 0 0, A_34 1 0, A_34 2 0, A_34 3 0, A_34 4 0, A_34 5 0]) ss us, hW Z A_34 H_34, rW Z b ef op ln nm qu qd]) (Lr := [hW Z A_34 H_34]) [0, 1, 2, 3, 5, 4] [0, 1, 2, 3, 5, 4] rfl rfl (fun _ => rfl) (fun u50 hp50 => ?_)
        obtain ⟨ro_50, ln_50, nm_50, qu_50, qd_50⟩ := u50
        try dsimp only at hp50
        refine z_eq (ws' := zf [soW Z a (mshN N c0 r0) (ins (mshN N c0 r0)) (mvF (mshN N c0 r0)) ((mshN N c0 r0) 3), gW Z a ((mshN N c0 r0) 4) ((mshN N c0 r0) 5) (bkL (mshN N c0 r0)), pW Z a ((mshN N c0 r0) 6) (pkF (mshN N c0 r0) 0) (pkF (mshN N c0 r0) 1) (pkF (mshN N c0 r0) 2) (pkF (mshN N c0 r0) 3) (pkF (mshN N c0 r0) 4) (pkF (mshN N c0 r0) 5) (pkF (mshN N c0 r0) 6) (pkF (mshN N c0 r0) 7) (pkF (mshN N c0 r0) 8) (pkF (mshN N c0 r0) 9), xW Z x (a 0) (b 0) (a3 0) (b4 0) (c 0) (e 0) un_34 ([A_34 0 0, A_34 1 0, A_34 2 0, A_34 3 0, A_34 4 0, A_34 5 0]) ss us, hW Z A_34 H_34, rW Z b ro_50.1 ro_50.2 ln_50 nm_50 qu_50 qd_50]) rfl ?_
        refine z_aload_n ok dX6_mesh_53 rfl ?_
        refine z_get (v := .ref (a 0)) ok zc6 16 rfl 0 (by decide) qf_RX6_12 rfl rfl dX6_mesh_54 ?_
        refine z_get (v := .ref (a 2)) ok zc5 0 rfl 1 (by decide) qf_RX6_88 rfl rfl dX6_mesh_57 ?_
        have e4 : mshN N c0 r0 4 = c0 := by rw [msh_v, if_neg (by omega), if_neg (by omega), if_pos rfl]
        have e5 : mshN N c0 r0 5 = r0 := by rw [msh_v, if_neg (by omega), if_pos rfl]
        refine z_callVif ok (fun l => c_X0_boxes  ) zm_X0_boxes zv_X0_boxes qm_RX6_98 dX6_mesh_60 (by decide) (by decide) rfl rfl (Nat.le_of_ble_eq_true rfl) (q0 := 0) rfl rfl rfl (L := [soW Z a (mshN N c0 r0) (ins (mshN N c0 r0)) (mvF (mshN N c0 r0)) ((mshN N c0 r0) 3), gW Z a ((mshN N c0 r0) 4) ((mshN N c0 r0) 5) (bkL (mshN N c0 r0)), pW Z a ((mshN N c0 r0) 6) (pkF (mshN N c0 r0) 0) (pkF (mshN N c0 r0) 1) (pkF (mshN N c0 r0) 2) (pkF (mshN N c0 r0) 3) (pkF (mshN N c0 r0) 4) (pkF (mshN N c0 r0) 5) (pkF (mshN N c0 r0) 6) (pkF (mshN N c0 r0) 7) (pkF (mshN N c0 r0) 8) (pkF (mshN N c0 r0) 9), xW Z x (a 0) (b 0) (a3 0) (b4 0) (c 0) (e 0) un_34 ([A_34 0 0, A_34 1 0, A_34 2 0, A_34 3 0, A_34 4 0, A_34 5 0]) ss us, hW Z A_34 H_34, rW Z b ro_50.1 ro_50.2 ln_50 nm_50 qu_50 qd_50]) (Lr := [soW Z a (mshN N c0 r0) (ins (mshN N c0 r0)) (mvF (mshN N c0 r0)) ((mshN N c0 r0) 3), pW Z a ((mshN N c0 r0) 6) (pkF (mshN N c0 r0) 0) (pkF (mshN N c0 r0) 1) (pkF (mshN N c0 r0) 2) (pkF (mshN N c0 r0) 3) (pkF (mshN N c0 r0) 4) (pkF (mshN N c0 r0) 5) (pkF (mshN N c0 r0) 6) (pkF (mshN N c0 r0) 7) (pkF (mshN N c0 r0) 8) (pkF (mshN N c0 r0) 9), xW Z x (a 0) (b 0) (a3 0) (b4 0) (c 0) (e 0) un_34 ([A_34 0 0, A_34 1 0, A_34 2 0, A_34 3 0, A_34 4 0, A_34 5 0]) ss us, hW Z A_34 H_34, rW Z b ro_50.1 ro_50.2 ln_50 nm_50 qu_50 qd_50]) [1, 0, 2, 3, 4, 5] [1, 0, 2, 3, 4, 5] rfl rfl (fun _ => rfl) (fun ρ _ hρ => ?_)
        subst hρ
        refine z_eq (ws' := zf [soW Z a (mshN N c0 r0) (ins (mshN N c0 r0)) (mvF (mshN N c0 r0)) ((mshN N c0 r0) 3), gW Z a ((mshN N c0 r0) 4) ((mshN N c0 r0) 5) (bkL (mshN N c0 r0)), pW Z a ((mshN N c0 r0) 6) (pkF (mshN N c0 r0) 0) (pkF (mshN N c0 r0) 1) (pkF (mshN N c0 r0) 2) (pkF (mshN N c0 r0) 3) (pkF (mshN N c0 r0) 4) (pkF (mshN N c0 r0) 5) (pkF (mshN N c0 r0) 6) (pkF (mshN N c0 r0) 7) (pkF (mshN N c0 r0) 8) (pkF (mshN N c0 r0) 9), xW Z x (a 0) (b 0) (a3 0) (b4 0) (c 0) (e 0) un_34 ([A_34 0 0, A_34 1 0, A_34 2 0, A_34 3 0, A_34 4 0, A_34 5 0]) ss us, hW Z A_34 H_34, rW Z b ro_50.1 ro_50.2 ln_50 nm_50 qu_50 qd_50]) rfl ?_
        exact fin ((mshN N c0 r0) 4 * (mshN N c0 r0) 5) (mshN N c0 r0, (A_34, H_34, un_34), (ro_50.1, ro_50.2), ln_50, nm_50, qu_50, qd_50) 63 _ _ _ dX6_mesh_63 (trivial) (⟨hp50, Or.inr (Or.inr ⟨⟨⟨c4, c11⟩, by omega⟩, by rw [e4, e5], rfl, hp34⟩)⟩) (by decide) (by decide)
      · -- f
        refine z_bipush ok dX6_mesh_30 (by decide) ?_
        exact fin (-5) (N, (A, H, und), (ef, op), ln, nm, qu, qd) 32 _ _ _ dX6_mesh_32 (trivial) (⟨hok, Or.inr (Or.inl ⟨⟨⟨c4, c11⟩, by omega⟩, rfl, rfl, rfl⟩)⟩) (by decide) (by decide)
    · -- f
      refine z_bipush ok dX6_mesh_14 (by decide) ?_
      exact fin (-2) (N, (A, H, und), (ef, op), ln, nm, qu, qd) 16 _ _ _ dX6_mesh_16 (trivial) (⟨hok, Or.inl ⟨by unfold okL; omega, rfl, rfl, rfl⟩⟩) (by decide) (by decide)
set_option maxRecDepth 20000 in
theorem c_X6_link {l : Launch} {Z : zZ} {x a b a3 b4 c e : Nat → Nat} {und : Int} {ss : List Nat} {us : Int → Int} {N : Int → Int} {A : Nat → Nat → Nat} {H : Nat → Int → Int} {ef : Int} {op ln nm qu : Int → Int} {qd : Int} {bb d w : Int} (hw : wf N) (hok : rOK N ef op ln) (hu : 0 ≤ und ∧ und ≤ 6) (hbbr : -2147483648 ≤ bb ∧ bb < 2147483648) (hdr : -2147483648 ≤ d ∧ d < 2147483648) (hwr : -2147483648 ≤ w ∧ w < 2147483648) : zI (T := (Int → Int) × ((Nat → Nat → Nat) × (Nat → Int → Int) × Int) × (Int × (Int → Int)) × (Int → Int) × (Int → Int) × (Int → Int) × Int) l yX6_link (Cond.code yX6_link cX6_link 5 (some .int) :: wsL_law) ({ frames := 6, cells := 0, slots := 0, locals := 147 } : Room) Z [.ref (x 0), .int (iI bb), .int (iI d), .int (iI w)] (zf [soW Z a N (ins N) (mvF N) (N 3), gW Z a (N 4) (N 5) (bkL N), pW Z a (N 6) (pkF N 0) (pkF N 1) (pkF N 2) (pkF N 3) (pkF N 4) (pkF N 5) (pkF N 6) (pkF N 7) (pkF N 8) (pkF N 9), xW Z x (a 0) (b 0) (a3 0) (b4 0) (c 0) (e 0) und ([A 0 0, A 1 0, A 2 0, A 3 0, A 4 0, A 5 0]) ss us, hW Z A H, rW Z b ef op ln nm qu qd]) (fun u => zf [soW Z a u.1 (ins u.1) (mvF u.1) (u.1 3), gW Z a (u.1 4) (u.1 5) (bkL u.1), pW Z a (u.1 6) (pkF u.1 0) (pkF u.1 1) (pkF u.1 2) (pkF u.1 3) (pkF u.1 4) (pkF u.1 5) (pkF u.1 6) (pkF u.1 7) (pkF u.1 8) (pkF u.1 9), xW Z x (a 0) (b 0) (a3 0) (b4 0) (c 0) (e 0) u.2.1.2.2 ([u.2.1.1 0 0, u.2.1.1 1 0, u.2.1.1 2 0, u.2.1.1 3 0, u.2.1.1 4 0, u.2.1.1 5 0]) ss us, hW Z u.2.1.1 u.2.1.2.1, rW Z b u.2.2.1.1 u.2.2.1.2 u.2.2.2.1 u.2.2.2.2.1 u.2.2.2.2.2.1 u.2.2.2.2.2.2]) (fun ρ u => rOK u.1 u.2.2.1.1 u.2.2.1.2 u.2.2.2.1 ∧ ((¬ lnkQ N bb d w ∧ ρ = lnkR N bb d w ∧ u.1 = N ∧ u.2.1 = (A, H, und)) ∨ (lnkQ N bb d w ∧ ρ = lnkR N bb d w ∧ u.1 = zu N (lkm N bb d) (1 - w) ∧ recP und H N u.2.1.2.2 u.2.1.2.1))) := by
  refine zI_of (C := RX6) (by decide +kernel) rfl (Nat.le_of_ble_eq_true rfl) (fun _ => True) znI (fun X ok fin => ?_)
  obtain ⟨w0, w1, w2, hc, hr, w6, wl, wp⟩ := id hw
  have hcr := cr_rng hc hr
  refine z_lsub ok (lv' := [(0, .ref (x 0)), (1, .int (iI bb)), (2, .int (iI d)), (3, .int (iI w))]) [0, 1, 2, 3] rfl ?_
  refine z_aload_n ok dX6_link_0 rfl ?_
  refine z_iload_n ok dX6_link_1 rfl ?_
  refine z_iload_n ok dX6_link_2 rfl ?_
  refine z_iload_n ok dX6_link_3 rfl ?_
  refine z_callVif ok (fun l => c_X6_linkError  (hw) (by omega) (by omega) (by omega)) zm_X6_linkError zv_X6_linkError qm_RX6_102 dX6_link_4 (by decide) (by decide) rfl rfl (Nat.le_of_ble_eq_true rfl) (q0 := 5) rfl rfl rfl (L := [soW Z a N (ins N) (mvF N) (N 3), gW Z a (N 4) (N 5) (bkL N), pW Z a (N 6) (pkF N 0) (pkF N 1) (pkF N 2) (pkF N 3) (pkF N 4) (pkF N 5) (pkF N 6) (pkF N 7) (pkF N 8) (pkF N 9), xW Z x (a 0) (b 0) (a3 0) (b4 0) (c 0) (e 0) und ([A 0 0, A 1 0, A 2 0, A 3 0, A 4 0, A 5 0]) ss us, hW Z A H, rW Z b ef op ln nm qu qd]) (Lr := [pW Z a (N 6) (pkF N 0) (pkF N 1) (pkF N 2) (pkF N 3) (pkF N 4) (pkF N 5) (pkF N 6) (pkF N 7) (pkF N 8) (pkF N 9), hW Z A H, rW Z b ef op ln nm qu qd]) [0, 1, 3, 2, 4, 5] [0, 1, 3, 2, 4, 5] rfl rfl (fun _ => rfl) (fun ρ _ hρ => ?_)
  subst hρ
  refine z_eq (ws' := zf [soW Z a N (ins N) (mvF N) (N 3), gW Z a (N 4) (N 5) (bkL N), pW Z a (N 6) (pkF N 0) (pkF N 1) (pkF N 2) (pkF N 3) (pkF N 4) (pkF N 5) (pkF N 6) (pkF N 7) (pkF N 8) (pkF N 9), xW Z x (a 0) (b 0) (a3 0) (b4 0) (c 0) (e 0) und ([A 0 0, A 1 0, A 2 0, A 3 0, A 4 0, A 5 0]) ss us, hW Z A H, rW Z b ef op ln nm qu qd]) rfl ?_
  refine z_istore (lv' := [(4, .int (iI (lkE N bb d w))), (0, .ref (x 0)), (1, .int (iI bb)), (2, .int (iI d)), (3, .int (iI w))]) ok dX6_link_7 (by decide) rfl ?_
  have hl0 := lkE_0 (N := N) (b := bb) (d := d) (w := w)
  have hlr : -2 ≤ lkE N bb d w ∧ lkE N bb d w ≤ 0 := by unfold lkE; (first | (by_cases h1 : badK N bb d; (rw [zif_t h1]; decide); (rw [zif_f h1]; by_cases h2 : (0 ≤ d ∧ d ≤ 3) ∧ 0 ≤ w ∧ w ≤ 1; (rw [zif_t h2]; decide); (rw [zif_f h2]; decide))))
  refine z_iload ok dX6_link_9 rfl ?_
  refine z_if_eq (tgt := 17) ok dX6_link_11 (by decide) (by omega) (fun c11 => ?_) (fun c11 => ?_)
  · -- t
    have hq := hl0.1.mp (by omega)
    have hbn := bad_not hq.2.1 hq.1
    refine z_aload_n ok dX6_link_17 rfl ?_
    refine z_callVvf ok (fun l => c_X6_recordState  (hu)) zm_X6_recordState zv_X6_recordState qm_RX6_68 dX6_link_18 (by decide) (by decide) rfl rfl (Nat.le_of_ble_eq_true rfl) (q0 := 16) rfl rfl rfl (L := [soW Z a N (ins N) (mvF N) (N 3), gW Z a (N 4) (N 5) (bkL N), pW Z a (N 6) (pkF N 0) (pkF N 1) (pkF N 2) (pkF N 3) (pkF N 4) (pkF N 5) (pkF N 6) (pkF N 7) (pkF N 8) (pkF N 9), xW Z x (a 0) (b 0) (a3 0) (b4 0) (c 0) (e 0) und ([A 0 0, A 1 0, A 2 0, A 3 0, A 4 0, A 5 0]) ss us, hW Z A H, rW Z b ef op ln nm qu qd]) (Lr := [rW Z b ef op ln nm qu qd]) [0, 1, 2, 3, 4, 5] [0, 1, 2, 3, 4, 5] rfl rfl (fun _ => rfl) (fun u18 hp18 => ?_)
    obtain ⟨A_18, H_18, un_18⟩ := u18
    try dsimp only at hp18
    refine z_eq (ws' := zf [soW Z a N (ins N) (mvF N) (N 3), gW Z a (N 4) (N 5) (bkL N), pW Z a (N 6) (pkF N 0) (pkF N 1) (pkF N 2) (pkF N 3) (pkF N 4) (pkF N 5) (pkF N 6) (pkF N 7) (pkF N 8) (pkF N 9), xW Z x (a 0) (b 0) (a3 0) (b4 0) (c 0) (e 0) un_18 ([A_18 0 0, A_18 1 0, A_18 2 0, A_18 3 0, A_18 4 0, A_18 5 0]) ss us, hW Z A_18 H_18, rW Z b ef op ln nm qu qd]) rfl ?_
    refine z_aload_n ok dX6_link_21 rfl ?_
    refine z_iload_n ok dX6_link_22 rfl ?_
    refine z_iload_n ok dX6_link_23 rfl ?_
    refine z_iload_n ok dX6_link_24 rfl ?_
    refine z_callVif ok (fun l => c_X6_changeLink  (hw) (hbn.1) (hq.2.1) (hbn.2) (hq.2.2)) zm_X6_changeLink zv_X6_changeLink qm_RX6_106 dX6_link_25 (by decide) (by decide) rfl rfl (Nat.le_of_ble_eq_true rfl) (q0 := 16) rfl rfl rfl (L := [soW Z a N (ins N) (mvF N) (N 3), gW Z a (N 4) (N 5) (bkL N), pW Z a (N 6) (pkF N 0) (pkF N 1) (pkF N 2) (pkF N 3) (pkF N 4) (pkF N 5) (pkF N 6) (pkF N 7) (pkF N 8) (pkF N 9), xW Z x (a 0) (b 0) (a3 0) (b4 0) (c 0) (e 0) un_18 ([A_18 0 0, A_18 1 0, A_18 2 0, A_18 3 0, A_18 4 0, A_18 5 0]) ss us, hW Z A_18 H_18, rW Z b ef op ln nm qu qd]) (Lr := [hW Z A_18 H_18]) [0, 1, 2, 3, 5, 4] [0, 1, 2, 3, 5, 4] rfl rfl (fun _ => rfl) (fun r25 u25 hp25 => ?_)
    obtain ⟨ro_25, ln_25, nm_25, qu_25, qd_25⟩ := u25
    try dsimp only at hp25
    obtain ⟨rfl, hk25⟩ := hp25
    refine z_eq (ws' := zf [soW Z a (zu N (lkm N bb d) (1 - w)) (ins (zu N (lkm N bb d) (1 - w))) (mvF (zu N (lkm N bb d) (1 - w))) ((zu N (lkm N bb d) (1 - w)) 3), gW Z a ((zu N (lkm N bb d) (1 - w)) 4) ((zu N (lkm N bb d) (1 - w)) 5) (bkL (zu N (lkm N bb d) (1 - w))), pW Z a ((zu N (lkm N bb d) (1 - w)) 6) (pkF (zu N (lkm N bb d) (1 - w)) 0) (pkF (zu N (lkm N bb d) (1 - w)) 1) (pkF (zu N (lkm N bb d) (1 - w)) 2) (pkF (zu N (lkm N bb d) (1 - w)) 3) (pkF (zu N (lkm N bb d) (1 - w)) 4) (pkF (zu N (lkm N bb d) (1 - w)) 5) (pkF (zu N (lkm N bb d) (1 - w)) 6) (pkF (zu N (lkm N bb d) (1 - w)) 7) (pkF (zu N (lkm N bb d) (1 - w)) 8) (pkF (zu N (lkm N bb d) (1 - w)) 9), xW Z x (a 0) (b 0) (a3 0) (b4 0) (c 0) (e 0) un_18 ([A_18 0 0, A_18 1 0, A_18 2 0, A_18 3 0, A_18 4 0, A_18 5 0]) ss us, hW Z A_18 H_18, rW Z b ro_25.1 ro_25.2 ln_25 nm_25 qu_25 qd_25]) rfl ?_
    exact fin (1 - N (lkm N bb d)) (zu N (lkm N bb d) (1 - w), (A_18, H_18, un_18), (ro_25.1, ro_25.2), ln_25, nm_25, qu_25, qd_25) 28 _ _ _ dX6_link_28 (trivial) (⟨hk25, Or.inr ⟨hq, by unfold lnkR; exact (zif_t hq).symm, rfl, hp18⟩⟩) (by decide) (by decide)
  · -- f
    refine z_iload ok dX6_link_14 rfl ?_
    exact fin (lkE N bb d w) (N, (A, H, und), (ef, op), ln, nm, qu, qd) 16 _ _ _ dX6_link_16 (trivial) (⟨hok, Or.inl ⟨fun z => c11 (hl0.1.mpr z), (hl0.2 c11).2, rfl, rfl⟩⟩) (by decide) (by decide)
set_option maxRecDepth 20000 in
theorem c_X6_send {l : Launch} {Z : zZ} {x a b a3 b4 c e : Nat → Nat} {und : Int} {ss : List Nat} {us : Int → Int} {N : Int → Int} {A : Nat → Nat → Nat} {H : Nat → Int → Int} {ef : Int} {op ln nm qu : Int → Int} {qd : Int} {f t : Int} (hw : wf N) (hok : rOK N ef op ln) (hu : 0 ≤ und ∧ und ≤ 6) (hfr : -2147483648 ≤ f ∧ f < 2147483648) (htr : -2147483648 ≤ t ∧ t < 2147483648) : zI (T := (Int → Int) × ((Nat → Nat → Nat) × (Nat → Int → Int) × Int) × (Int × (Int → Int)) × (Int → Int) × (Int → Int) × (Int → Int) × Int) l yX6_send (Cond.code yX6_send cX6_send 4 (some .int) :: wsL_law) ({ frames := 4, cells := 0, slots := 0, locals := 110 } : Room) Z [.ref (x 0), .int (iI f), .int (iI t)] (zf [soW Z a N (ins N) (mvF N) (N 3), gW Z a (N 4) (N 5) (bkL N), pW Z a (N 6) (pkF N 0) (pkF N 1) (pkF N 2) (pkF N 3) (pkF N 4) (pkF N 5) (pkF N 6) (pkF N 7) (pkF N 8) (pkF N 9), xW Z x (a 0) (b 0) (a3 0) (b4 0) (c 0) (e 0) und ([A 0 0, A 1 0, A 2 0, A 3 0, A 4 0, A 5 0]) ss us, hW Z A H, rW Z b ef op ln nm qu qd]) (fun u => zf [soW Z a u.1 (ins u.1) (mvF u.1) (u.1 3), gW Z a (u.1 4) (u.1 5) (bkL u.1), pW Z a (u.1 6) (pkF u.1 0) (pkF u.1 1) (pkF u.1 2) (pkF u.1 3) (pkF u.1 4) (pkF u.1 5) (pkF u.1 6) (pkF u.1 7) (pkF u.1 8) (pkF u.1 9), xW Z x (a 0) (b 0) (a3 0) (b4 0) (c 0) (e 0) u.2.1.2.2 ([u.2.1.1 0 0, u.2.1.1 1 0, u.2.1.1 2 0, u.2.1.1 3 0, u.2.1.1 4 0, u.2.1.1 5 0]) ss us, hW Z u.2.1.1 u.2.1.2.1, rW Z b u.2.2.1.1 u.2.2.1.2 u.2.2.2.1 u.2.2.2.2.1 u.2.2.2.2.2.1 u.2.2.2.2.2.2]) (fun ρ u => rOK u.1 u.2.2.1.1 u.2.2.1.2 u.2.2.2.1 ∧ ((¬ sndE N f t = 0 ∧ ρ = sndE N f t ∧ u.1 = N ∧ u.2.1 = (A, H, und)) ∨ (sndE N f t = 0 ∧ ρ = N 6 ∧ u.1 = sndN N f t ∧ recP und H N u.2.1.2.2 u.2.1.2.1))) := by
  refine zI_of (C := RX6) (by decide +kernel) rfl (Nat.le_of_ble_eq_true rfl) (fun _ => True) znI (fun X ok fin => ?_)
  obtain ⟨w0, w1, w2, hc, hr, w6, wl, wp⟩ := id hw
  have hcr := cr_rng hc hr
  refine z_lsub ok (lv' := [(0, .ref (x 0)), (1, .int (iI f)), (2, .int (iI t))]) [0, 1, 2] rfl ?_
  refine z_aload_n ok dX6_send_0 rfl ?_
  refine z_iload_n ok dX6_send_1 rfl ?_
  refine z_iload_n ok dX6_send_2 rfl ?_
  refine z_callVif ok (fun l => c_X6_sendError  (hw) (hok) (by omega) (by omega)) zm_X6_sendError zv_X6_sendError qm_RX6_109 dX6_send_3 (by decide) (by decide) rfl rfl (Nat.le_of_ble_eq_true rfl) (q0 := 16) rfl rfl rfl (L := [soW Z a N (ins N) (mvF N) (N 3), gW Z a (N 4) (N 5) (bkL N), pW Z a (N 6) (pkF N 0) (pkF N 1) (pkF N 2) (pkF N 3) (pkF N 4) (pkF N 5) (pkF N 6) (pkF N 7) (pkF N 8) (pkF N 9), xW Z x (a 0) (b 0) (a3 0) (b4 0) (c 0) (e 0) und ([A 0 0, A 1 0, A 2 0, A 3 0, A 4 0, A 5 0]) ss us, hW Z A H, rW Z b ef op ln nm qu qd]) (Lr := [hW Z A H]) [0, 1, 2, 3, 5, 4] [0, 1, 2, 3, 5, 4] rfl rfl (fun _ => rfl) (fun ρ _ hρ => ?_)
  subst hρ
  refine z_eq (ws' := zf [soW Z a N (ins N) (mvF N) (N 3), gW Z a (N 4) (N 5) (bkL N), pW Z a (N 6) (pkF N 0) (pkF N 1) (pkF N 2) (pkF N 3) (pkF N 4) (pkF N 5) (pkF N 6) (pkF N 7) (pkF N 8) (pkF N 9), xW Z x (a 0) (b 0) (a3 0) (b4 0) (c 0) (e 0) und ([A 0 0, A 1 0, A 2 0, A 3 0, A 4 0, A 5 0]) ss us, hW Z A H, rW Z b ef op ln nm qu qd]) rfl ?_
  refine z_istore_n (lv' := [(3, .int (iI (sndE N f t))), (0, .ref (x 0)), (1, .int (iI f)), (2, .int (iI t))]) ok dX6_send_6 (by decide) rfl ?_
  have hse := sndE_cases N f t
  refine z_iload_n ok dX6_send_7 rfl ?_
  refine z_if_eq (tgt := 13) ok dX6_send_8 (by decide) (by omega) (fun c8 => ?_) (fun c8 => ?_)
  · -- t
    have hso := sndE_ok c8
    refine z_aload_n ok dX6_send_13 rfl ?_
    refine z_callVvf ok (fun l => c_X6_recordState  (hu)) zm_X6_recordState zv_X6_recordState qm_RX6_68 dX6_send_14 (by decide) (by decide) rfl rfl (Nat.le_of_ble_eq_true rfl) (q0 := 16) rfl rfl rfl (L := [soW Z a N (ins N) (mvF N) (N 3), gW Z a (N 4) (N 5) (bkL N), pW Z a (N 6) (pkF N 0) (pkF N 1) (pkF N 2) (pkF N 3) (pkF N 4) (pkF N 5) (pkF N 6) (pkF N 7) (pkF N 8) (pkF N 9), xW Z x (a 0) (b 0) (a3 0) (b4 0) (c 0) (e 0) und ([A 0 0, A 1 0, A 2 0, A 3 0, A 4 0, A 5 0]) ss us, hW Z A H, rW Z b ef op ln nm qu qd]) (Lr := [rW Z b ef op ln nm qu qd]) [0, 1, 2, 3, 4, 5] [0, 1, 2, 3, 4, 5] rfl rfl (fun _ => rfl) (fun u14 hp14 => ?_)
    obtain ⟨A_14, H_14, un_14⟩ := u14
    try dsimp only at hp14
    refine z_eq (ws' := zf [soW Z a N (ins N) (mvF N) (N 3), gW Z a (N 4) (N 5) (bkL N), pW Z a (N 6) (pkF N 0) (pkF N 1) (pkF N 2) (pkF N 3) (pkF N 4) (pkF N 5) (pkF N 6) (pkF N 7) (pkF N 8) (pkF N 9), xW Z x (a 0) (b 0) (a3 0) (b4 0) (c 0) (e 0) un_14 ([A_14 0 0, A_14 1 0, A_14 2 0, A_14 3 0, A_14 4 0, A_14 5 0]) ss us, hW Z A_14 H_14, rW Z b ef op ln nm qu qd]) rfl ?_
    refine z_aload_n ok dX6_send_17 rfl ?_
    refine z_get (v := .ref (a 0)) ok zc6 16 rfl 0 (by decide) qf_RX6_12 rfl rfl dX6_send_18 ?_
    refine z_get (v := .ref (a 3)) ok zc5 0 rfl 2 (by decide) qf_RX6_79 rfl rfl dX6_send_21 ?_
    refine z_iload_n ok dX6_send_24 rfl ?_
    refine z_iload_n ok dX6_send_25 rfl ?_
    refine z_aload_n ok dX6_send_26 rfl ?_
    refine z_get (v := .ref (a 0)) ok zc6 16 rfl 0 (by decide) qf_RX6_12 rfl rfl dX6_send_27 ?_
    refine z_get (v := .int (iI (N 3))) ok zc5 0 rfl 5 (by decide) qf_RX6_113 rfl rfl dX6_send_30 ?_
    refine z_callVif ok (fun l => c_X2_add  (by omega)) zm_X2_add zv_X2_add qm_RX6_116 dX6_send_33 (by decide) (by decide) rfl rfl (Nat.le_of_ble_eq_true rfl) (q0 := 0) rfl rfl rfl (L := [soW Z a N (ins N) (mvF N) (N 3), gW Z a (N 4) (N 5) (bkL N), pW Z a (N 6) (pkF N 0) (pkF N 1) (pkF N 2) (pkF N 3) (pkF N 4) (pkF N 5) (pkF N 6) (pkF N 7) (pkF N 8) (pkF N 9), xW Z x (a 0) (b 0) (a3 0) (b4 0) (c 0) (e 0) un_14 ([A_14 0 0, A_14 1 0, A_14 2 0, A_14 3 0, A_14 4 0, A_14 5 0]) ss us, hW Z A_14 H_14, rW Z b ef op ln nm qu qd]) (Lr := [soW Z a N (ins N) (mvF N) (N 3), gW Z a (N 4) (N 5) (bkL N), xW Z x (a 0) (b 0) (a3 0) (b4 0) (c 0) (e 0) un_14 ([A_14 0 0, A_14 1 0, A_14 2 0, A_14 3 0, A_14 4 0, A_14 5 0]) ss us, hW Z A_14 H_14, rW Z b ef op ln nm qu qd]) [2, 0, 1, 3, 4, 5] [1, 2, 0, 3, 4, 5] rfl rfl (fun _ => rfl) (fun ρ _ hρ => ?_)
    subst hρ
    refine z_eq (ws' := zf [soW Z a N (ins N) (mvF N) (N 3), gW Z a (N 4) (N 5) (bkL N), pW Z a (N 6 + 1) (zu (pkF N 0) (N 6) f) (zu (pkF N 1) (N 6) t) (zu (pkF N 2) (N 6) 0) (zu (pkF N 3) (N 6) f) (zu (pkF N 4) (N 6) 0) (zu (pkF N 5) (N 6) 0) (zu (pkF N 6) (N 6) 0) (zu (pkF N 7) (N 6) (N 3)) (zu (pkF N 8) (N 6) (-6)) (zu (pkF N 9) (N 6) 0), xW Z x (a 0) (b 0) (a3 0) (b4 0) (c 0) (e 0) un_14 ([A_14 0 0, A_14 1 0, A_14 2 0, A_14 3 0, A_14 4 0, A_14 5 0]) ss us, hW Z A_14 H_14, rW Z b ef op ln nm qu qd]) rfl ?_
    refine z_snd ok _ (by omega) ?_
    exact fin (N 6) (sndN N f t, (A_14, H_14, un_14), (ef, op), ln, nm, qu, qd) 36 _ _ _ dX6_send_36 (trivial) (⟨rOK_same hw (snd_same w6.1) hok, Or.inr ⟨c8, rfl, rfl, hp14⟩⟩) (by decide) (by decide)
  · -- f
    refine z_iload_n ok dX6_send_11 rfl ?_
    exact fin (sndE N f t) (N, (A, H, und), (ef, op), ln, nm, qu, qd) 12 _ _ _ dX6_send_12 (trivial) (⟨hok, Or.inl ⟨c8, rfl, rfl, rfl⟩⟩) (by decide) (by decide)
set_option maxRecDepth 20000 in
theorem c_X6_ticks {l : Launch} {Z : zZ} {x a b a3 b4 c e : Nat → Nat} {und : Int} {ss : List Nat} {us : Int → Int} {N : Int → Int} {A : Nat → Nat → Nat} {H : Nat → Int → Int} {ef : Int} {op ln nm qu : Int → Int} {qd : Int} {n : Int} (hw : wf N) (hok : rOK N ef op ln) (hu : 0 ≤ und ∧ und ≤ 6) (hnr : -2147483648 ≤ n ∧ n < 2147483648) : zI (T := (Int → Int) × ((Nat → Nat → Nat) × (Nat → Int → Int) × Int) × (Int × (Int → Int)) × (Int → Int) × (Int → Int) × (Int → Int) × Int) l yX6_ticks (Cond.code yX6_ticks cX6_ticks 2 (some .int) :: wsL_law) ({ frames := 6, cells := 0, slots := 0, locals := 150 } : Room) Z [.ref (x 0), .int (iI n)] (zf [soW Z a N (ins N) (mvF N) (N 3), gW Z a (N 4) (N 5) (bkL N), pW Z a (N 6) (pkF N 0) (pkF N 1) (pkF N 2) (pkF N 3) (pkF N 4) (pkF N 5) (pkF N 6) (pkF N 7) (pkF N 8) (pkF N 9), xW Z x (a 0) (b 0) (a3 0) (b4 0) (c 0) (e 0) und ([A 0 0, A 1 0, A 2 0, A 3 0, A 4 0, A 5 0]) ss us, hW Z A H, rW Z b ef op ln nm qu qd]) (fun u => zf [soW Z a u.1 (ins u.1) (mvF u.1) (u.1 3), gW Z a (u.1 4) (u.1 5) (bkL u.1), pW Z a (u.1 6) (pkF u.1 0) (pkF u.1 1) (pkF u.1 2) (pkF u.1 3) (pkF u.1 4) (pkF u.1 5) (pkF u.1 6) (pkF u.1 7) (pkF u.1 8) (pkF u.1 9), xW Z x (a 0) (b 0) (a3 0) (b4 0) (c 0) (e 0) u.2.1.2.2 ([u.2.1.1 0 0, u.2.1.1 1 0, u.2.1.1 2 0, u.2.1.1 3 0, u.2.1.1 4 0, u.2.1.1 5 0]) ss us, hW Z u.2.1.1 u.2.1.2.1, rW Z b u.2.2.1.1 u.2.2.1.2 u.2.2.2.1 u.2.2.2.2.1 u.2.2.2.2.2.1 u.2.2.2.2.2.2]) (fun ρ u => rOK u.1 u.2.2.1.1 u.2.2.1.2 u.2.2.2.1 ∧ ((¬ (1 ≤ n ∧ n ≤ 300) ∧ ρ = -2 ∧ u.1 = N ∧ u.2.1 = (A, H, und)) ∨ ((1 ≤ n ∧ n ≤ 300) ∧ ρ = N 3 + n ∧ u.1 = tkN N n.toNat ∧ recP und H N u.2.1.2.2 u.2.1.2.1))) := by
  refine zI_of (C := RX6) (by decide +kernel) rfl (Nat.le_of_ble_eq_true rfl) (fun _ => True) znI (fun X ok fin => ?_)
  obtain ⟨w0, w1, w2, hc, hr, w6, wl, wp⟩ := id hw
  have hcr := cr_rng hc hr
  refine z_lsub ok (lv' := [(0, .ref (x 0)), (1, .int (iI n))]) [0, 1] rfl ?_
  refine z_iload_n ok dX6_ticks_0 rfl ?_
  refine z_callSie ok (fun l => c_X6_isTicks  (by omega)) zm_X6_isTicks qt_X6_isTicks qm_RX6_119 dX6_ticks_1 (by decide) (by decide) rfl rfl (Nat.le_of_ble_eq_true rfl) (fun ρ _ hρ => ?_)
  subst hρ
  refine z_ifb_ne (tgt := 10) ok dX6_ticks_4 (by decide) (fun c4 => ?_) (fun c4 => ?_)
  · -- t
    refine z_aload_n ok dX6_ticks_10 rfl ?_
    refine z_callVvf ok (fun l => c_X6_recordState  (hu)) zm_X6_recordState zv_X6_recordState qm_RX6_68 dX6_ticks_11 (by decide) (by decide) rfl rfl (Nat.le_of_ble_eq_true rfl) (q0 := 16) rfl rfl rfl (L := [soW Z a N (ins N) (mvF N) (N 3), gW Z a (N 4) (N 5) (bkL N), pW Z a (N 6) (pkF N 0) (pkF N 1) (pkF N 2) (pkF N 3) (pkF N 4) (pkF N 5) (pkF N 6) (pkF N 7) (pkF N 8) (pkF N 9), xW Z x (a 0) (b 0) (a3 0) (b4 0) (c 0) (e 0) und ([A 0 0, A 1 0, A 2 0, A 3 0, A 4 0, A 5 0]) ss us, hW Z A H, rW Z b ef op ln nm qu qd]) (Lr := [rW Z b ef op ln nm qu qd]) [0, 1, 2, 3, 4, 5] [0, 1, 2, 3, 4, 5] rfl rfl (fun _ => rfl) (fun u11 hp11 => ?_)
    obtain ⟨A_11, H_11, un_11⟩ := u11
    try dsimp only at hp11
    refine z_eq (ws' := zf [soW Z a N (ins N) (mvF N) (N 3), gW Z a (N 4) (N 5) (bkL N), pW Z a (N 6) (pkF N 0) (pkF N 1) (pkF N 2) (pkF N 3) (pkF N 4) (pkF N 5) (pkF N 6) (pkF N 7) (pkF N 8) (pkF N 9), xW Z x (a 0) (b 0) (a3 0) (b4 0) (c 0) (e 0) un_11 ([A_11 0 0, A_11 1 0, A_11 2 0, A_11 3 0, A_11 4 0, A_11 5 0]) ss us, hW Z A_11 H_11, rW Z b ef op ln nm qu qd]) rfl ?_
    refine z_aload_n ok dX6_ticks_14 rfl ?_
    refine z_get (v := .ref (a 0)) ok zc6 16 rfl 0 (by decide) qf_RX6_12 rfl rfl dX6_ticks_15 ?_
    refine z_aload_n ok dX6_ticks_18 rfl ?_
    refine z_get (v := .ref (b 0)) ok zc6 16 rfl 1 (by decide) qf_RX6_19 rfl rfl dX6_ticks_19 ?_
    refine z_iload_n ok dX6_ticks_22 rfl ?_
    refine z_callVvf ok (fun l => c_X5_passTicks  (hw) (hok) (by omega)) zm_X5_passTicks zv_X5_passTicks qm_RX6_122 dX6_ticks_23 (by decide) (by decide) rfl rfl (Nat.le_of_ble_eq_true rfl) (q0 := 0) rfl rfl rfl (L := [soW Z a N (ins N) (mvF N) (N 3), gW Z a (N 4) (N 5) (bkL N), pW Z a (N 6) (pkF N 0) (pkF N 1) (pkF N 2) (pkF N 3) (pkF N 4) (pkF N 5) (pkF N 6) (pkF N 7) (pkF N 8) (pkF N 9), xW Z x (a 0) (b 0) (a3 0) (b4 0) (c 0) (e 0) un_11 ([A_11 0 0, A_11 1 0, A_11 2 0, A_11 3 0, A_11 4 0, A_11 5 0]) ss us, hW Z A_11 H_11, rW Z b ef op ln nm qu qd]) (Lr := [xW Z x (a 0) (b 0) (a3 0) (b4 0) (c 0) (e 0) un_11 ([A_11 0 0, A_11 1 0, A_11 2 0, A_11 3 0, A_11 4 0, A_11 5 0]) ss us, hW Z A_11 H_11]) [0, 1, 2, 5, 3, 4] [0, 1, 2, 4, 5, 3] rfl rfl (fun _ => rfl) (fun _ hp23 => ?_)
    refine z_eq (ws' := zf [soW Z a (tkN N n.toNat) (ins (tkN N n.toNat)) (mvF (tkN N n.toNat)) ((tkN N n.toNat) 3), gW Z a ((tkN N n.toNat) 4) ((tkN N n.toNat) 5) (bkL (tkN N n.toNat)), pW Z a ((tkN N n.toNat) 6) (pkF (tkN N n.toNat) 0) (pkF (tkN N n.toNat) 1) (pkF (tkN N n.toNat) 2) (pkF (tkN N n.toNat) 3) (pkF (tkN N n.toNat) 4) (pkF (tkN N n.toNat) 5) (pkF (tkN N n.toNat) 6) (pkF (tkN N n.toNat) 7) (pkF (tkN N n.toNat) 8) (pkF (tkN N n.toNat) 9), xW Z x (a 0) (b 0) (a3 0) (b4 0) (c 0) (e 0) un_11 ([A_11 0 0, A_11 1 0, A_11 2 0, A_11 3 0, A_11 4 0, A_11 5 0]) ss us, hW Z A_11 H_11, rW Z b ef op ln nm qu qd]) rfl ?_
    refine z_aload_n ok dX6_ticks_26 rfl ?_
    refine z_get (v := .ref (a 0)) ok zc6 16 rfl 0 (by decide) qf_RX6_12 rfl rfl dX6_ticks_27 ?_
    refine z_get (v := .int (iI ((tkN N n.toNat) 3))) ok zc5 0 rfl 5 (by decide) qf_RX6_113 rfl rfl dX6_ticks_30 ?_
    have htk := (wf_tks hw n.toNat).2.2
    exact fin ((tkN N n.toNat) 3) (tkN N n.toNat, (A_11, H_11, un_11), (ef, op), ln, nm, qu, qd) 33 _ _ _ dX6_ticks_33 (trivial) (⟨rOK_same hw (tks_same hw n.toNat) hok, Or.inr ⟨c4, by rw [htk]; omega, rfl, hp11⟩⟩) (by decide) (by decide)
  · -- f
    refine z_bipush ok dX6_ticks_7 (by decide) ?_
    exact fin (-2) (N, (A, H, und), (ef, op), ln, nm, qu, qd) 9 _ _ _ dX6_ticks_9 (trivial) (⟨hok, Or.inl ⟨c4, rfl, rfl, rfl⟩⟩) (by decide) (by decide)
