set_option maxRecDepth 20000 in
theorem c_X0_layOut {l : Launch} {Z : zZ} {a : Nat → Nat} {c r nc nr : Int} {bk : Int64}  : zN (T := Unit) l yX0_layOut (Cond.code yX0_layOut cX0_layOut 3 none :: wsL_law) ({ frames := 0, cells := 0, slots := 0, locals := 0 } : Room) Z [.ref (a 2), .int (iI nc), .int (iI nr)] (zf [gW Z a c r bk]) (fun _ => zf [gW Z a nc nr (iL 0)]) (fun _ => True) := by
  refine zN_of (C := RX0) (by decide +kernel) rfl (Nat.le_of_ble_eq_true rfl) (fun X ok fin => ?_)
  refine z_lsub ok (lv' := [(0, .ref (a 2)), (1, .int (iI nc)), (2, .int (iI nr))]) [0, 1, 2] rfl ?_
  refine z_aload_n ok dX0_layOut_0 rfl ?_
  refine z_iload_n ok dX0_layOut_1 rfl ?_
  refine z_put (ws' := zf [gW Z a nc r bk]) ok zc0 0 rfl 0 (by decide) qf_RX0_9 rfl rfl rfl rfl (Nat.le_of_ble_eq_true rfl) dX0_layOut_2 rfl ?_
  refine z_aload_n ok dX0_layOut_5 rfl ?_
  refine z_iload_n ok dX0_layOut_6 rfl ?_
  refine z_put (ws' := zf [gW Z a nc nr bk]) ok zc0 0 rfl 1 (by decide) qf_RX0_15 rfl rfl rfl rfl (Nat.le_of_ble_eq_true rfl) dX0_layOut_7 rfl ?_
  refine z_aload_n ok dX0_layOut_10 rfl ?_
  refine z_lconst (v := iL 0) ok dX0_layOut_11 (by decide) ?_
  refine z_put (ws' := zf [gW Z a nc nr (iL 0)]) ok zc0 0 rfl 2 (by decide) qf_RX0_18 rfl rfl rfl rfl (Nat.le_of_ble_eq_true rfl) dX0_layOut_12 rfl ?_
  exact fin () 15 _ _ _ dX0_layOut_15 (trivial) (by decide) (by decide)
set_option maxRecDepth 20000 in
theorem c_X0_copyGrid {l : Launch} {Z : zZ} {a a2 : Nat → Nat} {c r c2 r2 : Int} {bk bk2 : Int64}  : zN (T := Unit) l yX0_copyGrid (Cond.code yX0_copyGrid cX0_copyGrid 2 none :: wsL_law) ({ frames := 0, cells := 0, slots := 0, locals := 0 } : Room) Z [.ref (a2 2), .ref (a 2)] (zf [gW Z a2 c2 r2 bk2, gW Z a c r bk]) (fun _ => zf [gW Z a2 c r bk, gW Z a c r bk]) (fun _ => True) := by
  refine zN_of (C := RX0) (by decide +kernel) rfl (Nat.le_of_ble_eq_true rfl) (fun X ok fin => ?_)
  refine z_lsub ok (lv' := [(0, .ref (a2 2)), (1, .ref (a 2))]) [0, 1] rfl ?_
  refine z_aload_n ok dX0_copyGrid_0 rfl ?_
  refine z_aload_n ok dX0_copyGrid_1 rfl ?_
  refine z_get (v := .int (iI c)) ok zc0 1 rfl 0 (by decide) qf_RX0_9 rfl rfl dX0_copyGrid_2 ?_
  refine z_put (ws' := zf [gW Z a2 c r2 bk2, gW Z a c r bk]) ok zc0 0 rfl 0 (by decide) qf_RX0_9 rfl rfl rfl rfl (Nat.le_of_ble_eq_true rfl) dX0_copyGrid_5 rfl ?_
  refine z_aload_n ok dX0_copyGrid_8 rfl ?_
  refine z_aload_n ok dX0_copyGrid_9 rfl ?_
  refine z_get (v := .int (iI r)) ok zc0 1 rfl 1 (by decide) qf_RX0_15 rfl rfl dX0_copyGrid_10 ?_
  refine z_put (ws' := zf [gW Z a2 c r bk2, gW Z a c r bk]) ok zc0 0 rfl 1 (by decide) qf_RX0_15 rfl rfl rfl rfl (Nat.le_of_ble_eq_true rfl) dX0_copyGrid_13 rfl ?_
  refine z_aload_n ok dX0_copyGrid_16 rfl ?_
  refine z_aload_n ok dX0_copyGrid_17 rfl ?_
  refine z_get (v := .long bk) ok zc0 1 rfl 2 (by decide) qf_RX0_18 rfl rfl dX0_copyGrid_18 ?_
  refine z_put (ws' := zf [gW Z a2 c r bk, gW Z a c r bk]) ok zc0 0 rfl 2 (by decide) qf_RX0_18 rfl rfl rfl rfl (Nat.le_of_ble_eq_true rfl) dX0_copyGrid_21 rfl ?_
  exact fin () 24 _ _ _ dX0_copyGrid_24 (trivial) (by decide) (by decide)
set_option maxRecDepth 20000 in
theorem c_X0_boxes {l : Launch} {Z : zZ} {a : Nat → Nat} {N : Int → Int}  : zI (T := Unit) l yX0_boxes (Cond.code yX0_boxes cX0_boxes 1 (some .int) :: wsL_law) ({ frames := 0, cells := 0, slots := 0, locals := 0 } : Room) Z [.ref (a 2)] (zf [gW Z a (N 4) (N 5) (bkL N)]) (fun _ => zf [gW Z a (N 4) (N 5) (bkL N)]) (fun ρ _ => ρ = N 4 * N 5) := by
  refine zI_of (C := RX0) (by decide +kernel) rfl (Nat.le_of_ble_eq_true rfl) (fun _ => True) znI (fun X ok fin => ?_)
  refine z_lsub ok (lv' := [(0, .ref (a 2))]) [0] rfl ?_
  refine z_aload_n ok dX0_boxes_0 rfl ?_
  refine z_get (v := .int (iI (N 4))) ok zc0 0 rfl 0 (by decide) qf_RX0_9 rfl rfl dX0_boxes_1 ?_
  refine z_aload_n ok dX0_boxes_4 rfl ?_
  refine z_get (v := .int (iI (N 5))) ok zc0 0 rfl 1 (by decide) qf_RX0_15 rfl rfl dX0_boxes_5 ?_
  refine z_imul ok dX0_boxes_8 ?_
  exact fin ((N 4) * (N 5)) () 9 _ _ _ dX0_boxes_9 (trivial) (rfl) (by decide) (by decide)
set_option maxRecDepth 20000 in
theorem c_X0_has {l : Launch} {Z : zZ} {a : Nat → Nat} {N : Int → Int} {box : Int} (hc : 2 ≤ N 4 ∧ N 4 ≤ 5) (hr : 2 ≤ N 5 ∧ N 5 ≤ 5) (hb : -2147483648 ≤ box ∧ box < 2147483648) : zI (T := Unit) l yX0_has (Cond.code yX0_has cX0_has 2 (some .boolean) :: wsL_law) ({ frames := 0, cells := 0, slots := 0, locals := 0 } : Room) Z [.ref (a 2), .int (iI box)] (zf [gW Z a (N 4) (N 5) (bkL N)]) (fun _ => zf [gW Z a (N 4) (N 5) (bkL N)]) (fun ρ _ => ρ = zb (isB N box)) := by
  refine zI_of (C := RX0) (by decide +kernel) rfl (Nat.le_of_ble_eq_true rfl) (fun ρ => ρ = 0 ∨ ρ = 1) znZ (fun X ok fin => ?_)
  have hcr := cr_rng hc hr
  refine z_lsub ok (lv' := [(0, .ref (a 2)), (1, .int (iI box))]) [0, 1] rfl ?_
  refine z_iload_n ok dX0_has_0 rfl ?_
  refine z_if_lt (tgt := 21) ok dX0_has_1 (by decide) (by omega) (fun c1 => ?_) (fun c1 => ?_)
  · -- t
    refine z_iconst ok dX0_has_21 ?_
    exact fin 0 () 22 _ _ _ dX0_has_22 (by first | decide | exact zb_01 _ | omega) (by first | exact (zb_t (by unfold isB; omega)).symm | exact (zb_f (by unfold isB; omega)).symm) (by decide) (by decide)
  · -- f
    refine z_iload_n ok dX0_has_4 rfl ?_
    refine z_aload_n ok dX0_has_5 rfl ?_
    refine z_get (v := .int (iI (N 4))) ok zc0 0 rfl 0 (by decide) qf_RX0_9 rfl rfl dX0_has_6 ?_
    refine z_aload_n ok dX0_has_9 rfl ?_
    refine z_get (v := .int (iI (N 5))) ok zc0 0 rfl 1 (by decide) qf_RX0_15 rfl rfl dX0_has_10 ?_
    refine z_imul ok dX0_has_13 ?_
    refine z_icmp_ge (tgt := 21) ok dX0_has_14 (by decide) (by omega) (by omega) (fun c14 => ?_) (fun c14 => ?_)
    · -- t
      refine z_iconst ok dX0_has_21 ?_
      exact fin 0 () 22 _ _ _ dX0_has_22 (by first | decide | exact zb_01 _ | omega) (by first | exact (zb_t (by unfold isB; omega)).symm | exact (zb_f (by unfold isB; omega)).symm) (by decide) (by decide)
    · -- f
      refine z_iconst ok dX0_has_17 ?_
      refine z_goto (tgt := 22) ok dX0_has_18 (by decide) ?_
      exact fin 1 () 22 _ _ _ dX0_has_22 (by first | decide | exact zb_01 _ | omega) (by first | exact (zb_t (by unfold isB; omega)).symm | exact (zb_f (by unfold isB; omega)).symm) (by decide) (by decide)
set_option maxRecDepth 20000 in
theorem c_X0_beside {l : Launch} {Z : zZ} {a : Nat → Nat} {N : Int → Int} {box side : Int} (hc : 2 ≤ N 4 ∧ N 4 ≤ 5) (hr : 2 ≤ N 5 ∧ N 5 ≤ 5) (hb : 0 ≤ box ∧ box < N 4 * N 5) (hs : 0 ≤ side ∧ side ≤ 3) : zI (T := Unit) l yX0_beside (Cond.code yX0_beside cX0_beside 5 (some .int) :: wsL_law) ({ frames := 0, cells := 0, slots := 0, locals := 0 } : Room) Z [.ref (a 2), .int (iI box), .int (iI side)] (zf [gW Z a (N 4) (N 5) (bkL N)]) (fun _ => zf [gW Z a (N 4) (N 5) (bkL N)]) (fun ρ _ => ρ = nb N box side) := by
  refine zI_of (C := RX0) (by decide +kernel) rfl (Nat.le_of_ble_eq_true rfl) (fun _ => True) znI (fun X ok fin => ?_)
  have hdm := dm hc hb.1
  have hdr := dmr hc hb.1 hb.2
  have hcr := cr_rng hc hr
  refine z_lsub ok (lv' := [(0, .ref (a 2)), (1, .int (iI box)), (2, .int (iI side))]) [0, 1, 2] rfl ?_
  refine z_aload_n ok dX0_beside_0 rfl ?_
  refine z_get (v := .int (iI (N 4))) ok zc0 0 rfl 0 (by decide) qf_RX0_9 rfl rfl dX0_beside_1 ?_
  refine z_iconst ok dX0_beside_4 ?_
  refine z_icmp_ge (tgt := 10) ok dX0_beside_5 (by decide) (by omega) (by omega) (fun c5 => ?_) (fun c5 => ?_)
  · -- t
    refine z_iload_n ok dX0_beside_10 rfl ?_
    refine z_aload_n ok dX0_beside_11 rfl ?_
    refine z_get (v := .int (iI (N 4))) ok zc0 0 rfl 0 (by decide) qf_RX0_9 rfl rfl dX0_beside_12 ?_
    refine z_irem ok dX0_beside_15 (by omega) (by omega) ?_
    refine z_istore_n (lv' := [(3, .int (iI (box % (N 4)))), (0, .ref (a 2)), (1, .int (iI box)), (2, .int (iI side))]) ok dX0_beside_16 (by decide) rfl ?_
    refine z_iload_n ok dX0_beside_17 rfl ?_
    refine z_aload_n ok dX0_beside_18 rfl ?_
    refine z_get (v := .int (iI (N 4))) ok zc0 0 rfl 0 (by decide) qf_RX0_9 rfl rfl dX0_beside_19 ?_
    refine z_idiv ok dX0_beside_22 (by omega) (by omega) ?_
    refine z_istore (lv' := [(4, .int (iI (box / (N 4)))), (3, .int (iI (box % (N 4)))), (0, .ref (a 2)), (1, .int (iI box)), (2, .int (iI side))]) ok dX0_beside_23 (by decide) rfl ?_
    refine z_iload_n ok dX0_beside_25 rfl ?_
    rcases (show side < 0 ∨ 3 < side ∨ side = 0 ∨ side = 1 ∨ side = 2 ∨ side = 3 by omega) with c26 | c26 | c26 | c26 | c26 | c26
    · -- switch
      refine z_tableOut (tgt := 124) ok dX0_beside_26 (by omega) (by omega) (by decide) ?_
      refine z_iconst ok dX0_beside_124 ?_
      exact fin (-1) () 125 _ _ _ dX0_beside_125 (trivial) (by unfold nb; (repeat' split) <;> omega) (by decide) (by decide)
    · -- switch
      refine z_tableOut (tgt := 124) ok dX0_beside_26 (by omega) (by omega) (by decide) ?_
      refine z_iconst ok dX0_beside_124 ?_
      exact fin (-1) () 125 _ _ _ dX0_beside_125 (trivial) (by unfold nb; (repeat' split) <;> omega) (by decide) (by decide)
    · -- switch
      refine z_tableIn (off := 30) (tgt := 56) ok dX0_beside_26 (by omega) (by omega) (by omega) (by rw [c26]; rfl) (by decide) ?_
      refine z_iload_n ok dX0_beside_56 rfl ?_
      refine z_aload_n ok dX0_beside_57 rfl ?_
      refine z_get (v := .int (iI (N 4))) ok zc0 0 rfl 0 (by decide) qf_RX0_9 rfl rfl dX0_beside_58 ?_
      refine z_iconst ok dX0_beside_61 ?_
      refine z_isub ok dX0_beside_62 ?_
      refine z_icmp_ge (tgt := 72) ok dX0_beside_63 (by decide) (by omega) (by omega) (fun c63 => ?_) (fun c63 => ?_)
      · -- t
        refine z_iconst ok dX0_beside_72 ?_
        exact fin (-1) () 73 _ _ _ dX0_beside_73 (trivial) (by unfold nb; (repeat' split) <;> omega) (by decide) (by decide)
      · -- f
        refine z_iload_n ok dX0_beside_66 rfl ?_
        refine z_iconst ok dX0_beside_67 ?_
        refine z_iadd ok dX0_beside_68 ?_
        refine z_goto (tgt := 73) ok dX0_beside_69 (by decide) ?_
        exact fin (box + 1) () 73 _ _ _ dX0_beside_73 (trivial) (by unfold nb; (repeat' split) <;> omega) (by decide) (by decide)
    · -- switch
      refine z_tableIn (off := 48) (tgt := 74) ok dX0_beside_26 (by omega) (by omega) (by omega) (by rw [c26]; rfl) (by decide) ?_
      refine z_iload_n ok dX0_beside_74 rfl ?_
      refine z_if_le (tgt := 84) ok dX0_beside_75 (by decide) (by omega) (fun c75 => ?_) (fun c75 => ?_)
      · -- t
        refine z_iconst ok dX0_beside_84 ?_
        exact fin (-1) () 85 _ _ _ dX0_beside_85 (trivial) (by unfold nb; (repeat' split) <;> omega) (by decide) (by decide)
      · -- f
        refine z_iload_n ok dX0_beside_78 rfl ?_
        refine z_iconst ok dX0_beside_79 ?_
        refine z_isub ok dX0_beside_80 ?_
        refine z_goto (tgt := 85) ok dX0_beside_81 (by decide) ?_
        exact fin (box - 1) () 85 _ _ _ dX0_beside_85 (trivial) (by unfold nb; (repeat' split) <;> omega) (by decide) (by decide)
    · -- switch
      refine z_tableIn (off := 60) (tgt := 86) ok dX0_beside_26 (by omega) (by omega) (by omega) (by rw [c26]; rfl) (by decide) ?_
      refine z_iload ok dX0_beside_86 rfl ?_
      refine z_aload_n ok dX0_beside_88 rfl ?_
      refine z_get (v := .int (iI (N 5))) ok zc0 0 rfl 1 (by decide) qf_RX0_15 rfl rfl dX0_beside_89 ?_
      refine z_iconst ok dX0_beside_92 ?_
      refine z_isub ok dX0_beside_93 ?_
      refine z_icmp_ge (tgt := 106) ok dX0_beside_94 (by decide) (by omega) (by omega) (fun c94 => ?_) (fun c94 => ?_)
      · -- t
        refine z_iconst ok dX0_beside_106 ?_
        exact fin (-1) () 107 _ _ _ dX0_beside_107 (trivial) (by unfold nb; (repeat' split) <;> omega) (by decide) (by decide)
      · -- f
        refine z_iload_n ok dX0_beside_97 rfl ?_
        refine z_aload_n ok dX0_beside_98 rfl ?_
        refine z_get (v := .int (iI (N 4))) ok zc0 0 rfl 0 (by decide) qf_RX0_9 rfl rfl dX0_beside_99 ?_
        refine z_iadd ok dX0_beside_102 ?_
        refine z_goto (tgt := 107) ok dX0_beside_103 (by decide) ?_
        exact fin (box + (N 4)) () 107 _ _ _ dX0_beside_107 (trivial) (by unfold nb; (repeat' split) <;> omega) (by decide) (by decide)
    · -- switch
      refine z_tableIn (off := 82) (tgt := 108) ok dX0_beside_26 (by omega) (by omega) (by omega) (by rw [c26]; rfl) (by decide) ?_
      refine z_iload ok dX0_beside_108 rfl ?_
      refine z_if_le (tgt := 122) ok dX0_beside_110 (by decide) (by omega) (fun c110 => ?_) (fun c110 => ?_)
      · -- t
        refine z_iconst ok dX0_beside_122 ?_
        exact fin (-1) () 123 _ _ _ dX0_beside_123 (trivial) (by unfold nb; (repeat' split) <;> omega) (by decide) (by decide)
      · -- f
        refine z_iload_n ok dX0_beside_113 rfl ?_
        refine z_aload_n ok dX0_beside_114 rfl ?_
        refine z_get (v := .int (iI (N 4))) ok zc0 0 rfl 0 (by decide) qf_RX0_9 rfl rfl dX0_beside_115 ?_
        refine z_isub ok dX0_beside_118 ?_
        refine z_goto (tgt := 123) ok dX0_beside_119 (by decide) ?_
        exact fin (box - (N 4)) () 123 _ _ _ dX0_beside_123 (trivial) (by unfold nb; (repeat' split) <;> omega) (by decide) (by decide)
  · -- f
    refine z_iconst ok dX0_beside_8 ?_
    exact fin (-1) () 9 _ _ _ dX0_beside_9 (trivial) (by unfold nb; (repeat' split) <;> omega) (by decide) (by decide)
set_option maxRecDepth 20000 in
theorem c_X0_distance {l : Launch} {Z : zZ} {a : Nat → Nat} {N : Int → Int} {x y : Int} (hc : 2 ≤ N 4 ∧ N 4 ≤ 5) (hr : 2 ≤ N 5 ∧ N 5 ≤ 5) (hx : 0 ≤ x ∧ x < 1000000) (hy : 0 ≤ y ∧ y < 1000000) : zI (T := Unit) l yX0_distance (Cond.code yX0_distance cX0_distance 3 (some .int) :: wsL_law) ({ frames := 1, cells := 0, slots := 0, locals := 21 } : Room) Z [.ref (a 2), .int (iI x), .int (iI y)] (zf [gW Z a (N 4) (N 5) (bkL N)]) (fun _ => zf [gW Z a (N 4) (N 5) (bkL N)]) (fun ρ _ => ρ = dist N x y) := by
  refine zI_of (C := RX0) (by decide +kernel) rfl (Nat.le_of_ble_eq_true rfl) (fun _ => True) znI (fun X ok fin => ?_)
  have hd1 := dm hc hx.1
  have hd2 := dm hc hy.1
  refine z_lsub ok (lv' := [(0, .ref (a 2)), (1, .int (iI x)), (2, .int (iI y))]) [0, 1, 2] rfl ?_
  refine z_aload_n ok dX0_distance_0 rfl ?_
  refine z_get (v := .int (iI (N 4))) ok zc0 0 rfl 0 (by decide) qf_RX0_9 rfl rfl dX0_distance_1 ?_
  refine z_iconst ok dX0_distance_4 ?_
  refine z_icmp_ge (tgt := 10) ok dX0_distance_5 (by decide) (by omega) (by omega) (fun c5 => ?_) (fun c5 => ?_)
  · -- t
    refine z_iload_n ok dX0_distance_10 rfl ?_
    refine z_aload_n ok dX0_distance_11 rfl ?_
    refine z_get (v := .int (iI (N 4))) ok zc0 0 rfl 0 (by decide) qf_RX0_9 rfl rfl dX0_distance_12 ?_
    refine z_irem ok dX0_distance_15 (by omega) (by omega) ?_
    refine z_iload_n ok dX0_distance_16 rfl ?_
    refine z_aload_n ok dX0_distance_17 rfl ?_
    refine z_get (v := .int (iI (N 4))) ok zc0 0 rfl 0 (by decide) qf_RX0_9 rfl rfl dX0_distance_18 ?_
    refine z_irem ok dX0_distance_21 (by omega) (by omega) ?_
    refine z_isub ok dX0_distance_22 ?_
    refine z_mabs ok qm_RX0_22 qt_Math_abs qn_java_lang_Math qc_Math_abs dX0_distance_23 (by decide) (Nat.le_of_ble_eq_true rfl) (by omega) ?_
    refine z_iload_n ok dX0_distance_26 rfl ?_
    refine z_aload_n ok dX0_distance_27 rfl ?_
    refine z_get (v := .int (iI (N 4))) ok zc0 0 rfl 0 (by decide) qf_RX0_9 rfl rfl dX0_distance_28 ?_
    refine z_idiv ok dX0_distance_31 (by omega) (by omega) ?_
    refine z_iload_n ok dX0_distance_32 rfl ?_
    refine z_aload_n ok dX0_distance_33 rfl ?_
    refine z_get (v := .int (iI (N 4))) ok zc0 0 rfl 0 (by decide) qf_RX0_9 rfl rfl dX0_distance_34 ?_
    refine z_idiv ok dX0_distance_37 (by omega) (by omega) ?_
    refine z_isub ok dX0_distance_38 ?_
    refine z_mabs ok qm_RX0_22 qt_Math_abs qn_java_lang_Math qc_Math_abs dX0_distance_39 (by decide) (Nat.le_of_ble_eq_true rfl) (by omega) ?_
    refine z_iadd ok dX0_distance_42 ?_
    exact fin ((zabs ((x % (N 4)) - (y % (N 4)))) + (zabs ((x / (N 4)) - (y / (N 4))))) () 43 _ _ _ dX0_distance_43 (trivial) (by first | rfl | omega) (by decide) (by decide)
  · -- f
    refine z_iconst ok dX0_distance_8 ?_
    exact fin 0 () 9 _ _ _ dX0_distance_9 (trivial) (by first | rfl | omega) (by decide) (by decide)
set_option maxRecDepth 20000 in
theorem c_X0_linkAt {l : Launch} {Z : zZ} {a : Nat → Nat} {N : Int → Int} {box side : Int} (hw : wf N) (hb : 0 ≤ box ∧ box < N 4 * N 5) (hs : 0 ≤ side ∧ side ≤ 3) : zI (T := Unit) l yX0_linkAt (Cond.code yX0_linkAt cX0_linkAt 4 (some .int) :: wsL_law) ({ frames := 1, cells := 0, slots := 0, locals := 24 } : Room) Z [.ref (a 2), .int (iI box), .int (iI side)] (zf [gW Z a (N 4) (N 5) (bkL N)]) (fun _ => zf [gW Z a (N 4) (N 5) (bkL N)]) (fun ρ _ => ρ = lkc N box side) := by
  refine zI_of (C := RX0) (by decide +kernel) rfl (Nat.le_of_ble_eq_true rfl) (fun _ => True) znI (fun X ok fin => ?_)
  have hc := hw.2.2.2.1
  have hr := hw.2.2.2.2.1
  have hdm := dm hc hb.1
  have hdr := dmr hc hb.1 hb.2
  have hcr := cr_rng hc hr
  have hnb := nb_rng hw hb hs
  refine z_lsub ok (lv' := [(0, .ref (a 2)), (1, .int (iI box)), (2, .int (iI side))]) [0, 1, 2] rfl ?_
  refine z_aload_n ok dX0_linkAt_0 rfl ?_
  refine z_iload_n ok dX0_linkAt_1 rfl ?_
  refine z_iload_n ok dX0_linkAt_2 rfl ?_
  refine z_callVi0 ok (fun l => c_X0_beside  (by omega) (by omega) (by omega) (by omega)) zm_X0_beside zv_X0_beside qm_RX0_28 dX0_linkAt_3 (by decide) (by decide) rfl rfl (Nat.le_of_ble_eq_true rfl) (q0 := 0) rfl rfl rfl (fun ρ _ hρ => ?_)
  subst hρ
  refine z_eq (ws' := zf [gW Z a (N 4) (N 5) (bkL N)]) rfl ?_
  refine z_istore_n (lv' := [(3, .int (iI (nb N box side))), (0, .ref (a 2)), (1, .int (iI box)), (2, .int (iI side))]) ok dX0_linkAt_6 (by decide) rfl ?_
  refine z_iload_n ok dX0_linkAt_7 rfl ?_
  refine z_iconst ok dX0_linkAt_8 ?_
  refine z_icmp_ne (tgt := 14) ok dX0_linkAt_9 (by decide) (by omega) (by omega) (fun c9 => ?_) (fun c9 => ?_)
  · -- t
    refine z_iconst ok dX0_linkAt_14 ?_
    refine z_iload_n ok dX0_linkAt_15 rfl ?_
    refine z_iload_n ok dX0_linkAt_16 rfl ?_
    refine z_mmin ok qm_RX0_32 qt_Math_min qn_java_lang_Math qc_Math_min dX0_linkAt_17 (by decide) (Nat.le_of_ble_eq_true rfl) (by omega) (by omega) ?_
    refine z_imul ok dX0_linkAt_20 ?_
    refine z_iload_n ok dX0_linkAt_21 rfl ?_
    refine z_if_eq (tgt := 30) ok dX0_linkAt_22 (by decide) (by omega) (fun c22 => ?_) (fun c22 => ?_)
    · -- t
      refine z_iconst ok dX0_linkAt_30 ?_
      refine z_goto (tgt := 35) ok dX0_linkAt_31 (by decide) ?_
      refine z_iadd ok dX0_linkAt_35 ?_
      exact fin ((2 * (min box (nb N box side))) + 0) () 36 _ _ _ dX0_linkAt_36 (trivial) (by rw [lkc_v hc hs]; first | (rw [if_pos (by omega)]; done) | (rw [if_neg (by omega)]; split <;> omega)) (by decide) (by decide)
    · -- f
      refine z_iload_n ok dX0_linkAt_25 rfl ?_
      refine z_iconst ok dX0_linkAt_26 ?_
      refine z_icmp_ne (tgt := 34) ok dX0_linkAt_27 (by decide) (by omega) (by omega) (fun c27 => ?_) (fun c27 => ?_)
      · -- t
        refine z_iconst ok dX0_linkAt_34 ?_
        refine z_iadd ok dX0_linkAt_35 ?_
        exact fin ((2 * (min box (nb N box side))) + 1) () 36 _ _ _ dX0_linkAt_36 (trivial) (by rw [lkc_v hc hs]; first | (rw [if_pos (by omega)]; done) | (rw [if_neg (by omega)]; split <;> omega)) (by decide) (by decide)
      · -- f
        refine z_iconst ok dX0_linkAt_30 ?_
        refine z_goto (tgt := 35) ok dX0_linkAt_31 (by decide) ?_
        refine z_iadd ok dX0_linkAt_35 ?_
        exact fin ((2 * (min box (nb N box side))) + 0) () 36 _ _ _ dX0_linkAt_36 (trivial) (by rw [lkc_v hc hs]; first | (rw [if_pos (by omega)]; done) | (rw [if_neg (by omega)]; split <;> omega)) (by decide) (by decide)
  · -- f
    refine z_iconst ok dX0_linkAt_12 ?_
    exact fin (-1) () 13 _ _ _ dX0_linkAt_13 (trivial) (by rw [lkc_v hc hs]; first | (rw [if_pos (by omega)]; done) | (rw [if_neg (by omega)]; split <;> omega)) (by decide) (by decide)
set_option maxRecDepth 20000 in
theorem c_X0_isWhole {l : Launch} {Z : zZ} {a : Nat → Nat} {N : Int → Int} {x : Int} (hx : 0 ≤ x ∧ x < 50) (hN : N (10 + x) = 0 ∨ N (10 + x) = 1) : zI (T := Unit) l yX0_isWhole (Cond.code yX0_isWhole cX0_isWhole 2 (some .boolean) :: wsL_law) ({ frames := 0, cells := 0, slots := 0, locals := 0 } : Room) Z [.ref (a 2), .int (iI x)] (zf [gW Z a (N 4) (N 5) (bkL N)]) (fun _ => zf [gW Z a (N 4) (N 5) (bkL N)]) (fun ρ _ => ρ = zb (N (10 + x) = 0)) := by
  refine zI_of (C := RX0) (by decide +kernel) rfl (Nat.le_of_ble_eq_true rfl) (fun ρ => ρ = 0 ∨ ρ = 1) znZ (fun X ok fin => ?_)
  refine z_lsub ok (lv' := [(0, .ref (a 2)), (1, .int (iI x))]) [0, 1] rfl ?_
  refine z_aload_n ok dX0_isWhole_0 rfl ?_
  refine z_get (v := .long (bkL N)) ok zc0 0 rfl 2 (by decide) qf_RX0_18 rfl rfl dX0_isWhole_1 ?_
  refine z_iload_n ok dX0_isWhole_4 rfl ?_
  refine z_lushr (v := ((bkL N).toUInt64 >>> ((iI x).toInt64.toUInt64 &&& Int64.toUInt64 63)).toInt64) ok dX0_isWhole_5 (rfl) ?_
  refine z_lconst (v := iL 1) ok dX0_isWhole_6 (by decide) ?_
  refine z_land (v := iL (if N (10 + x) = 1 then 1 else 0)) ok dX0_isWhole_7 (bk_bit hx) ?_
  refine z_lconst (v := iL 0) ok dX0_isWhole_8 (by decide) ?_
  refine z_lcmp0 ok dX0_isWhole_9 (by split <;> omega) ?_
  refine z_if_ne (tgt := 17) ok dX0_isWhole_10 (by decide) (by unfold zsg; (repeat' split) <;> omega) (fun c10 => ?_) (fun c10 => ?_)
  · -- t
    refine z_iconst ok dX0_isWhole_17 ?_
    exact fin 0 () 18 _ _ _ dX0_isWhole_18 (by first | decide | exact zb_01 _ | omega) (by unfold zsg at c10; first | exact (zb_t (by (repeat' split at c10) <;> omega)).symm | exact (zb_f (by (repeat' split at c10) <;> omega)).symm) (by decide) (by decide)
  · -- f
    refine z_iconst ok dX0_isWhole_13 ?_
    refine z_goto (tgt := 18) ok dX0_isWhole_14 (by decide) ?_
    exact fin 1 () 18 _ _ _ dX0_isWhole_18 (by first | decide | exact zb_01 _ | omega) (by unfold zsg at c10; first | exact (zb_t (by (repeat' split at c10) <;> omega)).symm | exact (zb_f (by (repeat' split at c10) <;> omega)).symm) (by decide) (by decide)
set_option maxRecDepth 20000 in
theorem c_X0_makeWhole {l : Launch} {Z : zZ} {a : Nat → Nat} {N : Int → Int} {x w : Int} (hx : 0 ≤ x ∧ x < 50) (hww : 0 ≤ w ∧ w ≤ 1) : zN (T := Int64) l yX0_makeWhole (Cond.code yX0_makeWhole cX0_makeWhole 5 none :: wsL_law) ({ frames := 0, cells := 0, slots := 0, locals := 0 } : Room) Z [.ref (a 2), .int (iI x), .int (iI w)] (zf [gW Z a (N 4) (N 5) (bkL N)]) (fun u => zf [gW Z a (N 4) (N 5) u]) (fun u => u = bkL (zu N (10 + x) (1 - w))) := by
  refine zN_of (C := RX0) (by decide +kernel) rfl (Nat.le_of_ble_eq_true rfl) (fun X ok fin => ?_)
  refine z_lsub ok (lv' := [(0, .ref (a 2)), (1, .int (iI x)), (2, .int (iI w))]) [0, 1, 2] rfl ?_
  refine z_lconst (v := iL 1) ok dX0_makeWhole_0 (by decide) ?_
  refine z_iload_n ok dX0_makeWhole_1 rfl ?_
  refine z_lshl (v := Int64.ofBitVec (BitVec.twoPow 64 x.toNat)) ok dX0_makeWhole_2 (sh_one (by omega)) ?_
  refine z_lstore_n (lv' := [(3, .long (Int64.ofBitVec (BitVec.twoPow 64 x.toNat))), (0, .ref (a 2)), (1, .int (iI x)), (2, .int (iI w))]) ok dX0_makeWhole_3 (by decide) rfl ?_
  refine z_aload_n ok dX0_makeWhole_4 rfl ?_
  refine z_iload_n ok dX0_makeWhole_5 rfl ?_
  refine z_if_eq (tgt := 22) ok dX0_makeWhole_6 (by decide) (by omega) (fun c6 => ?_) (fun c6 => ?_)
  · -- t
    refine z_aload_n ok dX0_makeWhole_22 rfl ?_
    refine z_get (v := .long (bkL N)) ok zc0 0 rfl 2 (by decide) qf_RX0_18 rfl rfl dX0_makeWhole_23 ?_
    refine z_lload_n ok dX0_makeWhole_26 rfl ?_
    refine z_lor (v := bkL (zu N (10 + x) 1)) ok dX0_makeWhole_27 (bk_set hx) ?_
    refine z_put (ws' := zf [gW Z a (N 4) (N 5) (bkL (zu N (10 + x) 1))]) ok zc0 0 rfl 2 (by decide) qf_RX0_18 rfl rfl rfl rfl (Nat.le_of_ble_eq_true rfl) dX0_makeWhole_28 rfl ?_
    exact fin (bkL (zu N (10 + x) 1)) 31 _ _ _ dX0_makeWhole_31 (by congr 2; omega) (by decide) (by decide)
  · -- f
    refine z_aload_n ok dX0_makeWhole_9 rfl ?_
    refine z_get (v := .long (bkL N)) ok zc0 0 rfl 2 (by decide) qf_RX0_18 rfl rfl dX0_makeWhole_10 ?_
    refine z_lload_n ok dX0_makeWhole_13 rfl ?_
    refine z_ldc2 (v := iL (-1)) ok ql_RX0_41 dX0_makeWhole_14 ?_
    refine z_lxor (v := (Int64.ofBitVec (BitVec.twoPow 64 x.toNat)) ^^^ (iL (-1))) ok dX0_makeWhole_17 (rfl) ?_
    refine z_land (v := bkL (zu N (10 + x) 0)) ok dX0_makeWhole_18 (bk_clr hx) ?_
    refine z_goto (tgt := 28) ok dX0_makeWhole_19 (by decide) ?_
    refine z_put (ws' := zf [gW Z a (N 4) (N 5) (bkL (zu N (10 + x) 0))]) ok zc0 0 rfl 2 (by decide) qf_RX0_18 rfl rfl rfl rfl (Nat.le_of_ble_eq_true rfl) dX0_makeWhole_28 rfl ?_
    exact fin (bkL (zu N (10 + x) 0)) 31 _ _ _ dX0_makeWhole_31 (by congr 2; omega) (by decide) (by decide)
