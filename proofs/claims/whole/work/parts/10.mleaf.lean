set_option maxRecDepth 20000 in
theorem c_X7_in {l : Launch} {Z : zZ} {v lo hi : Int} (hv : -2147483648 ≤ v ∧ v < 2147483648) (hlo : -2147483648 ≤ lo ∧ lo < 2147483648) (hhi : -2147483648 ≤ hi ∧ hi < 2147483648) : zI (T := Unit) l yX7_in (Cond.code yX7_in cX7_in 3 (some .boolean) :: wsL_law) ({ frames := 0, cells := 0, slots := 0, locals := 0 } : Room) Z [.int (iI v), .int (iI lo), .int (iI hi)] [] (fun _ => []) (fun ρ _ => ρ = zb (lo ≤ v ∧ v ≤ hi)) := by
  refine zI_of (C := RX7) (by decide +kernel) rfl (Nat.le_of_ble_eq_true rfl) (fun ρ => ρ = 0 ∨ ρ = 1) znZ (fun X ok fin => ?_)
  refine z_lsub ok (lv' := [(0, .int (iI v)), (1, .int (iI lo)), (2, .int (iI hi))]) [0, 1, 2] rfl ?_
  refine z_iload_n ok dX7_in_0 rfl ?_
  refine z_iload_n ok dX7_in_1 rfl ?_
  refine z_icmp_lt (tgt := 14) ok dX7_in_2 (by decide) (by omega) (by omega) (fun c2 => ?_) (fun c2 => ?_)
  · -- t
    refine z_iconst ok dX7_in_14 ?_
    exact fin 0 () 15 _ _ _ dX7_in_15 (by first | decide | exact zb_01 _ | omega) (by first | exact (zb_t (by omega)).symm | exact (zb_f (by omega)).symm) (by decide) (by decide)
  · -- f
    refine z_iload_n ok dX7_in_5 rfl ?_
    refine z_iload_n ok dX7_in_6 rfl ?_
    refine z_icmp_gt (tgt := 14) ok dX7_in_7 (by decide) (by omega) (by omega) (fun c7 => ?_) (fun c7 => ?_)
    · -- t
      refine z_iconst ok dX7_in_14 ?_
      exact fin 0 () 15 _ _ _ dX7_in_15 (by first | decide | exact zb_01 _ | omega) (by first | exact (zb_t (by omega)).symm | exact (zb_f (by omega)).symm) (by decide) (by decide)
    · -- f
      refine z_iconst ok dX7_in_10 ?_
      refine z_goto (tgt := 15) ok dX7_in_11 (by decide) ?_
      exact fin 1 () 15 _ _ _ dX7_in_15 (by first | decide | exact zb_01 _ | omega) (by first | exact (zb_t (by omega)).symm | exact (zb_f (by omega)).symm) (by decide) (by decide)
set_option maxRecDepth 20000 in
theorem c_X7_boxes {l : Launch} {Z : zZ} {q : Nat → Nat} {now kept hist : Int → Int} {und : Int} {sav isv pad : Int → Int} {sg it : Int} {far many laid sides stuck ord : Int → Int} {rd pl wr : Int}  : zI (T := Unit) l yX7_boxes (Cond.code yX7_boxes cX7_boxes 1 (some .int) :: wsL_law) ({ frames := 0, cells := 0, slots := 0, locals := 0 } : Room) Z [.ref (q 0)] (mW Z q now kept hist und sav isv pad sg it far many laid sides stuck ord rd pl wr) (fun _ => mW Z q now kept hist und sav isv pad sg it far many laid sides stuck ord rd pl wr) (fun ρ _ => ρ = now 4 * now 5) := by
  refine zI_of (C := RX7) (by decide +kernel) rfl (Nat.le_of_ble_eq_true rfl) (fun _ => True) znI (fun X ok fin => ?_)
  refine z_lsub ok (lv' := [(0, .ref (q 0))]) [0] rfl ?_
  refine z_aload_n ok dX7_boxes_0 rfl ?_
  refine z_get (v := .ref (q 1)) ok zc7 0 rfl 0 (by decide) qf_RX7_7 rfl rfl dX7_boxes_1 ?_
  refine z_iconst ok dX7_boxes_4 ?_
  refine z_iald (f := now) ok 1 rfl dX7_boxes_5 (by omega) (by decide) ?_
  refine z_aload_n ok dX7_boxes_6 rfl ?_
  refine z_get (v := .ref (q 1)) ok zc7 0 rfl 0 (by decide) qf_RX7_7 rfl rfl dX7_boxes_7 ?_
  refine z_iconst ok dX7_boxes_10 ?_
  refine z_iald (f := now) ok 1 rfl dX7_boxes_11 (by omega) (by decide) ?_
  refine z_imul ok dX7_boxes_12 ?_
  exact fin ((now 4) * (now 5)) () 13 _ _ _ dX7_boxes_13 (trivial) (rfl) (by decide) (by decide)
set_option maxRecDepth 20000 in
theorem c_X7_isBox {l : Launch} {Z : zZ} {q : Nat → Nat} {now kept hist : Int → Int} {und : Int} {sav isv pad : Int → Int} {sg it : Int} {far many laid sides stuck ord : Int → Int} {rd pl wr : Int} {box : Int} (hc : 2 ≤ now 4 ∧ now 4 ≤ 5) (hr : 2 ≤ now 5 ∧ now 5 ≤ 5) (hb : -2147483648 ≤ box ∧ box < 2147483648) : zI (T := Unit) l yX7_isBox (Cond.code yX7_isBox cX7_isBox 2 (some .boolean) :: wsL_law) ({ frames := 1, cells := 0, slots := 0, locals := 22 } : Room) Z [.ref (q 0), .int (iI box)] (mW Z q now kept hist und sav isv pad sg it far many laid sides stuck ord rd pl wr) (fun _ => mW Z q now kept hist und sav isv pad sg it far many laid sides stuck ord rd pl wr) (fun ρ _ => ρ = zb (0 ≤ box ∧ box < now 4 * now 5)) := by
  refine zI_of (C := RX7) (by decide +kernel) rfl (Nat.le_of_ble_eq_true rfl) (fun ρ => ρ = 0 ∨ ρ = 1) znZ (fun X ok fin => ?_)
  have hcr := cr_rng hc hr
  refine z_lsub ok (lv' := [(0, .ref (q 0)), (1, .int (iI box))]) [0, 1] rfl ?_
  refine z_iload_n ok dX7_isBox_0 rfl ?_
  refine z_iconst ok dX7_isBox_1 ?_
  refine z_aload_n ok dX7_isBox_2 rfl ?_
  refine z_callVi0 ok (fun l => c_X7_boxes  ) zm_X7_boxes zv_X7_boxes qm_RX7_55 dX7_isBox_3 (by decide) (by decide) rfl rfl (Nat.le_of_ble_eq_true rfl) (q0 := 0) rfl rfl rfl (fun ρ _ hρ => ?_)
  subst hρ
  refine z_eq (ws' := mW Z q now kept hist und sav isv pad sg it far many laid sides stuck ord rd pl wr) rfl ?_
  refine z_iconst ok dX7_isBox_6 ?_
  refine z_isub ok dX7_isBox_7 ?_
  refine z_callSie ok (fun l => c_X7_in  (by omega) (by omega) (by omega)) zm_X7_in qt_X7_in qm_RX7_59 dX7_isBox_8 (by decide) (by decide) rfl rfl (Nat.le_of_ble_eq_true rfl) (fun ρ _ hρ => ?_)
  subst hρ
  exact fin (zb (0 ≤ box ∧ box ≤ ((now 4 * now 5) - 1))) () 11 _ _ _ dX7_isBox_11 (by first | decide | exact zb_01 _ | omega) (zb_cong (by omega)) (by decide) (by decide)
set_option maxRecDepth 20000 in
theorem c_X7_beside {l : Launch} {Z : zZ} {q : Nat → Nat} {now kept hist : Int → Int} {und : Int} {sav isv pad : Int → Int} {sg it : Int} {far many laid sides stuck ord : Int → Int} {rd pl wr : Int} {box side : Int} (hc : 2 ≤ now 4 ∧ now 4 ≤ 5) (hr : 2 ≤ now 5 ∧ now 5 ≤ 5) (hb : 0 ≤ box ∧ box < now 4 * now 5) (hs : 0 ≤ side ∧ side ≤ 3) : zI (T := Unit) l yX7_beside (Cond.code yX7_beside cX7_beside 6 (some .int) :: wsL_law) ({ frames := 1, cells := 0, slots := 0, locals := 22 } : Room) Z [.ref (q 0), .int (iI box), .int (iI side)] (mW Z q now kept hist und sav isv pad sg it far many laid sides stuck ord rd pl wr) (fun _ => mW Z q now kept hist und sav isv pad sg it far many laid sides stuck ord rd pl wr) (fun ρ _ => ρ = nbm now box side) := by
  refine zI_of (C := RX7) (by decide +kernel) rfl (Nat.le_of_ble_eq_true rfl) (fun _ => True) znI (fun X ok fin => ?_)
  have hdm := dm hc hb.1
  have hdr := dmr hc hb.1 hb.2
  have hcr := cr_rng hc hr
  have h1 : (box / now 4 + 1) * now 4 = box / now 4 * now 4 + now 4 := by rw [Int.add_mul, Int.one_mul]
  have h2 : (box / now 4 - 1) * now 4 = box / now 4 * now 4 - now 4 := by rw [Int.sub_mul, Int.one_mul]
  refine z_lsub ok (lv' := [(0, .ref (q 0)), (1, .int (iI box)), (2, .int (iI side))]) [0, 1, 2] rfl ?_
  refine z_iload_n ok dX7_beside_0 rfl ?_
  refine z_aload_n ok dX7_beside_1 rfl ?_
  refine z_get (v := .ref (q 1)) ok zc7 0 rfl 0 (by decide) qf_RX7_7 rfl rfl dX7_beside_2 ?_
  refine z_iconst ok dX7_beside_5 ?_
  refine z_iald (f := now) ok 1 rfl dX7_beside_6 (by omega) (by decide) ?_
  refine z_irem ok dX7_beside_7 (by omega) (by omega) ?_
  refine z_istore_n (lv' := [(3, .int (iI (box % (now 4)))), (0, .ref (q 0)), (1, .int (iI box)), (2, .int (iI side))]) ok dX7_beside_8 (by decide) rfl ?_
  refine z_iload_n ok dX7_beside_9 rfl ?_
  refine z_aload_n ok dX7_beside_10 rfl ?_
  refine z_get (v := .ref (q 1)) ok zc7 0 rfl 0 (by decide) qf_RX7_7 rfl rfl dX7_beside_11 ?_
  refine z_iconst ok dX7_beside_14 ?_
  refine z_iald (f := now) ok 1 rfl dX7_beside_15 (by omega) (by decide) ?_
  refine z_idiv ok dX7_beside_16 (by omega) (by omega) ?_
  refine z_istore (lv' := [(4, .int (iI (box / (now 4)))), (3, .int (iI (box % (now 4)))), (0, .ref (q 0)), (1, .int (iI box)), (2, .int (iI side))]) ok dX7_beside_17 (by decide) rfl ?_
  refine z_iload_n ok dX7_beside_19 rfl ?_
  refine z_iconst ok dX7_beside_20 ?_
  refine z_icmp_ge (tgt := 74) ok dX7_beside_21 (by decide) (by omega) (by omega) (fun c21 => ?_) (fun c21 => ?_)
  · -- t
    refine z_iload_n ok dX7_beside_74 rfl ?_
    refine z_iconst ok dX7_beside_75 ?_
    refine z_icmp_ne (tgt := 86) ok dX7_beside_76 (by decide) (by omega) (by omega) (fun c76 => ?_) (fun c76 => ?_)
    · -- t
      refine z_iload ok dX7_beside_86 rfl ?_
      refine z_iconst ok dX7_beside_88 ?_
      refine z_isub ok dX7_beside_89 ?_
      refine z_istore (lv' := [(5, .int (iI ((box / (now 4)) - 1))), (4, .int (iI (box / (now 4)))), (3, .int (iI (box % (now 4)))), (0, .ref (q 0)), (1, .int (iI box)), (2, .int (iI side))]) ok dX7_beside_90 (by decide) rfl ?_
      refine z_iload ok dX7_beside_92 rfl ?_
      refine z_iconst ok dX7_beside_94 ?_
      refine z_aload_n ok dX7_beside_95 rfl ?_
      refine z_get (v := .ref (q 1)) ok zc7 0 rfl 0 (by decide) qf_RX7_7 rfl rfl dX7_beside_96 ?_
      refine z_iconst ok dX7_beside_99 ?_
      refine z_iald (f := now) ok 1 rfl dX7_beside_100 (by omega) (by decide) ?_
      refine z_iconst ok dX7_beside_101 ?_
      refine z_isub ok dX7_beside_102 ?_
      refine z_callSie ok (fun l => c_X7_in  (by omega) (by omega) (by omega)) zm_X7_in qt_X7_in qm_RX7_59 dX7_beside_103 (by decide) (by decide) rfl rfl (Nat.le_of_ble_eq_true rfl) (fun ρ _ hρ => ?_)
      subst hρ
      refine z_ifb_eq (tgt := 123) ok dX7_beside_106 (by decide) (fun c106 => ?_) (fun c106 => ?_)
      · -- t
        refine z_bipush ok dX7_beside_123 (by decide) ?_
        exact fin (-6) () 125 _ _ _ dX7_beside_125 (trivial) (by unfold nbm nb; (repeat' split) <;> omega) (by decide) (by decide)
      · -- f
        refine z_iload ok dX7_beside_109 rfl ?_
        refine z_aload_n ok dX7_beside_111 rfl ?_
        refine z_get (v := .ref (q 1)) ok zc7 0 rfl 0 (by decide) qf_RX7_7 rfl rfl dX7_beside_112 ?_
        refine z_iconst ok dX7_beside_115 ?_
        refine z_iald (f := now) ok 1 rfl dX7_beside_116 (by omega) (by decide) ?_
        refine z_imul ok dX7_beside_117 ?_
        refine z_iload_n ok dX7_beside_118 rfl ?_
        refine z_iadd ok dX7_beside_119 ?_
        refine z_goto (tgt := 125) ok dX7_beside_120 (by decide) ?_
        exact fin ((((box / (now 4)) - 1) * (now 4)) + (box % (now 4))) () 125 _ _ _ dX7_beside_125 (trivial) (by unfold nbm nb; (repeat' split) <;> omega) (by decide) (by decide)
    · -- f
      refine z_iload ok dX7_beside_79 rfl ?_
      refine z_iconst ok dX7_beside_81 ?_
      refine z_iadd ok dX7_beside_82 ?_
      refine z_goto (tgt := 90) ok dX7_beside_83 (by decide) ?_
      refine z_istore (lv' := [(5, .int (iI ((box / (now 4)) + 1))), (4, .int (iI (box / (now 4)))), (3, .int (iI (box % (now 4)))), (0, .ref (q 0)), (1, .int (iI box)), (2, .int (iI side))]) ok dX7_beside_90 (by decide) rfl ?_
      refine z_iload ok dX7_beside_92 rfl ?_
      refine z_iconst ok dX7_beside_94 ?_
      refine z_aload_n ok dX7_beside_95 rfl ?_
      refine z_get (v := .ref (q 1)) ok zc7 0 rfl 0 (by decide) qf_RX7_7 rfl rfl dX7_beside_96 ?_
      refine z_iconst ok dX7_beside_99 ?_
      refine z_iald (f := now) ok 1 rfl dX7_beside_100 (by omega) (by decide) ?_
      refine z_iconst ok dX7_beside_101 ?_
      refine z_isub ok dX7_beside_102 ?_
      refine z_callSie ok (fun l => c_X7_in  (by omega) (by omega) (by omega)) zm_X7_in qt_X7_in qm_RX7_59 dX7_beside_103 (by decide) (by decide) rfl rfl (Nat.le_of_ble_eq_true rfl) (fun ρ _ hρ => ?_)
      subst hρ
      refine z_ifb_eq (tgt := 123) ok dX7_beside_106 (by decide) (fun c106 => ?_) (fun c106 => ?_)
      · -- t
        refine z_bipush ok dX7_beside_123 (by decide) ?_
        exact fin (-6) () 125 _ _ _ dX7_beside_125 (trivial) (by unfold nbm nb; (repeat' split) <;> omega) (by decide) (by decide)
      · -- f
        refine z_iload ok dX7_beside_109 rfl ?_
        refine z_aload_n ok dX7_beside_111 rfl ?_
        refine z_get (v := .ref (q 1)) ok zc7 0 rfl 0 (by decide) qf_RX7_7 rfl rfl dX7_beside_112 ?_
        refine z_iconst ok dX7_beside_115 ?_
        refine z_iald (f := now) ok 1 rfl dX7_beside_116 (by omega) (by decide) ?_
        refine z_imul ok dX7_beside_117 ?_
        refine z_iload_n ok dX7_beside_118 rfl ?_
        refine z_iadd ok dX7_beside_119 ?_
        refine z_goto (tgt := 125) ok dX7_beside_120 (by decide) ?_
        exact fin ((((box / (now 4)) + 1) * (now 4)) + (box % (now 4))) () 125 _ _ _ dX7_beside_125 (trivial) (by unfold nbm nb; (repeat' split) <;> omega) (by decide) (by decide)
  · -- f
    refine z_iload_n ok dX7_beside_24 rfl ?_
    refine z_if_ne (tgt := 34) ok dX7_beside_25 (by decide) (by omega) (fun c25 => ?_) (fun c25 => ?_)
    · -- t
      refine z_iload_n ok dX7_beside_34 rfl ?_
      refine z_iconst ok dX7_beside_35 ?_
      refine z_isub ok dX7_beside_36 ?_
      refine z_istore (lv' := [(5, .int (iI ((box % (now 4)) - 1))), (4, .int (iI (box / (now 4)))), (3, .int (iI (box % (now 4)))), (0, .ref (q 0)), (1, .int (iI box)), (2, .int (iI side))]) ok dX7_beside_37 (by decide) rfl ?_
      refine z_iload ok dX7_beside_39 rfl ?_
      refine z_iconst ok dX7_beside_41 ?_
      refine z_aload_n ok dX7_beside_42 rfl ?_
      refine z_get (v := .ref (q 1)) ok zc7 0 rfl 0 (by decide) qf_RX7_7 rfl rfl dX7_beside_43 ?_
      refine z_iconst ok dX7_beside_46 ?_
      refine z_iald (f := now) ok 1 rfl dX7_beside_47 (by omega) (by decide) ?_
      refine z_iconst ok dX7_beside_48 ?_
      refine z_isub ok dX7_beside_49 ?_
      refine z_callSie ok (fun l => c_X7_in  (by omega) (by omega) (by omega)) zm_X7_in qt_X7_in qm_RX7_59 dX7_beside_50 (by decide) (by decide) rfl rfl (Nat.le_of_ble_eq_true rfl) (fun ρ _ hρ => ?_)
      subst hρ
      refine z_ifb_eq (tgt := 71) ok dX7_beside_53 (by decide) (fun c53 => ?_) (fun c53 => ?_)
      · -- t
        refine z_bipush ok dX7_beside_71 (by decide) ?_
        exact fin (-6) () 73 _ _ _ dX7_beside_73 (trivial) (by unfold nbm nb; (repeat' split) <;> omega) (by decide) (by decide)
      · -- f
        refine z_iload ok dX7_beside_56 rfl ?_
        refine z_aload_n ok dX7_beside_58 rfl ?_
        refine z_get (v := .ref (q 1)) ok zc7 0 rfl 0 (by decide) qf_RX7_7 rfl rfl dX7_beside_59 ?_
        refine z_iconst ok dX7_beside_62 ?_
        refine z_iald (f := now) ok 1 rfl dX7_beside_63 (by omega) (by decide) ?_
        refine z_imul ok dX7_beside_64 ?_
        refine z_iload ok dX7_beside_65 rfl ?_
        refine z_iadd ok dX7_beside_67 ?_
        refine z_goto (tgt := 73) ok dX7_beside_68 (by decide) ?_
        exact fin (((box / (now 4)) * (now 4)) + ((box % (now 4)) - 1)) () 73 _ _ _ dX7_beside_73 (trivial) (by unfold nbm nb; (repeat' split) <;> omega) (by decide) (by decide)
    · -- f
      refine z_iload_n ok dX7_beside_28 rfl ?_
      refine z_iconst ok dX7_beside_29 ?_
      refine z_iadd ok dX7_beside_30 ?_
      refine z_goto (tgt := 37) ok dX7_beside_31 (by decide) ?_
      refine z_istore (lv' := [(5, .int (iI ((box % (now 4)) + 1))), (4, .int (iI (box / (now 4)))), (3, .int (iI (box % (now 4)))), (0, .ref (q 0)), (1, .int (iI box)), (2, .int (iI side))]) ok dX7_beside_37 (by decide) rfl ?_
      refine z_iload ok dX7_beside_39 rfl ?_
      refine z_iconst ok dX7_beside_41 ?_
      refine z_aload_n ok dX7_beside_42 rfl ?_
      refine z_get (v := .ref (q 1)) ok zc7 0 rfl 0 (by decide) qf_RX7_7 rfl rfl dX7_beside_43 ?_
      refine z_iconst ok dX7_beside_46 ?_
      refine z_iald (f := now) ok 1 rfl dX7_beside_47 (by omega) (by decide) ?_
      refine z_iconst ok dX7_beside_48 ?_
      refine z_isub ok dX7_beside_49 ?_
      refine z_callSie ok (fun l => c_X7_in  (by omega) (by omega) (by omega)) zm_X7_in qt_X7_in qm_RX7_59 dX7_beside_50 (by decide) (by decide) rfl rfl (Nat.le_of_ble_eq_true rfl) (fun ρ _ hρ => ?_)
      subst hρ
      refine z_ifb_eq (tgt := 71) ok dX7_beside_53 (by decide) (fun c53 => ?_) (fun c53 => ?_)
      · -- t
        refine z_bipush ok dX7_beside_71 (by decide) ?_
        exact fin (-6) () 73 _ _ _ dX7_beside_73 (trivial) (by unfold nbm nb; (repeat' split) <;> omega) (by decide) (by decide)
      · -- f
        refine z_iload ok dX7_beside_56 rfl ?_
        refine z_aload_n ok dX7_beside_58 rfl ?_
        refine z_get (v := .ref (q 1)) ok zc7 0 rfl 0 (by decide) qf_RX7_7 rfl rfl dX7_beside_59 ?_
        refine z_iconst ok dX7_beside_62 ?_
        refine z_iald (f := now) ok 1 rfl dX7_beside_63 (by omega) (by decide) ?_
        refine z_imul ok dX7_beside_64 ?_
        refine z_iload ok dX7_beside_65 rfl ?_
        refine z_iadd ok dX7_beside_67 ?_
        refine z_goto (tgt := 73) ok dX7_beside_68 (by decide) ?_
        exact fin (((box / (now 4)) * (now 4)) + ((box % (now 4)) + 1)) () 73 _ _ _ dX7_beside_73 (trivial) (by unfold nbm nb; (repeat' split) <;> omega) (by decide) (by decide)
set_option maxRecDepth 20000 in
theorem c_X7_linkOf {l : Launch} {Z : zZ} {q : Nat → Nat} {now kept hist : Int → Int} {und : Int} {sav isv pad : Int → Int} {sg it : Int} {far many laid sides stuck ord : Int → Int} {rd pl wr : Int} {box side : Int} (hc : 2 ≤ now 4 ∧ now 4 ≤ 5) (hr : 2 ≤ now 5 ∧ now 5 ≤ 5) (hb : 0 ≤ box ∧ box < now 4 * now 5) (hs : 0 ≤ side ∧ side ≤ 3) : zI (T := Unit) l yX7_linkOf (Cond.code yX7_linkOf cX7_linkOf 4 (some .int) :: wsL_law) ({ frames := 2, cells := 0, slots := 0, locals := 47 } : Room) Z [.ref (q 0), .int (iI box), .int (iI side)] (mW Z q now kept hist und sav isv pad sg it far many laid sides stuck ord rd pl wr) (fun _ => mW Z q now kept hist und sav isv pad sg it far many laid sides stuck ord rd pl wr) (fun ρ _ => ρ = lkm now box side) := by
  refine zI_of (C := RX7) (by decide +kernel) rfl (Nat.le_of_ble_eq_true rfl) (fun _ => True) znI (fun X ok fin => ?_)
  have hcr := cr_rng hc hr
  refine z_lsub ok (lv' := [(0, .ref (q 0)), (1, .int (iI box)), (2, .int (iI side))]) [0, 1, 2] rfl ?_
  refine z_iload_n ok dX7_linkOf_0 rfl ?_
  refine z_if_eq (tgt := 9) ok dX7_linkOf_1 (by decide) (by omega) (fun c1 => ?_) (fun c1 => ?_)
  · -- t
    refine z_iload_n ok dX7_linkOf_9 rfl ?_
    refine z_goto (tgt := 19) ok dX7_linkOf_10 (by decide) ?_
    refine z_istore_n (lv' := [(3, .int (iI box)), (0, .ref (q 0)), (1, .int (iI box)), (2, .int (iI side))]) ok dX7_linkOf_19 (by decide) rfl ?_
    refine z_bipush ok dX7_linkOf_20 (by decide) ?_
    refine z_iconst ok dX7_linkOf_22 ?_
    refine z_iload_n ok dX7_linkOf_23 rfl ?_
    refine z_imul ok dX7_linkOf_24 ?_
    refine z_iadd ok dX7_linkOf_25 ?_
    refine z_iload_n ok dX7_linkOf_26 rfl ?_
    refine z_iconst ok dX7_linkOf_27 ?_
    refine z_icmp_ge (tgt := 35) ok dX7_linkOf_28 (by decide) (by omega) (by omega) (fun c28 => ?_) (fun c28 => ?_)
    · -- t
      refine z_iconst ok dX7_linkOf_35 ?_
      refine z_iadd ok dX7_linkOf_36 ?_
      exact fin ((10 + (2 * box)) + 1) () 37 _ _ _ dX7_linkOf_37 (trivial) (by unfold lkm; (repeat' split) <;> omega) (by decide) (by decide)
    · -- f
      refine z_iconst ok dX7_linkOf_31 ?_
      refine z_goto (tgt := 36) ok dX7_linkOf_32 (by decide) ?_
      refine z_iadd ok dX7_linkOf_36 ?_
      exact fin ((10 + (2 * box)) + 0) () 37 _ _ _ dX7_linkOf_37 (trivial) (by unfold lkm; (repeat' split) <;> omega) (by decide) (by decide)
  · -- f
    refine z_iload_n ok dX7_linkOf_4 rfl ?_
    refine z_iconst ok dX7_linkOf_5 ?_
    refine z_icmp_ne (tgt := 13) ok dX7_linkOf_6 (by decide) (by omega) (by omega) (fun c6 => ?_) (fun c6 => ?_)
    · -- t
      refine z_aload_n ok dX7_linkOf_13 rfl ?_
      refine z_iload_n ok dX7_linkOf_14 rfl ?_
      refine z_iload_n ok dX7_linkOf_15 rfl ?_
      refine z_callVi0 ok (fun l => c_X7_beside  (by omega) (by omega) (by omega) (by omega)) zm_X7_beside zv_X7_beside qm_RX7_63 dX7_linkOf_16 (by decide) (by decide) rfl rfl (Nat.le_of_ble_eq_true rfl) (q0 := 0) rfl rfl rfl (fun ρ _ hρ => ?_)
      subst hρ
      refine z_eq (ws' := mW Z q now kept hist und sav isv pad sg it far many laid sides stuck ord rd pl wr) rfl ?_
      refine z_istore_n (lv' := [(3, .int (iI (nbm now box side))), (0, .ref (q 0)), (1, .int (iI box)), (2, .int (iI side))]) ok dX7_linkOf_19 (by decide) rfl ?_
      refine z_bipush ok dX7_linkOf_20 (by decide) ?_
      refine z_iconst ok dX7_linkOf_22 ?_
      refine z_iload_n ok dX7_linkOf_23 rfl ?_
      refine z_imul ok dX7_linkOf_24 ?_
      refine z_iadd ok dX7_linkOf_25 ?_
      refine z_iload_n ok dX7_linkOf_26 rfl ?_
      refine z_iconst ok dX7_linkOf_27 ?_
      refine z_icmp_ge (tgt := 35) ok dX7_linkOf_28 (by decide) (by omega) (by omega) (fun c28 => ?_) (fun c28 => ?_)
      · -- t
        refine z_iconst ok dX7_linkOf_35 ?_
        refine z_iadd ok dX7_linkOf_36 ?_
        exact fin ((10 + (2 * (nbm now box side))) + 1) () 37 _ _ _ dX7_linkOf_37 (trivial) (by unfold lkm; (repeat' split) <;> omega) (by decide) (by decide)
      · -- f
        refine z_iconst ok dX7_linkOf_31 ?_
        refine z_goto (tgt := 36) ok dX7_linkOf_32 (by decide) ?_
        refine z_iadd ok dX7_linkOf_36 ?_
        exact fin ((10 + (2 * (nbm now box side))) + 0) () 37 _ _ _ dX7_linkOf_37 (trivial) (by unfold lkm; (repeat' split) <;> omega) (by decide) (by decide)
    · -- f
      refine z_iload_n ok dX7_linkOf_9 rfl ?_
      refine z_goto (tgt := 19) ok dX7_linkOf_10 (by decide) ?_
      refine z_istore_n (lv' := [(3, .int (iI box)), (0, .ref (q 0)), (1, .int (iI box)), (2, .int (iI side))]) ok dX7_linkOf_19 (by decide) rfl ?_
      refine z_bipush ok dX7_linkOf_20 (by decide) ?_
      refine z_iconst ok dX7_linkOf_22 ?_
      refine z_iload_n ok dX7_linkOf_23 rfl ?_
      refine z_imul ok dX7_linkOf_24 ?_
      refine z_iadd ok dX7_linkOf_25 ?_
      refine z_iload_n ok dX7_linkOf_26 rfl ?_
      refine z_iconst ok dX7_linkOf_27 ?_
      refine z_icmp_ge (tgt := 35) ok dX7_linkOf_28 (by decide) (by omega) (by omega) (fun c28 => ?_) (fun c28 => ?_)
      · -- t
        refine z_iconst ok dX7_linkOf_35 ?_
        refine z_iadd ok dX7_linkOf_36 ?_
        exact fin ((10 + (2 * box)) + 1) () 37 _ _ _ dX7_linkOf_37 (trivial) (by unfold lkm; (repeat' split) <;> omega) (by decide) (by decide)
      · -- f
        refine z_iconst ok dX7_linkOf_31 ?_
        refine z_goto (tgt := 36) ok dX7_linkOf_32 (by decide) ?_
        refine z_iadd ok dX7_linkOf_36 ?_
        exact fin ((10 + (2 * box)) + 0) () 37 _ _ _ dX7_linkOf_37 (trivial) (by unfold lkm; (repeat' split) <;> omega) (by decide) (by decide)
set_option maxRecDepth 20000 in
theorem c_X7_isWhole {l : Launch} {Z : zZ} {q : Nat → Nat} {now kept hist : Int → Int} {und : Int} {sav isv pad : Int → Int} {sg it : Int} {far many laid sides stuck ord : Int → Int} {rd pl wr : Int} {box side : Int} (hw : wf now) (hb : 0 ≤ box ∧ box < now 4 * now 5) (hs : 0 ≤ side ∧ side ≤ 3) : zI (T := Unit) l yX7_isWhole (Cond.code yX7_isWhole cX7_isWhole 3 (some .boolean) :: wsL_law) ({ frames := 3, cells := 0, slots := 0, locals := 70 } : Room) Z [.ref (q 0), .int (iI box), .int (iI side)] (mW Z q now kept hist und sav isv pad sg it far many laid sides stuck ord rd pl wr) (fun _ => mW Z q now kept hist und sav isv pad sg it far many laid sides stuck ord rd pl wr) (fun ρ _ => ρ = zb (opn now box side)) := by
  refine zI_of (C := RX7) (by decide +kernel) rfl (Nat.le_of_ble_eq_true rfl) (fun ρ => ρ = 0 ∨ ρ = 1) znZ (fun X ok fin => ?_)
  obtain ⟨w0, w1, w2, hc, hr, w6, wl, wp⟩ := id hw
  have hcr := cr_rng hc hr
  have hdm := dm hc hb.1
  have hlk : 0 ≤ nb now box side → 10 ≤ lkm now box side ∧ lkm now box side < 60 := lkm_rng hw hb hs
  have hnb := nb_rng hw hb hs
  have hnbm : nbm now box side = if nb now box side < 0 then -6 else nb now box side := rfl
  refine z_lsub ok (lv' := [(0, .ref (q 0)), (1, .int (iI box)), (2, .int (iI side))]) [0, 1, 2] rfl ?_
  refine z_aload_n ok dX7_isWhole_0 rfl ?_
  refine z_iload_n ok dX7_isWhole_1 rfl ?_
  refine z_iload_n ok dX7_isWhole_2 rfl ?_
  refine z_callVi0 ok (fun l => c_X7_beside  (by omega) (by omega) (by omega) (by omega)) zm_X7_beside zv_X7_beside qm_RX7_63 dX7_isWhole_3 (by decide) (by decide) rfl rfl (Nat.le_of_ble_eq_true rfl) (q0 := 0) rfl rfl rfl (fun ρ _ hρ => ?_)
  subst hρ
  refine z_eq (ws' := mW Z q now kept hist und sav isv pad sg it far many laid sides stuck ord rd pl wr) rfl ?_
  refine z_if_lt (tgt := 27) ok dX7_isWhole_6 (by decide) (by omega) (fun c6 => ?_) (fun c6 => ?_)
  · -- t
    refine z_iconst ok dX7_isWhole_27 ?_
    exact fin 0 () 28 _ _ _ dX7_isWhole_28 (by first | decide | exact zb_01 _ | omega) (by first | exact (zb_t ⟨hnb2, by omega⟩).symm | exact (zb_f (fun z => by have := z.2; omega)).symm | exact (zb_f (fun z => by have := z.1; omega)).symm) (by decide) (by decide)
  · -- f
    have hnb2 : 0 ≤ nb now box side := by split at hnbm <;> omega
    have hl := hlk hnb2
    have hbit := wl _ hl.1 hl.2
    refine z_aload_n ok dX7_isWhole_9 rfl ?_
    refine z_get (v := .ref (q 1)) ok zc7 0 rfl 0 (by decide) qf_RX7_7 rfl rfl dX7_isWhole_10 ?_
    refine z_aload_n ok dX7_isWhole_13 rfl ?_
    refine z_iload_n ok dX7_isWhole_14 rfl ?_
    refine z_iload_n ok dX7_isWhole_15 rfl ?_
    refine z_callVi0 ok (fun l => c_X7_linkOf  (by omega) (by omega) (by omega) (by omega)) zm_X7_linkOf zv_X7_linkOf qm_RX7_67 dX7_isWhole_16 (by decide) (by decide) rfl rfl (Nat.le_of_ble_eq_true rfl) (q0 := 0) rfl rfl rfl (fun ρ _ hρ => ?_)
    subst hρ
    refine z_eq (ws' := mW Z q now kept hist und sav isv pad sg it far many laid sides stuck ord rd pl wr) rfl ?_
    refine z_iald (f := now) ok 1 rfl dX7_isWhole_19 (by omega) (by decide) ?_
    refine z_if_ne (tgt := 27) ok dX7_isWhole_20 (by decide) (by omega) (fun c20 => ?_) (fun c20 => ?_)
    · -- t
      refine z_iconst ok dX7_isWhole_27 ?_
      exact fin 0 () 28 _ _ _ dX7_isWhole_28 (by first | decide | exact zb_01 _ | omega) (by first | exact (zb_t ⟨hnb2, by omega⟩).symm | exact (zb_f (fun z => by have := z.2; omega)).symm | exact (zb_f (fun z => by have := z.1; omega)).symm) (by decide) (by decide)
    · -- f
      refine z_iconst ok dX7_isWhole_23 ?_
      refine z_goto (tgt := 28) ok dX7_isWhole_24 (by decide) ?_
      exact fin 1 () 28 _ _ _ dX7_isWhole_28 (by first | decide | exact zb_01 _ | omega) (by first | exact (zb_t ⟨hnb2, by omega⟩).symm | exact (zb_f (fun z => by have := z.2; omega)).symm | exact (zb_f (fun z => by have := z.1; omega)).symm) (by decide) (by decide)
