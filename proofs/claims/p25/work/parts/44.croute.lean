set_option maxRecDepth 20000 in
theorem c_X4_spot {l : Launch} {Z : zZ} {x t : Int}  : zI (T := Unit) l yX4_spot (Cond.code yX4_spot cX4_spot 2 (some .int) :: wsL_law) ({ frames := 0, cells := 0, slots := 0, locals := 0 } : Room) Z [.int (iI x), .int (iI t)] [] (fun _ => []) (fun ρ _ => ρ = t * 25 + x) := by
  refine zI_of (C := RX4) (by decide +kernel) rfl (Nat.le_of_ble_eq_true rfl) (fun _ => True) znI (fun X ok fin => ?_)
  refine z_lsub ok (lv' := [(0, .int (iI x)), (1, .int (iI t))]) [0, 1] rfl ?_
  refine z_iload_n ok dX4_spot_0 rfl ?_
  refine z_bipush ok dX4_spot_1 (by decide) ?_
  refine z_imul ok dX4_spot_3 ?_
  refine z_iload_n ok dX4_spot_4 rfl ?_
  refine z_iadd ok dX4_spot_5 ?_
  exact fin ((t * 25) + x) () 6 _ _ _ dX4_spot_6 (trivial) (rfl) (by decide) (by decide)
set_option maxRecDepth 20000 in
theorem c_X4_opposite {l : Launch} {Z : zZ} {d : Int} (hd : 0 ≤ d ∧ d ≤ 3) : zI (T := Unit) l yX4_opposite (Cond.code yX4_opposite cX4_opposite 1 (some .int) :: wsL_law) ({ frames := 0, cells := 0, slots := 0, locals := 0 } : Room) Z [.int (iI d)] [] (fun _ => []) (fun ρ _ => ρ = opp d) := by
  refine zI_of (C := RX4) (by decide +kernel) rfl (Nat.le_of_ble_eq_true rfl) (fun _ => True) znI (fun X ok fin => ?_)
  refine z_lsub ok (lv' := [(0, .int (iI d))]) [0] rfl ?_
  refine z_iload_n ok dX4_opposite_0 rfl ?_
  rcases (show d < 0 ∨ 2 < d ∨ d = 0 ∨ d = 1 ∨ d = 2 by omega) with c1 | c1 | c1 | c1 | c1
  · -- switch
    refine z_tableOut (tgt := 34) ok dX4_opposite_1 (by omega) (by omega) (by decide) ?_
    refine z_iconst ok dX4_opposite_34 ?_
    exact fin 2 () 35 _ _ _ dX4_opposite_35 (trivial) (by unfold opp; (repeat' split) <;> omega) (by decide) (by decide)
  · -- switch
    refine z_tableOut (tgt := 34) ok dX4_opposite_1 (by omega) (by omega) (by decide) ?_
    refine z_iconst ok dX4_opposite_34 ?_
    exact fin 2 () 35 _ _ _ dX4_opposite_35 (trivial) (by unfold opp; (repeat' split) <;> omega) (by decide) (by decide)
  · -- switch
    refine z_tableIn (off := 27) (tgt := 28) ok dX4_opposite_1 (by omega) (by omega) (by omega) (by rw [c1]; rfl) (by decide) ?_
    refine z_iconst ok dX4_opposite_28 ?_
    exact fin 1 () 29 _ _ _ dX4_opposite_29 (trivial) (by unfold opp; (repeat' split) <;> omega) (by decide) (by decide)
  · -- switch
    refine z_tableIn (off := 29) (tgt := 30) ok dX4_opposite_1 (by omega) (by omega) (by omega) (by rw [c1]; rfl) (by decide) ?_
    refine z_iconst ok dX4_opposite_30 ?_
    exact fin 0 () 31 _ _ _ dX4_opposite_31 (trivial) (by unfold opp; (repeat' split) <;> omega) (by decide) (by decide)
  · -- switch
    refine z_tableIn (off := 31) (tgt := 32) ok dX4_opposite_1 (by omega) (by omega) (by omega) (by rw [c1]; rfl) (by decide) ?_
    refine z_iconst ok dX4_opposite_32 ?_
    exact fin 3 () 33 _ _ _ dX4_opposite_33 (trivial) (by unfold opp; (repeat' split) <;> omega) (by decide) (by decide)
set_option maxRecDepth 20000 in
theorem c_X4_boxBehind {l : Launch} {Z : zZ} {b : Nat → Nat} {ef : Int} {op ln nm qu : Int → Int} {qd : Int} {x d : Int} (hx : 0 ≤ x ∧ x < 25) (hd : 0 ≤ d ∧ d ≤ 3) : zI (T := Unit) l yX4_boxBehind (Cond.code yX4_boxBehind cX4_boxBehind 4 (some .int) :: wsL_law) ({ frames := 0, cells := 0, slots := 0, locals := 0 } : Room) Z [.ref (b 0), .int (iI x), .int (iI d)] (zf [rW Z b ef op ln nm qu qd]) (fun _ => zf [rW Z b ef op ln nm qu qd]) (fun ρ _ => ρ = op (x * 4 + d)) := by
  refine zI_of (C := RX4) (by decide +kernel) rfl (Nat.le_of_ble_eq_true rfl) (fun _ => True) znI (fun X ok fin => ?_)
  refine z_lsub ok (lv' := [(0, .ref (b 0)), (1, .int (iI x)), (2, .int (iI d))]) [0, 1, 2] rfl ?_
  refine z_iload_n ok dX4_boxBehind_0 rfl ?_
  refine z_iconst ok dX4_boxBehind_1 ?_
  refine z_imul ok dX4_boxBehind_2 ?_
  refine z_iload_n ok dX4_boxBehind_3 rfl ?_
  refine z_iadd ok dX4_boxBehind_4 ?_
  refine z_istore_n (lv' := [(3, .int (iI ((x * 4) + d))), (0, .ref (b 0)), (1, .int (iI x)), (2, .int (iI d))]) ok dX4_boxBehind_5 (by decide) rfl ?_
  refine z_iload_n ok dX4_boxBehind_6 rfl ?_
  refine z_if_lt (tgt := 28) ok dX4_boxBehind_7 (by decide) (by omega) (fun c7 => ?_) (fun c7 => ?_)
  · -- t
    refine z_iconst ok dX4_boxBehind_28 ?_
    exact fin (-1) () 29 _ _ _ dX4_boxBehind_29 (trivial) (by first | rfl | omega) (by decide) (by decide)
  · -- f
    refine z_iload_n ok dX4_boxBehind_10 rfl ?_
    refine z_aload_n ok dX4_boxBehind_11 rfl ?_
    refine z_get (v := .ref (b 1)) ok zc4 0 rfl 1 (by decide) qf_RX4_15 rfl rfl dX4_boxBehind_12 ?_
    refine z_alen (v := 100) ok 1 rfl rfl dX4_boxBehind_15 ?_
    refine z_icmp_ge (tgt := 28) ok dX4_boxBehind_16 (by decide) (by omega) (by omega) (fun c16 => ?_) (fun c16 => ?_)
    · -- t
      refine z_iconst ok dX4_boxBehind_28 ?_
      exact fin (-1) () 29 _ _ _ dX4_boxBehind_29 (trivial) (by first | rfl | omega) (by decide) (by decide)
    · -- f
      refine z_aload_n ok dX4_boxBehind_19 rfl ?_
      refine z_get (v := .ref (b 1)) ok zc4 0 rfl 1 (by decide) qf_RX4_15 rfl rfl dX4_boxBehind_20 ?_
      refine z_iload_n ok dX4_boxBehind_23 rfl ?_
      refine z_iald (f := op) ok 1 rfl dX4_boxBehind_24 (by omega) (by decide) ?_
      refine z_goto (tgt := 29) ok dX4_boxBehind_25 (by decide) ?_
      exact fin (op ((x * 4) + d)) () 29 _ _ _ dX4_boxBehind_29 (trivial) (by first | rfl | omega) (by decide) (by decide)
set_option maxRecDepth 20000 in
theorem c_X4_length {l : Launch} {Z : zZ} {b : Nat → Nat} {ef : Int} {op ln nm qu : Int → Int} {qd : Int} {x t to : Int} (hx : 0 ≤ x ∧ x < 25) (ht : 0 ≤ t ∧ t ≤ 1) (hto : 0 ≤ to ∧ to < 25) : zI (T := Unit) l yX4_length (Cond.code yX4_length cX4_length 5 (some .int) :: wsL_law) ({ frames := 1, cells := 0, slots := 0, locals := 21 } : Room) Z [.ref (b 0), .int (iI x), .int (iI t), .int (iI to)] (zf [rW Z b ef op ln nm qu qd]) (fun _ => zf [rW Z b ef op ln nm qu qd]) (fun ρ _ => ρ = ln (to * 50 + (t * 25 + x))) := by
  refine zI_of (C := RX4) (by decide +kernel) rfl (Nat.le_of_ble_eq_true rfl) (fun _ => True) znI (fun X ok fin => ?_)
  refine z_lsub ok (lv' := [(0, .ref (b 0)), (1, .int (iI x)), (2, .int (iI t)), (3, .int (iI to))]) [0, 1, 2, 3] rfl ?_
  refine z_iload_n ok dX4_length_0 rfl ?_
  refine z_bipush ok dX4_length_1 (by decide) ?_
  refine z_imul ok dX4_length_3 ?_
  refine z_iload_n ok dX4_length_4 rfl ?_
  refine z_iload_n ok dX4_length_5 rfl ?_
  refine z_callSie ok (fun l => c_X4_spot  ) zm_X4_spot qt_X4_spot qm_RX4_53 dX4_length_6 (by decide) (by decide) rfl rfl (Nat.le_of_ble_eq_true rfl) (fun ρ _ hρ => ?_)
  subst hρ
  refine z_iadd ok dX4_length_9 ?_
  refine z_istore (lv' := [(4, .int (iI ((to * 50) + (t * 25 + x)))), (0, .ref (b 0)), (1, .int (iI x)), (2, .int (iI t)), (3, .int (iI to))]) ok dX4_length_10 (by decide) rfl ?_
  refine z_iload ok dX4_length_12 rfl ?_
  refine z_if_lt (tgt := 37) ok dX4_length_14 (by decide) (by omega) (fun c14 => ?_) (fun c14 => ?_)
  · -- t
    refine z_sipush ok dX4_length_37 (by decide) ?_
    exact fin 1000 () 40 _ _ _ dX4_length_40 (trivial) (by first | rfl | omega) (by decide) (by decide)
  · -- f
    refine z_iload ok dX4_length_17 rfl ?_
    refine z_aload_n ok dX4_length_19 rfl ?_
    refine z_get (v := .ref (b 2)) ok zc4 0 rfl 2 (by decide) qf_RX4_19 rfl rfl dX4_length_20 ?_
    refine z_alen (v := 1250) ok 2 rfl rfl dX4_length_23 ?_
    refine z_icmp_ge (tgt := 37) ok dX4_length_24 (by decide) (by omega) (by omega) (fun c24 => ?_) (fun c24 => ?_)
    · -- t
      refine z_sipush ok dX4_length_37 (by decide) ?_
      exact fin 1000 () 40 _ _ _ dX4_length_40 (trivial) (by first | rfl | omega) (by decide) (by decide)
    · -- f
      refine z_aload_n ok dX4_length_27 rfl ?_
      refine z_get (v := .ref (b 2)) ok zc4 0 rfl 2 (by decide) qf_RX4_19 rfl rfl dX4_length_28 ?_
      refine z_iload ok dX4_length_31 rfl ?_
      refine z_iald (f := ln) ok 2 rfl dX4_length_33 (by omega) (by decide) ?_
      refine z_goto (tgt := 40) ok dX4_length_34 (by decide) ?_
      exact fin (ln ((to * 50) + (t * 25 + x))) () 40 _ _ _ dX4_length_40 (trivial) (by first | rfl | omega) (by decide) (by decide)
set_option maxRecDepth 20000 in
theorem c_X4_mayMove {l : Launch} {Z : zZ} {b : Nat → Nat} {ef : Int} {op ln nm qu : Int → Int} {qd : Int} {t d : Int} (hef : 0 ≤ ef ∧ ef ≤ 1) (ht : 0 ≤ t ∧ t ≤ 1) (hd : 0 ≤ d ∧ d ≤ 3) : zI (T := Unit) l yX4_mayMove (Cond.code yX4_mayMove cX4_mayMove 3 (some .boolean) :: wsL_law) ({ frames := 0, cells := 0, slots := 0, locals := 0 } : Room) Z [.ref (b 0), .int (iI t), .int (iI d)] (zf [rW Z b ef op ln nm qu qd]) (fun _ => zf [rW Z b ef op ln nm qu qd]) (fun ρ _ => ρ = zb (¬ (ef = 1 ∧ t = 1 ∧ d = 0))) := by
  refine zI_of (C := RX4) (by decide +kernel) rfl (Nat.le_of_ble_eq_true rfl) (fun ρ => ρ = 0 ∨ ρ = 1) znZ (fun X ok fin => ?_)
  refine z_lsub ok (lv' := [(0, .ref (b 0)), (1, .int (iI t)), (2, .int (iI d))]) [0, 1, 2] rfl ?_
  refine z_aload_n ok dX4_mayMove_0 rfl ?_
  refine z_get (v := .int (iI ef)) ok zc4 0 rfl 0 (by decide) qf_RX4_9 rfl rfl dX4_mayMove_1 ?_
  refine z_if_eq (tgt := 15) ok dX4_mayMove_4 (by decide) (by omega) (fun c4 => ?_) (fun c4 => ?_)
  · -- t
    refine z_iconst ok dX4_mayMove_15 ?_
    refine z_goto (tgt := 20) ok dX4_mayMove_16 (by decide) ?_
    exact fin 1 () 20 _ _ _ dX4_mayMove_20 (by first | decide | exact zb_01 _ | omega) (by first | exact (zb_t (by omega)).symm | exact (zb_f (by omega)).symm) (by decide) (by decide)
  · -- f
    refine z_iload_n ok dX4_mayMove_7 rfl ?_
    refine z_if_eq (tgt := 15) ok dX4_mayMove_8 (by decide) (by omega) (fun c8 => ?_) (fun c8 => ?_)
    · -- t
      refine z_iconst ok dX4_mayMove_15 ?_
      refine z_goto (tgt := 20) ok dX4_mayMove_16 (by decide) ?_
      exact fin 1 () 20 _ _ _ dX4_mayMove_20 (by first | decide | exact zb_01 _ | omega) (by first | exact (zb_t (by omega)).symm | exact (zb_f (by omega)).symm) (by decide) (by decide)
    · -- f
      refine z_iload_n ok dX4_mayMove_11 rfl ?_
      refine z_if_eq (tgt := 19) ok dX4_mayMove_12 (by decide) (by omega) (fun c12 => ?_) (fun c12 => ?_)
      · -- t
        refine z_iconst ok dX4_mayMove_19 ?_
        exact fin 0 () 20 _ _ _ dX4_mayMove_20 (by first | decide | exact zb_01 _ | omega) (by first | exact (zb_t (by omega)).symm | exact (zb_f (by omega)).symm) (by decide) (by decide)
      · -- f
        refine z_iconst ok dX4_mayMove_15 ?_
        refine z_goto (tgt := 20) ok dX4_mayMove_16 (by decide) ?_
        exact fin 1 () 20 _ _ _ dX4_mayMove_20 (by first | decide | exact zb_01 _ | omega) (by first | exact (zb_t (by omega)).symm | exact (zb_f (by omega)).symm) (by decide) (by decide)
set_option maxRecDepth 20000 in
theorem c_X4_lengthAfter {l : Launch} {Z : zZ} {b : Nat → Nat} {ef : Int} {op ln nm qu : Int → Int} {qd : Int} {x t d to : Int} (hef : 0 ≤ ef ∧ ef ≤ 1) (hx : 0 ≤ x ∧ x < 25) (ht : 0 ≤ t ∧ t ≤ 1) (hd : 0 ≤ d ∧ d ≤ 3) (hto : 0 ≤ to ∧ to < 25) (hop : -1 ≤ op (x * 4 + d) ∧ op (x * 4 + d) < 25) : zI (T := Unit) l yX4_lengthAfter (Cond.code yX4_lengthAfter cX4_lengthAfter 6 (some .int) :: wsL_law) ({ frames := 2, cells := 0, slots := 0, locals := 45 } : Room) Z [.ref (b 0), .int (iI x), .int (iI t), .int (iI d), .int (iI to)] (zf [rW Z b ef op ln nm qu qd]) (fun _ => zf [rW Z b ef op ln nm qu qd]) (fun ρ _ => ρ = laf ef op ln x t d to) := by
  refine zI_of (C := RX4) (by decide +kernel) rfl (Nat.le_of_ble_eq_true rfl) (fun _ => True) znI (fun X ok fin => ?_)
  refine z_lsub ok (lv' := [(0, .ref (b 0)), (1, .int (iI x)), (2, .int (iI t)), (3, .int (iI d)), (4, .int (iI to))]) [0, 1, 2, 3, 4] rfl ?_
  refine z_aload_n ok dX4_lengthAfter_0 rfl ?_
  refine z_iload_n ok dX4_lengthAfter_1 rfl ?_
  refine z_iload_n ok dX4_lengthAfter_2 rfl ?_
  refine z_callVi0 ok (fun l => c_X4_boxBehind  (by omega) (by omega)) zm_X4_boxBehind zv_X4_boxBehind qm_RX4_56 dX4_lengthAfter_3 (by decide) (by decide) rfl rfl (Nat.le_of_ble_eq_true rfl) (q0 := 0) rfl rfl rfl (fun ρ _ hρ => ?_)
  subst hρ
  refine z_eq (ws' := zf [rW Z b ef op ln nm qu qd]) rfl ?_
  refine z_istore (lv' := [(5, .int (iI (op (x * 4 + d)))), (0, .ref (b 0)), (1, .int (iI x)), (2, .int (iI t)), (3, .int (iI d)), (4, .int (iI to))]) ok dX4_lengthAfter_6 (by decide) rfl ?_
  refine z_iload ok dX4_lengthAfter_8 rfl ?_
  refine z_iconst ok dX4_lengthAfter_10 ?_
  refine z_icmp_eq (tgt := 23) ok dX4_lengthAfter_11 (by decide) (by omega) (by omega) (fun c11 => ?_) (fun c11 => ?_)
  · -- t
    refine z_sipush ok dX4_lengthAfter_23 (by decide) ?_
    exact fin 1000 () 26 _ _ _ dX4_lengthAfter_26 (trivial) (by unfold laf; first | rw [if_pos (by omega)] | (rw [if_neg (by omega)]; first | (rw [if_pos (by omega)]; done) | rw [if_neg (by omega)])) (by decide) (by decide)
  · -- f
    refine z_aload_n ok dX4_lengthAfter_14 rfl ?_
    refine z_iload_n ok dX4_lengthAfter_15 rfl ?_
    refine z_iload_n ok dX4_lengthAfter_16 rfl ?_
    refine z_callVi0 ok (fun l => c_X4_mayMove  (by omega) (by omega) (by omega)) zm_X4_mayMove zv_X4_mayMove qm_RX4_59 dX4_lengthAfter_17 (by decide) (by decide) rfl rfl (Nat.le_of_ble_eq_true rfl) (q0 := 0) rfl rfl rfl (fun ρ _ hρ => ?_)
    subst hρ
    refine z_eq (ws' := zf [rW Z b ef op ln nm qu qd]) rfl ?_
    refine z_ifb_ne (tgt := 27) ok dX4_lengthAfter_20 (by decide) (fun c20 => ?_) (fun c20 => ?_)
    · -- t
      refine z_aload_n ok dX4_lengthAfter_27 rfl ?_
      refine z_iload ok dX4_lengthAfter_28 rfl ?_
      refine z_iload_n ok dX4_lengthAfter_30 rfl ?_
      refine z_if_ne (tgt := 38) ok dX4_lengthAfter_31 (by decide) (by omega) (fun c31 => ?_) (fun c31 => ?_)
      · -- t
        refine z_iconst ok dX4_lengthAfter_38 ?_
        refine z_iload ok dX4_lengthAfter_39 rfl ?_
        refine z_callVi0 ok (fun l => c_X4_length  (by omega) (by omega) (by omega)) zm_X4_length zv_X4_length qm_RX4_63 dX4_lengthAfter_41 (by decide) (by decide) rfl rfl (Nat.le_of_ble_eq_true rfl) (q0 := 0) rfl rfl rfl (fun ρ _ hρ => ?_)
        subst hρ
        refine z_eq (ws' := zf [rW Z b ef op ln nm qu qd]) rfl ?_
        exact fin (ln (to * 50 + (1 * 25 + (op (x * 4 + d))))) () 44 _ _ _ dX4_lengthAfter_44 (trivial) (by unfold laf; first | rw [if_pos (by omega)] | (rw [if_neg (by omega)]; first | (rw [if_pos (by omega)]; done) | rw [if_neg (by omega)])) (by decide) (by decide)
      · -- f
        refine z_iload_n ok dX4_lengthAfter_34 rfl ?_
        refine z_goto (tgt := 39) ok dX4_lengthAfter_35 (by decide) ?_
        refine z_iload ok dX4_lengthAfter_39 rfl ?_
        refine z_callVi0 ok (fun l => c_X4_length  (by omega) (by omega) (by omega)) zm_X4_length zv_X4_length qm_RX4_63 dX4_lengthAfter_41 (by decide) (by decide) rfl rfl (Nat.le_of_ble_eq_true rfl) (q0 := 0) rfl rfl rfl (fun ρ _ hρ => ?_)
        subst hρ
        refine z_eq (ws' := zf [rW Z b ef op ln nm qu qd]) rfl ?_
        exact fin (ln (to * 50 + (t * 25 + (op (x * 4 + d))))) () 44 _ _ _ dX4_lengthAfter_44 (trivial) (by unfold laf; first | rw [if_pos (by omega)] | (rw [if_neg (by omega)]; first | (rw [if_pos (by omega)]; done) | rw [if_neg (by omega)])) (by decide) (by decide)
    · -- f
      refine z_sipush ok dX4_lengthAfter_23 (by decide) ?_
      exact fin 1000 () 26 _ _ _ dX4_lengthAfter_26 (trivial) (by unfold laf; first | rw [if_pos (by omega)] | (rw [if_neg (by omega)]; first | (rw [if_pos (by omega)]; done) | rw [if_neg (by omega)])) (by decide) (by decide)
