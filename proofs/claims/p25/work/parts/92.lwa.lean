/-! the law: the small methods -/
theorem o_swap {a b c : va_W} : (a ++ (b ++ c)).Perm (b ++ (a ++ c)) := List.perm_append_comm_assoc a b c
theorem o_in {a : va_W} : a = ([] : va_W) ++ (a ++ ([] : va_W)) := (List.append_nil a).symm
set_option maxRecDepth 20000 in
theorem c_L_apart {l : Launch} {Z : zZ} {ad : zAd} {N : Int → Int} {h : zHd} {a b : Int} (hI : obI N h) (hw : wf N) (ha : isB N a) (hb : isB N b) : zI (T := zHd) l yL_apart (Cond.code yL_apart cL_apart 6 (some .int) :: wsL_law) ({ frames := 8, cells := 0, slots := 0, locals := 190 } : Room) Z [.ref (obX ad), .int (iI a), .int (iI b)] (obW Z ad N h) (fun u => obW Z ad N u) (fun ρ u => ρ = dist N a b ∧ obI N u) := by
  refine zI_of (C := RL) (by decide +kernel) rfl (Nat.le_of_ble_eq_true rfl) (fun _ => True) znI (fun X ok fin => ?_)
  have hcr := wf_cr hw
  have hc := hw.2.2.2.1
  unfold isB at ha hb
  have da := dm hc ha.1
  have db := dm hc hb.1
  refine z_lsub ok (lv' := [(0, .ref (obX ad)), (1, .int (iI a)), (2, .int (iI b))]) [0, 1, 2] rfl ?_
  refine z_eq (ws' := ([] : va_W) ++ (obW Z ad N h ++ ([] : va_W))) o_in ?_
  refine z_aload_n ok dL_apart_0 rfl ?_
  refine z_iconst ok dL_apart_1 ?_
  refine o_count (v := N 4) ok hI hw (by decide) (v_c2) qm_RL_8 dL_apart_2 (by decide) ⟨by decide, by decide⟩ (Nat.le_of_ble_eq_true rfl) (fun h1 h1I => ?_)
  refine z_istore_n (lv' := [(3, .int (iI (N 4))), (0, .ref (obX ad)), (1, .int (iI a)), (2, .int (iI b))]) ok dL_apart_5 (by decide) rfl ?_
  refine z_iload_n ok dL_apart_6 rfl ?_
  refine z_iload_n ok dL_apart_7 rfl ?_
  refine z_irem ok dL_apart_8 (by omega) (by omega) ?_
  refine z_iload_n ok dL_apart_9 rfl ?_
  refine z_iload_n ok dL_apart_10 rfl ?_
  refine z_irem ok dL_apart_11 (by omega) (by omega) ?_
  refine z_isub ok dL_apart_12 ?_
  refine z_istore (lv' := [(4, .int (iI ((a % (N 4)) - (b % (N 4))))), (3, .int (iI (N 4))), (0, .ref (obX ad)), (1, .int (iI a)), (2, .int (iI b))]) ok dL_apart_13 (by decide) rfl ?_
  refine z_iload_n ok dL_apart_15 rfl ?_
  refine z_iload_n ok dL_apart_16 rfl ?_
  refine z_idiv ok dL_apart_17 (by omega) (by omega) ?_
  refine z_iload_n ok dL_apart_18 rfl ?_
  refine z_iload_n ok dL_apart_19 rfl ?_
  refine z_idiv ok dL_apart_20 (by omega) (by omega) ?_
  refine z_isub ok dL_apart_21 ?_
  refine z_istore (lv' := [(5, .int (iI ((a / (N 4)) - (b / (N 4))))), (4, .int (iI ((a % (N 4)) - (b % (N 4))))), (3, .int (iI (N 4))), (0, .ref (obX ad)), (1, .int (iI a)), (2, .int (iI b))]) ok dL_apart_22 (by decide) rfl ?_
  refine z_iload ok dL_apart_24 rfl ?_
  refine z_if_ge (tgt := 35) ok dL_apart_26 (by decide) (by omega) (fun c26 => ?_) (fun c26 => ?_)
  · -- t
    refine z_iload ok dL_apart_35 rfl ?_
    refine z_iload ok dL_apart_37 rfl ?_
    refine z_if_ge (tgt := 48) ok dL_apart_39 (by decide) (by omega) (fun c39 => ?_) (fun c39 => ?_)
    · -- t
      refine z_iload ok dL_apart_48 rfl ?_
      refine z_iadd ok dL_apart_50 ?_
      refine z_eq (ws' := obW Z ad N h1) (List.append_nil _) ?_
      exact fin (((a % (N 4)) - (b % (N 4))) + ((a / (N 4)) - (b / (N 4)))) h1 51 _ _ _ dL_apart_51 (trivial) (⟨by unfold dist zabs; omega, h1I⟩) (by decide) (by decide)
    · -- f
      refine z_iload ok dL_apart_42 rfl ?_
      refine z_ineg ok dL_apart_44 ?_
      refine z_goto (tgt := 50) ok dL_apart_45 (by decide) ?_
      refine z_iadd ok dL_apart_50 ?_
      refine z_eq (ws' := obW Z ad N h1) (List.append_nil _) ?_
      exact fin (((a % (N 4)) - (b % (N 4))) + (-((a / (N 4)) - (b / (N 4))))) h1 51 _ _ _ dL_apart_51 (trivial) (⟨by unfold dist zabs; omega, h1I⟩) (by decide) (by decide)
  · -- f
    refine z_iload ok dL_apart_29 rfl ?_
    refine z_ineg ok dL_apart_31 ?_
    refine z_goto (tgt := 37) ok dL_apart_32 (by decide) ?_
    refine z_iload ok dL_apart_37 rfl ?_
    refine z_if_ge (tgt := 48) ok dL_apart_39 (by decide) (by omega) (fun c39 => ?_) (fun c39 => ?_)
    · -- t
      refine z_iload ok dL_apart_48 rfl ?_
      refine z_iadd ok dL_apart_50 ?_
      refine z_eq (ws' := obW Z ad N h1) (List.append_nil _) ?_
      exact fin ((-((a % (N 4)) - (b % (N 4)))) + ((a / (N 4)) - (b / (N 4)))) h1 51 _ _ _ dL_apart_51 (trivial) (⟨by unfold dist zabs; omega, h1I⟩) (by decide) (by decide)
    · -- f
      refine z_iload ok dL_apart_42 rfl ?_
      refine z_ineg ok dL_apart_44 ?_
      refine z_goto (tgt := 50) ok dL_apart_45 (by decide) ?_
      refine z_iadd ok dL_apart_50 ?_
      refine z_eq (ws' := obW Z ad N h1) (List.append_nil _) ?_
      exact fin ((-((a % (N 4)) - (b % (N 4)))) + (-((a / (N 4)) - (b / (N 4))))) h1 51 _ _ _ dL_apart_51 (trivial) (⟨by unfold dist zabs; omega, h1I⟩) (by decide) (by decide)
set_option maxRecDepth 20000 in
theorem c_L_beside {l : Launch} {Z : zZ} {ad : zAd} {N : Int → Int} {h : zHd} {b d : Int} (hI : obI N h) (hw : wf N) (hb : isB N b) (hd : 0 ≤ d ∧ d ≤ 3) : zI (T := zHd) l yL_beside (Cond.code yL_beside cL_beside 7 (some .int) :: wsL_law) ({ frames := 8, cells := 0, slots := 0, locals := 190 } : Room) Z [.ref (obX ad), .int (iI b), .int (iI d)] (obW Z ad N h) (fun u => obW Z ad N u) (fun ρ u => ρ = nb N b d ∧ obI N u) := by
  refine zI_of (C := RL) (by decide +kernel) rfl (Nat.le_of_ble_eq_true rfl) (fun _ => True) znI (fun X ok fin => ?_)
  have hcr := wf_cr hw
  have hc := hw.2.2.2.1
  have hr := hw.2.2.2.2.1
  unfold isB at hb
  have db := dm hc hb.1
  have dr := dmr hc hb.1 hb.2
  have e1 : (b / N 4 + 1) * N 4 = b / N 4 * N 4 + N 4 := by rw [Int.add_mul, Int.one_mul]
  have e2 : (b / N 4 + (-1)) * N 4 = b / N 4 * N 4 - N 4 := by rw [Int.add_mul, Int.neg_mul, Int.one_mul, Int.sub_eq_add_neg]
  have e3 : (b / N 4 + 0) * N 4 = b / N 4 * N 4 := by rw [Int.add_zero]
  have e5 : N 4 * N 5 / N 4 = N 5 := Int.mul_ediv_cancel_left _ (by omega)
  have e4 := hI
  rcases d4 hd with rfl | rfl | rfl | rfl
  · -- side 0
    refine z_lsub ok (lv' := [(0, .ref (obX ad)), (1, .int (iI b)), (2, .int (iI 0))]) [0, 1, 2] rfl ?_
    refine z_eq (ws' := ([] : va_W) ++ (obW Z ad N h ++ ([] : va_W))) o_in ?_
    refine z_aload_n ok dL_beside_0 rfl ?_
    refine z_iconst ok dL_beside_1 ?_
    refine o_count (v := N 4) ok hI hw (by decide) (v_c2) qm_RL_8 dL_beside_2 (by decide) ⟨by decide, by decide⟩ (Nat.le_of_ble_eq_true rfl) (fun h1 h1I => ?_)
    refine z_istore_n (lv' := [(3, .int (iI (N 4))), (0, .ref (obX ad)), (1, .int (iI b)), (2, .int (iI 0))]) ok dL_beside_5 (by decide) rfl ?_
    refine z_iload_n ok dL_beside_6 rfl ?_
    refine z_iload_n ok dL_beside_7 rfl ?_
    refine z_irem ok dL_beside_8 (by omega) (by omega) ?_
    refine z_iload_n ok dL_beside_9 rfl ?_
    refine z_if_ne (tgt := 17) ok dL_beside_10 (by decide) (by decide) (fun c => absurd c (by decide)) (fun c10 => ?_)
    refine z_iconst ok dL_beside_13 ?_
    refine z_goto (tgt := 27) ok dL_beside_14 (by decide) ?_
    refine z_iadd ok dL_beside_27 ?_
    refine z_istore (lv' := [(4, .int (iI ((b % (N 4)) + 1))), (3, .int (iI (N 4))), (0, .ref (obX ad)), (1, .int (iI b)), (2, .int (iI 0))]) ok dL_beside_28 (by decide) rfl ?_
    refine z_iload_n ok dL_beside_30 rfl ?_
    refine z_iload_n ok dL_beside_31 rfl ?_
    refine z_idiv ok dL_beside_32 (by omega) (by omega) ?_
    refine z_iload_n ok dL_beside_33 rfl ?_
    refine z_iconst ok dL_beside_34 ?_
    refine z_icmp_ne (tgt := 42) ok dL_beside_35 (by decide) (by decide) (by decide) (fun c35 => ?_) (fun c => absurd c (by decide))
    refine z_iload_n ok dL_beside_42 rfl ?_
    refine z_iconst ok dL_beside_43 ?_
    refine z_icmp_ne (tgt := 51) ok dL_beside_44 (by decide) (by decide) (by decide) (fun c44 => ?_) (fun c => absurd c (by decide))
    refine z_iconst ok dL_beside_51 ?_
    refine z_iadd ok dL_beside_52 ?_
    refine z_istore (lv' := [(5, .int (iI ((b / (N 4)) + 0))), (4, .int (iI ((b % (N 4)) + 1))), (3, .int (iI (N 4))), (0, .ref (obX ad)), (1, .int (iI b)), (2, .int (iI 0))]) ok dL_beside_53 (by decide) rfl ?_
    refine z_iload ok dL_beside_55 rfl ?_
    refine z_if_lt (tgt := 87) ok dL_beside_57 (by decide) (by omega) (fun c57 => ?_) (fun c57 => ?_)
    · -- t
      refine z_iconst ok dL_beside_87 ?_
      refine z_istore (lv' := [(6, .int (iI 0)), (5, .int (iI ((b / (N 4)) + 0))), (4, .int (iI ((b % (N 4)) + 1))), (3, .int (iI (N 4))), (0, .ref (obX ad)), (1, .int (iI b)), (2, .int (iI 0))]) ok dL_beside_88 (by decide) rfl ?_
      refine z_iload ok dL_beside_90 rfl ?_
      refine z_if_eq (tgt := 105) ok dL_beside_92 (by decide) (by decide) (fun c92 => ?_) (fun c => absurd c (by decide))
      refine z_iconst ok dL_beside_105 ?_
      refine z_eq (ws' := obW Z ad N h1) (List.append_nil _) ?_
      exact fin (-1) h1 106 _ _ _ dL_beside_106 (trivial) (⟨by unfold nb; rw [if_pos rfl]; split <;> omega, h1I⟩) (by decide) (by decide)
    · -- f
      refine z_iload ok dL_beside_60 rfl ?_
      refine z_iload_n ok dL_beside_62 rfl ?_
      refine z_icmp_ge (tgt := 87) ok dL_beside_63 (by decide) (by omega) (by omega) (fun c63 => ?_) (fun c63 => ?_)
      · -- t
        refine z_iconst ok dL_beside_87 ?_
        refine z_istore (lv' := [(6, .int (iI 0)), (5, .int (iI ((b / (N 4)) + 0))), (4, .int (iI ((b % (N 4)) + 1))), (3, .int (iI (N 4))), (0, .ref (obX ad)), (1, .int (iI b)), (2, .int (iI 0))]) ok dL_beside_88 (by decide) rfl ?_
        refine z_iload ok dL_beside_90 rfl ?_
        refine z_if_eq (tgt := 105) ok dL_beside_92 (by decide) (by decide) (fun c92 => ?_) (fun c => absurd c (by decide))
        refine z_iconst ok dL_beside_105 ?_
        refine z_eq (ws' := obW Z ad N h1) (List.append_nil _) ?_
        exact fin (-1) h1 106 _ _ _ dL_beside_106 (trivial) (⟨by unfold nb; rw [if_pos rfl]; split <;> omega, h1I⟩) (by decide) (by decide)
      · -- f
        refine z_iload ok dL_beside_66 rfl ?_
        refine z_if_lt (tgt := 87) ok dL_beside_68 (by decide) (by omega) (fun c68 => ?_) (fun c68 => ?_)
        · -- t
          refine z_iconst ok dL_beside_87 ?_
          refine z_istore (lv' := [(6, .int (iI 0)), (5, .int (iI ((b / (N 4)) + 0))), (4, .int (iI ((b % (N 4)) + 1))), (3, .int (iI (N 4))), (0, .ref (obX ad)), (1, .int (iI b)), (2, .int (iI 0))]) ok dL_beside_88 (by decide) rfl ?_
          refine z_iload ok dL_beside_90 rfl ?_
          refine z_if_eq (tgt := 105) ok dL_beside_92 (by decide) (by decide) (fun c92 => ?_) (fun c => absurd c (by decide))
          refine z_iconst ok dL_beside_105 ?_
          refine z_eq (ws' := obW Z ad N h1) (List.append_nil _) ?_
          exact fin (-1) h1 106 _ _ _ dL_beside_106 (trivial) (⟨by unfold nb; rw [if_pos rfl]; split <;> omega, h1I⟩) (by decide) (by decide)
        · -- f
          refine z_iload ok dL_beside_71 rfl ?_
          refine z_aload_n ok dL_beside_73 rfl ?_
          refine z_iconst ok dL_beside_74 ?_
          refine o_count (v := N 4 * N 5) ok h1I hw (by decide) (v_c1) qm_RL_8 dL_beside_75 (by decide) ⟨by decide, by decide⟩ (Nat.le_of_ble_eq_true rfl) (fun h2 h2I => ?_)
          refine z_iload_n ok dL_beside_78 rfl ?_
          refine z_idiv ok dL_beside_79 (by omega) (by omega) ?_
          refine z_icmp_ge (tgt := 87) ok dL_beside_80 (by decide) (by omega) (by omega) (fun c80 => ?_) (fun c80 => ?_)
          · -- t
            refine z_iconst ok dL_beside_87 ?_
            refine z_istore (lv' := [(6, .int (iI 0)), (5, .int (iI ((b / (N 4)) + 0))), (4, .int (iI ((b % (N 4)) + 1))), (3, .int (iI (N 4))), (0, .ref (obX ad)), (1, .int (iI b)), (2, .int (iI 0))]) ok dL_beside_88 (by decide) rfl ?_
            refine z_iload ok dL_beside_90 rfl ?_
            refine z_if_eq (tgt := 105) ok dL_beside_92 (by decide) (by decide) (fun c92 => ?_) (fun c => absurd c (by decide))
            refine z_iconst ok dL_beside_105 ?_
            refine z_eq (ws' := obW Z ad N h2) (List.append_nil _) ?_
            exact fin (-1) h2 106 _ _ _ dL_beside_106 (trivial) (⟨by unfold nb; rw [if_pos rfl]; split <;> omega, h2I⟩) (by decide) (by decide)
          · -- f
            refine z_iconst ok dL_beside_83 ?_
            refine z_goto (tgt := 88) ok dL_beside_84 (by decide) ?_
            refine z_istore (lv' := [(6, .int (iI 1)), (5, .int (iI ((b / (N 4)) + 0))), (4, .int (iI ((b % (N 4)) + 1))), (3, .int (iI (N 4))), (0, .ref (obX ad)), (1, .int (iI b)), (2, .int (iI 0))]) ok dL_beside_88 (by decide) rfl ?_
            refine z_iload ok dL_beside_90 rfl ?_
            refine z_if_eq (tgt := 105) ok dL_beside_92 (by decide) (by decide) (fun c => absurd c (by decide)) (fun c92 => ?_)
            refine z_iload ok dL_beside_95 rfl ?_
            refine z_iload_n ok dL_beside_97 rfl ?_
            refine z_imul ok dL_beside_98 ?_
            refine z_iload ok dL_beside_99 rfl ?_
            refine z_iadd ok dL_beside_101 ?_
            refine z_goto (tgt := 106) ok dL_beside_102 (by decide) ?_
            refine z_eq (ws' := obW Z ad N h2) (List.append_nil _) ?_
            exact fin ((((b / (N 4)) + 0) * (N 4)) + ((b % (N 4)) + 1)) h2 106 _ _ _ dL_beside_106 (trivial) (⟨by unfold nb; rw [if_pos rfl]; split <;> omega, h2I⟩) (by decide) (by decide)
  · -- side 1
    refine z_lsub ok (lv' := [(0, .ref (obX ad)), (1, .int (iI b)), (2, .int (iI 1))]) [0, 1, 2] rfl ?_
    refine z_eq (ws' := ([] : va_W) ++ (obW Z ad N h ++ ([] : va_W))) o_in ?_
    refine z_aload_n ok dL_beside_0 rfl ?_
    refine z_iconst ok dL_beside_1 ?_
    refine o_count (v := N 4) ok hI hw (by decide) (v_c2) qm_RL_8 dL_beside_2 (by decide) ⟨by decide, by decide⟩ (Nat.le_of_ble_eq_true rfl) (fun h1 h1I => ?_)
    refine z_istore_n (lv' := [(3, .int (iI (N 4))), (0, .ref (obX ad)), (1, .int (iI b)), (2, .int (iI 1))]) ok dL_beside_5 (by decide) rfl ?_
    refine z_iload_n ok dL_beside_6 rfl ?_
    refine z_iload_n ok dL_beside_7 rfl ?_
    refine z_irem ok dL_beside_8 (by omega) (by omega) ?_
    refine z_iload_n ok dL_beside_9 rfl ?_
    refine z_if_ne (tgt := 17) ok dL_beside_10 (by decide) (by decide) (fun c10 => ?_) (fun c => absurd c (by decide))
    refine z_iload_n ok dL_beside_17 rfl ?_
    refine z_iconst ok dL_beside_18 ?_
    refine z_icmp_ne (tgt := 26) ok dL_beside_19 (by decide) (by decide) (by decide) (fun c => absurd c (by decide)) (fun c19 => ?_)
    refine z_iconst ok dL_beside_22 ?_
    refine z_goto (tgt := 27) ok dL_beside_23 (by decide) ?_
    refine z_iadd ok dL_beside_27 ?_
    refine z_istore (lv' := [(4, .int (iI ((b % (N 4)) + (-1)))), (3, .int (iI (N 4))), (0, .ref (obX ad)), (1, .int (iI b)), (2, .int (iI 1))]) ok dL_beside_28 (by decide) rfl ?_
    refine z_iload_n ok dL_beside_30 rfl ?_
    refine z_iload_n ok dL_beside_31 rfl ?_
    refine z_idiv ok dL_beside_32 (by omega) (by omega) ?_
    refine z_iload_n ok dL_beside_33 rfl ?_
    refine z_iconst ok dL_beside_34 ?_
    refine z_icmp_ne (tgt := 42) ok dL_beside_35 (by decide) (by decide) (by decide) (fun c35 => ?_) (fun c => absurd c (by decide))
    refine z_iload_n ok dL_beside_42 rfl ?_
    refine z_iconst ok dL_beside_43 ?_
    refine z_icmp_ne (tgt := 51) ok dL_beside_44 (by decide) (by decide) (by decide) (fun c44 => ?_) (fun c => absurd c (by decide))
    refine z_iconst ok dL_beside_51 ?_
    refine z_iadd ok dL_beside_52 ?_
    refine z_istore (lv' := [(5, .int (iI ((b / (N 4)) + 0))), (4, .int (iI ((b % (N 4)) + (-1)))), (3, .int (iI (N 4))), (0, .ref (obX ad)), (1, .int (iI b)), (2, .int (iI 1))]) ok dL_beside_53 (by decide) rfl ?_
    refine z_iload ok dL_beside_55 rfl ?_
    refine z_if_lt (tgt := 87) ok dL_beside_57 (by decide) (by omega) (fun c57 => ?_) (fun c57 => ?_)
    · -- t
      refine z_iconst ok dL_beside_87 ?_
      refine z_istore (lv' := [(6, .int (iI 0)), (5, .int (iI ((b / (N 4)) + 0))), (4, .int (iI ((b % (N 4)) + (-1)))), (3, .int (iI (N 4))), (0, .ref (obX ad)), (1, .int (iI b)), (2, .int (iI 1))]) ok dL_beside_88 (by decide) rfl ?_
      refine z_iload ok dL_beside_90 rfl ?_
      refine z_if_eq (tgt := 105) ok dL_beside_92 (by decide) (by decide) (fun c92 => ?_) (fun c => absurd c (by decide))
      refine z_iconst ok dL_beside_105 ?_
      refine z_eq (ws' := obW Z ad N h1) (List.append_nil _) ?_
      exact fin (-1) h1 106 _ _ _ dL_beside_106 (trivial) (⟨by unfold nb; rw [if_neg (by decide), if_pos rfl]; split <;> omega, h1I⟩) (by decide) (by decide)
    · -- f
      refine z_iload ok dL_beside_60 rfl ?_
      refine z_iload_n ok dL_beside_62 rfl ?_
      refine z_icmp_ge (tgt := 87) ok dL_beside_63 (by decide) (by omega) (by omega) (fun c63 => ?_) (fun c63 => ?_)
      · -- t
        refine z_iconst ok dL_beside_87 ?_
        refine z_istore (lv' := [(6, .int (iI 0)), (5, .int (iI ((b / (N 4)) + 0))), (4, .int (iI ((b % (N 4)) + (-1)))), (3, .int (iI (N 4))), (0, .ref (obX ad)), (1, .int (iI b)), (2, .int (iI 1))]) ok dL_beside_88 (by decide) rfl ?_
        refine z_iload ok dL_beside_90 rfl ?_
        refine z_if_eq (tgt := 105) ok dL_beside_92 (by decide) (by decide) (fun c92 => ?_) (fun c => absurd c (by decide))
        refine z_iconst ok dL_beside_105 ?_
        refine z_eq (ws' := obW Z ad N h1) (List.append_nil _) ?_
        exact fin (-1) h1 106 _ _ _ dL_beside_106 (trivial) (⟨by unfold nb; rw [if_neg (by decide), if_pos rfl]; split <;> omega, h1I⟩) (by decide) (by decide)
      · -- f
        refine z_iload ok dL_beside_66 rfl ?_
        refine z_if_lt (tgt := 87) ok dL_beside_68 (by decide) (by omega) (fun c68 => ?_) (fun c68 => ?_)
        · -- t
          refine z_iconst ok dL_beside_87 ?_
          refine z_istore (lv' := [(6, .int (iI 0)), (5, .int (iI ((b / (N 4)) + 0))), (4, .int (iI ((b % (N 4)) + (-1)))), (3, .int (iI (N 4))), (0, .ref (obX ad)), (1, .int (iI b)), (2, .int (iI 1))]) ok dL_beside_88 (by decide) rfl ?_
          refine z_iload ok dL_beside_90 rfl ?_
          refine z_if_eq (tgt := 105) ok dL_beside_92 (by decide) (by decide) (fun c92 => ?_) (fun c => absurd c (by decide))
          refine z_iconst ok dL_beside_105 ?_
          refine z_eq (ws' := obW Z ad N h1) (List.append_nil _) ?_
          exact fin (-1) h1 106 _ _ _ dL_beside_106 (trivial) (⟨by unfold nb; rw [if_neg (by decide), if_pos rfl]; split <;> omega, h1I⟩) (by decide) (by decide)
        · -- f
          refine z_iload ok dL_beside_71 rfl ?_
          refine z_aload_n ok dL_beside_73 rfl ?_
          refine z_iconst ok dL_beside_74 ?_
          refine o_count (v := N 4 * N 5) ok h1I hw (by decide) (v_c1) qm_RL_8 dL_beside_75 (by decide) ⟨by decide, by decide⟩ (Nat.le_of_ble_eq_true rfl) (fun h2 h2I => ?_)
          refine z_iload_n ok dL_beside_78 rfl ?_
          refine z_idiv ok dL_beside_79 (by omega) (by omega) ?_
          refine z_icmp_ge (tgt := 87) ok dL_beside_80 (by decide) (by omega) (by omega) (fun c80 => ?_) (fun c80 => ?_)
          · -- t
            refine z_iconst ok dL_beside_87 ?_
            refine z_istore (lv' := [(6, .int (iI 0)), (5, .int (iI ((b / (N 4)) + 0))), (4, .int (iI ((b % (N 4)) + (-1)))), (3, .int (iI (N 4))), (0, .ref (obX ad)), (1, .int (iI b)), (2, .int (iI 1))]) ok dL_beside_88 (by decide) rfl ?_
            refine z_iload ok dL_beside_90 rfl ?_
            refine z_if_eq (tgt := 105) ok dL_beside_92 (by decide) (by decide) (fun c92 => ?_) (fun c => absurd c (by decide))
            refine z_iconst ok dL_beside_105 ?_
            refine z_eq (ws' := obW Z ad N h2) (List.append_nil _) ?_
            exact fin (-1) h2 106 _ _ _ dL_beside_106 (trivial) (⟨by unfold nb; rw [if_neg (by decide), if_pos rfl]; split <;> omega, h2I⟩) (by decide) (by decide)
          · -- f
            refine z_iconst ok dL_beside_83 ?_
            refine z_goto (tgt := 88) ok dL_beside_84 (by decide) ?_
            refine z_istore (lv' := [(6, .int (iI 1)), (5, .int (iI ((b / (N 4)) + 0))), (4, .int (iI ((b % (N 4)) + (-1)))), (3, .int (iI (N 4))), (0, .ref (obX ad)), (1, .int (iI b)), (2, .int (iI 1))]) ok dL_beside_88 (by decide) rfl ?_
            refine z_iload ok dL_beside_90 rfl ?_
            refine z_if_eq (tgt := 105) ok dL_beside_92 (by decide) (by decide) (fun c => absurd c (by decide)) (fun c92 => ?_)
            refine z_iload ok dL_beside_95 rfl ?_
            refine z_iload_n ok dL_beside_97 rfl ?_
            refine z_imul ok dL_beside_98 ?_
            refine z_iload ok dL_beside_99 rfl ?_
            refine z_iadd ok dL_beside_101 ?_
            refine z_goto (tgt := 106) ok dL_beside_102 (by decide) ?_
            refine z_eq (ws' := obW Z ad N h2) (List.append_nil _) ?_
            exact fin ((((b / (N 4)) + 0) * (N 4)) + ((b % (N 4)) + (-1))) h2 106 _ _ _ dL_beside_106 (trivial) (⟨by unfold nb; rw [if_neg (by decide), if_pos rfl]; split <;> omega, h2I⟩) (by decide) (by decide)
  · -- side 2
    refine z_lsub ok (lv' := [(0, .ref (obX ad)), (1, .int (iI b)), (2, .int (iI 2))]) [0, 1, 2] rfl ?_
    refine z_eq (ws' := ([] : va_W) ++ (obW Z ad N h ++ ([] : va_W))) o_in ?_
    refine z_aload_n ok dL_beside_0 rfl ?_
    refine z_iconst ok dL_beside_1 ?_
    refine o_count (v := N 4) ok hI hw (by decide) (v_c2) qm_RL_8 dL_beside_2 (by decide) ⟨by decide, by decide⟩ (Nat.le_of_ble_eq_true rfl) (fun h1 h1I => ?_)
    refine z_istore_n (lv' := [(3, .int (iI (N 4))), (0, .ref (obX ad)), (1, .int (iI b)), (2, .int (iI 2))]) ok dL_beside_5 (by decide) rfl ?_
    refine z_iload_n ok dL_beside_6 rfl ?_
    refine z_iload_n ok dL_beside_7 rfl ?_
    refine z_irem ok dL_beside_8 (by omega) (by omega) ?_
    refine z_iload_n ok dL_beside_9 rfl ?_
    refine z_if_ne (tgt := 17) ok dL_beside_10 (by decide) (by decide) (fun c10 => ?_) (fun c => absurd c (by decide))
    refine z_iload_n ok dL_beside_17 rfl ?_
    refine z_iconst ok dL_beside_18 ?_
    refine z_icmp_ne (tgt := 26) ok dL_beside_19 (by decide) (by decide) (by decide) (fun c19 => ?_) (fun c => absurd c (by decide))
    refine z_iconst ok dL_beside_26 ?_
    refine z_iadd ok dL_beside_27 ?_
    refine z_istore (lv' := [(4, .int (iI ((b % (N 4)) + 0))), (3, .int (iI (N 4))), (0, .ref (obX ad)), (1, .int (iI b)), (2, .int (iI 2))]) ok dL_beside_28 (by decide) rfl ?_
    refine z_iload_n ok dL_beside_30 rfl ?_
    refine z_iload_n ok dL_beside_31 rfl ?_
    refine z_idiv ok dL_beside_32 (by omega) (by omega) ?_
    refine z_iload_n ok dL_beside_33 rfl ?_
    refine z_iconst ok dL_beside_34 ?_
    refine z_icmp_ne (tgt := 42) ok dL_beside_35 (by decide) (by decide) (by decide) (fun c => absurd c (by decide)) (fun c35 => ?_)
    refine z_iconst ok dL_beside_38 ?_
    refine z_goto (tgt := 52) ok dL_beside_39 (by decide) ?_
    refine z_iadd ok dL_beside_52 ?_
    refine z_istore (lv' := [(5, .int (iI ((b / (N 4)) + 1))), (4, .int (iI ((b % (N 4)) + 0))), (3, .int (iI (N 4))), (0, .ref (obX ad)), (1, .int (iI b)), (2, .int (iI 2))]) ok dL_beside_53 (by decide) rfl ?_
    refine z_iload ok dL_beside_55 rfl ?_
    refine z_if_lt (tgt := 87) ok dL_beside_57 (by decide) (by omega) (fun c57 => ?_) (fun c57 => ?_)
    · -- t
      refine z_iconst ok dL_beside_87 ?_
      refine z_istore (lv' := [(6, .int (iI 0)), (5, .int (iI ((b / (N 4)) + 1))), (4, .int (iI ((b % (N 4)) + 0))), (3, .int (iI (N 4))), (0, .ref (obX ad)), (1, .int (iI b)), (2, .int (iI 2))]) ok dL_beside_88 (by decide) rfl ?_
      refine z_iload ok dL_beside_90 rfl ?_
      refine z_if_eq (tgt := 105) ok dL_beside_92 (by decide) (by decide) (fun c92 => ?_) (fun c => absurd c (by decide))
      refine z_iconst ok dL_beside_105 ?_
      refine z_eq (ws' := obW Z ad N h1) (List.append_nil _) ?_
      exact fin (-1) h1 106 _ _ _ dL_beside_106 (trivial) (⟨by unfold nb; rw [if_neg (by decide), if_neg (by decide), if_pos rfl]; split <;> omega, h1I⟩) (by decide) (by decide)
    · -- f
      refine z_iload ok dL_beside_60 rfl ?_
      refine z_iload_n ok dL_beside_62 rfl ?_
      refine z_icmp_ge (tgt := 87) ok dL_beside_63 (by decide) (by omega) (by omega) (fun c63 => ?_) (fun c63 => ?_)
      · -- t
        refine z_iconst ok dL_beside_87 ?_
        refine z_istore (lv' := [(6, .int (iI 0)), (5, .int (iI ((b / (N 4)) + 1))), (4, .int (iI ((b % (N 4)) + 0))), (3, .int (iI (N 4))), (0, .ref (obX ad)), (1, .int (iI b)), (2, .int (iI 2))]) ok dL_beside_88 (by decide) rfl ?_
        refine z_iload ok dL_beside_90 rfl ?_
        refine z_if_eq (tgt := 105) ok dL_beside_92 (by decide) (by decide) (fun c92 => ?_) (fun c => absurd c (by decide))
        refine z_iconst ok dL_beside_105 ?_
        refine z_eq (ws' := obW Z ad N h1) (List.append_nil _) ?_
        exact fin (-1) h1 106 _ _ _ dL_beside_106 (trivial) (⟨by unfold nb; rw [if_neg (by decide), if_neg (by decide), if_pos rfl]; split <;> omega, h1I⟩) (by decide) (by decide)
      · -- f
        refine z_iload ok dL_beside_66 rfl ?_
        refine z_if_lt (tgt := 87) ok dL_beside_68 (by decide) (by omega) (fun c68 => ?_) (fun c68 => ?_)
        · -- t
          refine z_iconst ok dL_beside_87 ?_
          refine z_istore (lv' := [(6, .int (iI 0)), (5, .int (iI ((b / (N 4)) + 1))), (4, .int (iI ((b % (N 4)) + 0))), (3, .int (iI (N 4))), (0, .ref (obX ad)), (1, .int (iI b)), (2, .int (iI 2))]) ok dL_beside_88 (by decide) rfl ?_
          refine z_iload ok dL_beside_90 rfl ?_
          refine z_if_eq (tgt := 105) ok dL_beside_92 (by decide) (by decide) (fun c92 => ?_) (fun c => absurd c (by decide))
          refine z_iconst ok dL_beside_105 ?_
          refine z_eq (ws' := obW Z ad N h1) (List.append_nil _) ?_
          exact fin (-1) h1 106 _ _ _ dL_beside_106 (trivial) (⟨by unfold nb; rw [if_neg (by decide), if_neg (by decide), if_pos rfl]; split <;> omega, h1I⟩) (by decide) (by decide)
        · -- f
          refine z_iload ok dL_beside_71 rfl ?_
          refine z_aload_n ok dL_beside_73 rfl ?_
          refine z_iconst ok dL_beside_74 ?_
          refine o_count (v := N 4 * N 5) ok h1I hw (by decide) (v_c1) qm_RL_8 dL_beside_75 (by decide) ⟨by decide, by decide⟩ (Nat.le_of_ble_eq_true rfl) (fun h2 h2I => ?_)
          refine z_iload_n ok dL_beside_78 rfl ?_
          refine z_idiv ok dL_beside_79 (by omega) (by omega) ?_
          refine z_icmp_ge (tgt := 87) ok dL_beside_80 (by decide) (by omega) (by omega) (fun c80 => ?_) (fun c80 => ?_)
          · -- t
            refine z_iconst ok dL_beside_87 ?_
            refine z_istore (lv' := [(6, .int (iI 0)), (5, .int (iI ((b / (N 4)) + 1))), (4, .int (iI ((b % (N 4)) + 0))), (3, .int (iI (N 4))), (0, .ref (obX ad)), (1, .int (iI b)), (2, .int (iI 2))]) ok dL_beside_88 (by decide) rfl ?_
            refine z_iload ok dL_beside_90 rfl ?_
            refine z_if_eq (tgt := 105) ok dL_beside_92 (by decide) (by decide) (fun c92 => ?_) (fun c => absurd c (by decide))
            refine z_iconst ok dL_beside_105 ?_
            refine z_eq (ws' := obW Z ad N h2) (List.append_nil _) ?_
            exact fin (-1) h2 106 _ _ _ dL_beside_106 (trivial) (⟨by unfold nb; rw [if_neg (by decide), if_neg (by decide), if_pos rfl]; split <;> omega, h2I⟩) (by decide) (by decide)
          · -- f
            refine z_iconst ok dL_beside_83 ?_
            refine z_goto (tgt := 88) ok dL_beside_84 (by decide) ?_
            refine z_istore (lv' := [(6, .int (iI 1)), (5, .int (iI ((b / (N 4)) + 1))), (4, .int (iI ((b % (N 4)) + 0))), (3, .int (iI (N 4))), (0, .ref (obX ad)), (1, .int (iI b)), (2, .int (iI 2))]) ok dL_beside_88 (by decide) rfl ?_
            refine z_iload ok dL_beside_90 rfl ?_
            refine z_if_eq (tgt := 105) ok dL_beside_92 (by decide) (by decide) (fun c => absurd c (by decide)) (fun c92 => ?_)
            refine z_iload ok dL_beside_95 rfl ?_
            refine z_iload_n ok dL_beside_97 rfl ?_
            refine z_imul ok dL_beside_98 ?_
            refine z_iload ok dL_beside_99 rfl ?_
            refine z_iadd ok dL_beside_101 ?_
            refine z_goto (tgt := 106) ok dL_beside_102 (by decide) ?_
            refine z_eq (ws' := obW Z ad N h2) (List.append_nil _) ?_
            exact fin ((((b / (N 4)) + 1) * (N 4)) + ((b % (N 4)) + 0)) h2 106 _ _ _ dL_beside_106 (trivial) (⟨by unfold nb; rw [if_neg (by decide), if_neg (by decide), if_pos rfl]; split <;> omega, h2I⟩) (by decide) (by decide)
  · -- side 3
    refine z_lsub ok (lv' := [(0, .ref (obX ad)), (1, .int (iI b)), (2, .int (iI 3))]) [0, 1, 2] rfl ?_
    refine z_eq (ws' := ([] : va_W) ++ (obW Z ad N h ++ ([] : va_W))) o_in ?_
    refine z_aload_n ok dL_beside_0 rfl ?_
    refine z_iconst ok dL_beside_1 ?_
    refine o_count (v := N 4) ok hI hw (by decide) (v_c2) qm_RL_8 dL_beside_2 (by decide) ⟨by decide, by decide⟩ (Nat.le_of_ble_eq_true rfl) (fun h1 h1I => ?_)
    refine z_istore_n (lv' := [(3, .int (iI (N 4))), (0, .ref (obX ad)), (1, .int (iI b)), (2, .int (iI 3))]) ok dL_beside_5 (by decide) rfl ?_
    refine z_iload_n ok dL_beside_6 rfl ?_
    refine z_iload_n ok dL_beside_7 rfl ?_
    refine z_irem ok dL_beside_8 (by omega) (by omega) ?_
    refine z_iload_n ok dL_beside_9 rfl ?_
    refine z_if_ne (tgt := 17) ok dL_beside_10 (by decide) (by decide) (fun c10 => ?_) (fun c => absurd c (by decide))
    refine z_iload_n ok dL_beside_17 rfl ?_
    refine z_iconst ok dL_beside_18 ?_
    refine z_icmp_ne (tgt := 26) ok dL_beside_19 (by decide) (by decide) (by decide) (fun c19 => ?_) (fun c => absurd c (by decide))
    refine z_iconst ok dL_beside_26 ?_
    refine z_iadd ok dL_beside_27 ?_
    refine z_istore (lv' := [(4, .int (iI ((b % (N 4)) + 0))), (3, .int (iI (N 4))), (0, .ref (obX ad)), (1, .int (iI b)), (2, .int (iI 3))]) ok dL_beside_28 (by decide) rfl ?_
    refine z_iload_n ok dL_beside_30 rfl ?_
    refine z_iload_n ok dL_beside_31 rfl ?_
    refine z_idiv ok dL_beside_32 (by omega) (by omega) ?_
    refine z_iload_n ok dL_beside_33 rfl ?_
    refine z_iconst ok dL_beside_34 ?_
    refine z_icmp_ne (tgt := 42) ok dL_beside_35 (by decide) (by decide) (by decide) (fun c35 => ?_) (fun c => absurd c (by decide))
    refine z_iload_n ok dL_beside_42 rfl ?_
    refine z_iconst ok dL_beside_43 ?_
    refine z_icmp_ne (tgt := 51) ok dL_beside_44 (by decide) (by decide) (by decide) (fun c => absurd c (by decide)) (fun c44 => ?_)
    refine z_iconst ok dL_beside_47 ?_
    refine z_goto (tgt := 52) ok dL_beside_48 (by decide) ?_
    refine z_iadd ok dL_beside_52 ?_
    refine z_istore (lv' := [(5, .int (iI ((b / (N 4)) + (-1)))), (4, .int (iI ((b % (N 4)) + 0))), (3, .int (iI (N 4))), (0, .ref (obX ad)), (1, .int (iI b)), (2, .int (iI 3))]) ok dL_beside_53 (by decide) rfl ?_
    refine z_iload ok dL_beside_55 rfl ?_
    refine z_if_lt (tgt := 87) ok dL_beside_57 (by decide) (by omega) (fun c57 => ?_) (fun c57 => ?_)
    · -- t
      refine z_iconst ok dL_beside_87 ?_
      refine z_istore (lv' := [(6, .int (iI 0)), (5, .int (iI ((b / (N 4)) + (-1)))), (4, .int (iI ((b % (N 4)) + 0))), (3, .int (iI (N 4))), (0, .ref (obX ad)), (1, .int (iI b)), (2, .int (iI 3))]) ok dL_beside_88 (by decide) rfl ?_
      refine z_iload ok dL_beside_90 rfl ?_
      refine z_if_eq (tgt := 105) ok dL_beside_92 (by decide) (by decide) (fun c92 => ?_) (fun c => absurd c (by decide))
      refine z_iconst ok dL_beside_105 ?_
      refine z_eq (ws' := obW Z ad N h1) (List.append_nil _) ?_
      exact fin (-1) h1 106 _ _ _ dL_beside_106 (trivial) (⟨by unfold nb; rw [if_neg (by decide), if_neg (by decide), if_neg (by decide)]; split <;> omega, h1I⟩) (by decide) (by decide)
    · -- f
      refine z_iload ok dL_beside_60 rfl ?_
      refine z_iload_n ok dL_beside_62 rfl ?_
      refine z_icmp_ge (tgt := 87) ok dL_beside_63 (by decide) (by omega) (by omega) (fun c63 => ?_) (fun c63 => ?_)
      · -- t
        refine z_iconst ok dL_beside_87 ?_
        refine z_istore (lv' := [(6, .int (iI 0)), (5, .int (iI ((b / (N 4)) + (-1)))), (4, .int (iI ((b % (N 4)) + 0))), (3, .int (iI (N 4))), (0, .ref (obX ad)), (1, .int (iI b)), (2, .int (iI 3))]) ok dL_beside_88 (by decide) rfl ?_
        refine z_iload ok dL_beside_90 rfl ?_
        refine z_if_eq (tgt := 105) ok dL_beside_92 (by decide) (by decide) (fun c92 => ?_) (fun c => absurd c (by decide))
        refine z_iconst ok dL_beside_105 ?_
        refine z_eq (ws' := obW Z ad N h1) (List.append_nil _) ?_
        exact fin (-1) h1 106 _ _ _ dL_beside_106 (trivial) (⟨by unfold nb; rw [if_neg (by decide), if_neg (by decide), if_neg (by decide)]; split <;> omega, h1I⟩) (by decide) (by decide)
      · -- f
        refine z_iload ok dL_beside_66 rfl ?_
        refine z_if_lt (tgt := 87) ok dL_beside_68 (by decide) (by omega) (fun c68 => ?_) (fun c68 => ?_)
        · -- t
          refine z_iconst ok dL_beside_87 ?_
          refine z_istore (lv' := [(6, .int (iI 0)), (5, .int (iI ((b / (N 4)) + (-1)))), (4, .int (iI ((b % (N 4)) + 0))), (3, .int (iI (N 4))), (0, .ref (obX ad)), (1, .int (iI b)), (2, .int (iI 3))]) ok dL_beside_88 (by decide) rfl ?_
          refine z_iload ok dL_beside_90 rfl ?_
          refine z_if_eq (tgt := 105) ok dL_beside_92 (by decide) (by decide) (fun c92 => ?_) (fun c => absurd c (by decide))
          refine z_iconst ok dL_beside_105 ?_
          refine z_eq (ws' := obW Z ad N h1) (List.append_nil _) ?_
          exact fin (-1) h1 106 _ _ _ dL_beside_106 (trivial) (⟨by unfold nb; rw [if_neg (by decide), if_neg (by decide), if_neg (by decide)]; split <;> omega, h1I⟩) (by decide) (by decide)
        · -- f
          refine z_iload ok dL_beside_71 rfl ?_
          refine z_aload_n ok dL_beside_73 rfl ?_
          refine z_iconst ok dL_beside_74 ?_
          refine o_count (v := N 4 * N 5) ok h1I hw (by decide) (v_c1) qm_RL_8 dL_beside_75 (by decide) ⟨by decide, by decide⟩ (Nat.le_of_ble_eq_true rfl) (fun h2 h2I => ?_)
          refine z_iload_n ok dL_beside_78 rfl ?_
          refine z_idiv ok dL_beside_79 (by omega) (by omega) ?_
          refine z_icmp_ge (tgt := 87) ok dL_beside_80 (by decide) (by omega) (by omega) (fun c80 => ?_) (fun c80 => ?_)
          · -- t
            refine z_iconst ok dL_beside_87 ?_
            refine z_istore (lv' := [(6, .int (iI 0)), (5, .int (iI ((b / (N 4)) + (-1)))), (4, .int (iI ((b % (N 4)) + 0))), (3, .int (iI (N 4))), (0, .ref (obX ad)), (1, .int (iI b)), (2, .int (iI 3))]) ok dL_beside_88 (by decide) rfl ?_
            refine z_iload ok dL_beside_90 rfl ?_
            refine z_if_eq (tgt := 105) ok dL_beside_92 (by decide) (by decide) (fun c92 => ?_) (fun c => absurd c (by decide))
            refine z_iconst ok dL_beside_105 ?_
            refine z_eq (ws' := obW Z ad N h2) (List.append_nil _) ?_
            exact fin (-1) h2 106 _ _ _ dL_beside_106 (trivial) (⟨by unfold nb; rw [if_neg (by decide), if_neg (by decide), if_neg (by decide)]; split <;> omega, h2I⟩) (by decide) (by decide)
          · -- f
            refine z_iconst ok dL_beside_83 ?_
            refine z_goto (tgt := 88) ok dL_beside_84 (by decide) ?_
            refine z_istore (lv' := [(6, .int (iI 1)), (5, .int (iI ((b / (N 4)) + (-1)))), (4, .int (iI ((b % (N 4)) + 0))), (3, .int (iI (N 4))), (0, .ref (obX ad)), (1, .int (iI b)), (2, .int (iI 3))]) ok dL_beside_88 (by decide) rfl ?_
            refine z_iload ok dL_beside_90 rfl ?_
            refine z_if_eq (tgt := 105) ok dL_beside_92 (by decide) (by decide) (fun c => absurd c (by decide)) (fun c92 => ?_)
            refine z_iload ok dL_beside_95 rfl ?_
            refine z_iload_n ok dL_beside_97 rfl ?_
            refine z_imul ok dL_beside_98 ?_
            refine z_iload ok dL_beside_99 rfl ?_
            refine z_iadd ok dL_beside_101 ?_
            refine z_goto (tgt := 106) ok dL_beside_102 (by decide) ?_
            refine z_eq (ws' := obW Z ad N h2) (List.append_nil _) ?_
            exact fin ((((b / (N 4)) + (-1)) * (N 4)) + ((b % (N 4)) + 0)) h2 106 _ _ _ dL_beside_106 (trivial) (⟨by unfold nb; rw [if_neg (by decide), if_neg (by decide), if_neg (by decide)]; split <;> omega, h2I⟩) (by decide) (by decide)
set_option maxRecDepth 20000 in
theorem c_L_cell {l : Launch} {Z : zZ} {bs L : Nat} {xs : Nat → Int32} {k n : Int} (hk : 0 ≤ k ∧ k ≤ 100000) (hn : 0 < n ∧ n ≤ 1000000) : zJ (T := Unit) l yL_cell (Cond.code yL_cell cL_cell 3 (some .int) :: wsL_law) ({ frames := 0, cells := 0, slots := 0, locals := 0 } : Room) Z bs L xs [.ref bs, .int (iI k), .int (iI n)] [] (fun _ => []) (fun ρ _ => 0 ≤ ρ ∧ ρ < n) := by
  refine zJ_of (C := RL) (by decide +kernel) rfl (Nat.le_of_ble_eq_true rfl) (fun _ => True) znI (fun X ok hnx hsc fin => ?_)
  have hLL : L ≤ 2048 := by
    obtain ⟨p, l, e', R, s, m, args, below, meth, c, Q, Z, A, H0⟩ := X
    exact hsc.2.2.2
  refine z_lsub ok (lv' := [(0, .ref bs), (1, .int (iI k)), (2, .int (iI n))]) [0, 1, 2] rfl ?_
  have fend : ∀ (v : Int), 0 ≤ v → v < 4194304 → zV X 0 0 [] 28 [(0, .ref bs), (1, .int (iI k)), (2, .int (iI n))] [.int (iI v)] := by
    intro v v0 v1
    refine z_iload_n ok dL_cell_28 rfl ?_
    refine z_irem ok dL_cell_29 (by omega) (by omega) ?_
    exact fin (v % n) () 30 _ _ _ dL_cell_30 trivial ⟨Int.emod_nonneg v (by omega), Int.emod_lt_of_pos v (by omega)⟩ (by decide) (by decide)
  refine z_aload_n ok dL_cell_0 rfl ?_
  refine z_slen ok hsc dL_cell_1 ?_
  refine z_if_ne (tgt := 14) ok dL_cell_2 (by decide) (by omega) (fun c2 => ?_) (fun c2 => ?_)
  · -- a script
    refine z_aload_n ok dL_cell_14 rfl ?_
    refine z_iload_n ok dL_cell_15 rfl ?_
    refine z_aload_n ok dL_cell_16 rfl ?_
    refine z_slen ok hsc dL_cell_17 ?_
    refine z_irem ok dL_cell_18 (by omega) (by omega) ?_
    refine z_sld ok hsc dL_cell_19 ⟨Int.emod_nonneg k (by omega), Int.emod_lt_of_pos k (by omega)⟩ ?_
    refine z_iload_n ok dL_cell_20 rfl ?_
    refine z_bipush ok dL_cell_21 (by decide) ?_
    refine z_irem ok dL_cell_23 (by omega) (by decide) ?_
    refine z_ishr ok dL_cell_24 ?_
    generalize (iI (xI xs (k % (L : Int))) >>> (iI (k % 7) &&& 31)).toInt = v
    refine z_ldc (z := 4194303) ok qo_RL_7 (by decide) dL_cell_25 ?_
    refine z_iand (v := iI (v % 4194304)) ok dL_cell_27 (iand_iI (w := 22) (by decide)) ?_
    exact fend _ (by omega) (by omega)
  · -- none
    refine z_iload_n ok dL_cell_5 rfl ?_
    refine z_bipush ok dL_cell_6 (by decide) ?_
    refine z_imul ok dL_cell_8 ?_
    refine z_iconst ok dL_cell_9 ?_
    refine z_iadd ok dL_cell_10 ?_
    refine z_goto (tgt := 28) ok dL_cell_11 (by decide) ?_
    exact fend _ (by omega) (by omega)
