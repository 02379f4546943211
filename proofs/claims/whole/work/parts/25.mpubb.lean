set_option maxRecDepth 20000 in
theorem c_X7_ofPacket {l : Launch} {Z : zZ} {q : Nat → Nat} {now kept hist : Int → Int} {und : Int} {sav isv pad : Int → Int} {sg it : Int} {far many laid sides stuck ord : Int → Int} {rd pl wr : Int} {p w : Int} (hw : wf now) (hp : -2147483648 ≤ p ∧ p < 2147483648) (hww : -2147483648 ≤ w ∧ w < 2147483648) (hca : cacheOK now laid far many) : zI (T := (Int → Int) × (Int → Int) × (Int → Int) × (Int → Int) × (Int → Int)) l yX7_ofPacket (Cond.code yX7_ofPacket cX7_ofPacket 3 (some .int) :: wsL_law) ({ frames := 10, cells := 0, slots := 0, locals := 247 } : Room) Z [.ref (q 0), .int (iI p), .int (iI w)] (mW Z q now kept hist und sav isv pad sg it far many laid sides stuck ord rd pl wr) (fun u => mW Z q now kept hist und sav isv pad sg it u.2.2.1 u.2.2.2.1 u.2.2.2.2 u.2.1 u.1 ord rd pl wr) (fun ρ u => ρ = opR now p w ∧ cacheOK now u.2.2.2.2 u.2.2.1 u.2.2.2.1) := by
  refine zI_of (C := RX7) (by decide +kernel) rfl (Nat.le_of_ble_eq_true rfl) (fun _ => True) znI (fun X ok fin => ?_)
  obtain ⟨w0, w1, w2, hc, hr, w6, wl, wp⟩ := id hw
  have hcr := cr_rng hc hr
  refine z_lsub ok (lv' := [(0, .ref (q 0)), (1, .int (iI p)), (2, .int (iI w))]) [0, 1, 2] rfl ?_
  refine z_aload_n ok dX7_ofPacket_0 rfl ?_
  refine z_iload_n ok dX7_ofPacket_1 rfl ?_
  refine z_callVi0 ok (fun l => c_X7_isPacket  (by omega) (by omega)) zm_X7_isPacket zv_X7_isPacket qm_RX7_134 dX7_ofPacket_2 (by decide) (by decide) rfl rfl (Nat.le_of_ble_eq_true rfl) (q0 := 0) rfl rfl rfl (fun ρ _ hρ => ?_)
  subst hρ
  refine z_eq (ws' := mW Z q now kept hist und sav isv pad sg it far many laid sides stuck ord rd pl wr) rfl ?_
  refine z_ifb_ne (tgt := 10) ok dX7_ofPacket_5 (by decide) (fun c5 => ?_) (fun c5 => ?_)
  · -- t
    have wpp := wp p (by omega) (by omega)
    refine z_iload_n ok dX7_ofPacket_10 rfl ?_
    rcases (show w < 10 ∨ 12 < w ∨ w = 10 ∨ w = 11 ∨ w = 12 by omega) with c11 | c11 | c11 | c11 | c11
    · -- switch
      refine z_tableOut (tgt := 92) ok dX7_ofPacket_11 (by omega) (by omega) (by decide) ?_
      refine z_iload_n ok dX7_ofPacket_92 rfl ?_
      refine z_iconst ok dX7_ofPacket_93 ?_
      refine z_bipush ok dX7_ofPacket_94 (by decide) ?_
      refine z_callSie ok (fun l => c_X7_in  (by omega) (by omega) (by omega)) zm_X7_in qt_X7_in qm_RX7_59 dX7_ofPacket_96 (by decide) (by decide) rfl rfl (Nat.le_of_ble_eq_true rfl) (fun ρ _ hρ => ?_)
      subst hρ
      refine z_ifb_eq (tgt := 111) ok dX7_ofPacket_99 (by decide) (fun c99 => ?_) (fun c99 => ?_)
      · -- t
        refine z_bipush ok dX7_ofPacket_111 (by decide) ?_
        exact fin (-2) (stuck, sides, far, many, laid) 113 _ _ _ dX7_ofPacket_113 (trivial) (⟨by unfold opR; rw [zif_t c5, if_neg (by omega), if_neg (by omega), if_neg (by omega)]; first | rw [if_pos c99] | rw [if_neg c99], hca⟩) (by decide) (by decide)
      · -- f
        refine z_aload_n ok dX7_ofPacket_102 rfl ?_
        refine z_iload_n ok dX7_ofPacket_103 rfl ?_
        refine z_iload_n ok dX7_ofPacket_104 rfl ?_
        refine z_callVi0 ok (fun l => c_X7_of  (by omega) (by omega)) zm_X7_of zv_X7_of qm_RX7_98 dX7_ofPacket_105 (by decide) (by decide) rfl rfl (Nat.le_of_ble_eq_true rfl) (q0 := 0) rfl rfl rfl (fun ρ _ hρ => ?_)
        subst hρ
        refine z_eq (ws' := mW Z q now kept hist und sav isv pad sg it far many laid sides stuck ord rd pl wr) rfl ?_
        refine z_goto (tgt := 113) ok dX7_ofPacket_108 (by decide) ?_
        exact fin (pk now p w) (stuck, sides, far, many, laid) 113 _ _ _ dX7_ofPacket_113 (trivial) (⟨by unfold opR; rw [zif_t c5, if_neg (by omega), if_neg (by omega), if_neg (by omega)]; first | rw [if_pos c99] | rw [if_neg c99], hca⟩) (by decide) (by decide)
    · -- switch
      refine z_tableOut (tgt := 92) ok dX7_ofPacket_11 (by omega) (by omega) (by decide) ?_
      refine z_iload_n ok dX7_ofPacket_92 rfl ?_
      refine z_iconst ok dX7_ofPacket_93 ?_
      refine z_bipush ok dX7_ofPacket_94 (by decide) ?_
      refine z_callSie ok (fun l => c_X7_in  (by omega) (by omega) (by omega)) zm_X7_in qt_X7_in qm_RX7_59 dX7_ofPacket_96 (by decide) (by decide) rfl rfl (Nat.le_of_ble_eq_true rfl) (fun ρ _ hρ => ?_)
      subst hρ
      refine z_ifb_eq (tgt := 111) ok dX7_ofPacket_99 (by decide) (fun c99 => ?_) (fun c99 => ?_)
      · -- t
        refine z_bipush ok dX7_ofPacket_111 (by decide) ?_
        exact fin (-2) (stuck, sides, far, many, laid) 113 _ _ _ dX7_ofPacket_113 (trivial) (⟨by unfold opR; rw [zif_t c5, if_neg (by omega), if_neg (by omega), if_neg (by omega)]; first | rw [if_pos c99] | rw [if_neg c99], hca⟩) (by decide) (by decide)
      · -- f
        refine z_aload_n ok dX7_ofPacket_102 rfl ?_
        refine z_iload_n ok dX7_ofPacket_103 rfl ?_
        refine z_iload_n ok dX7_ofPacket_104 rfl ?_
        refine z_callVi0 ok (fun l => c_X7_of  (by omega) (by omega)) zm_X7_of zv_X7_of qm_RX7_98 dX7_ofPacket_105 (by decide) (by decide) rfl rfl (Nat.le_of_ble_eq_true rfl) (q0 := 0) rfl rfl rfl (fun ρ _ hρ => ?_)
        subst hρ
        refine z_eq (ws' := mW Z q now kept hist und sav isv pad sg it far many laid sides stuck ord rd pl wr) rfl ?_
        refine z_goto (tgt := 113) ok dX7_ofPacket_108 (by decide) ?_
        exact fin (pk now p w) (stuck, sides, far, many, laid) 113 _ _ _ dX7_ofPacket_113 (trivial) (⟨by unfold opR; rw [zif_t c5, if_neg (by omega), if_neg (by omega), if_neg (by omega)]; first | rw [if_pos c99] | rw [if_neg c99], hca⟩) (by decide) (by decide)
    · -- switch
      refine z_tableIn (off := 25) (tgt := 36) ok dX7_ofPacket_11 (by omega) (by omega) (by omega) (by rw [c11]; rfl) (by decide) ?_
      refine z_aload_n ok dX7_ofPacket_36 rfl ?_
      refine z_iload_n ok dX7_ofPacket_37 rfl ?_
      refine z_callVi0 ok (fun l => c_X7_lengthOf  (hw) (c5) (hca)) zm_X7_lengthOf zv_X7_lengthOf qm_RX7_137 dX7_ofPacket_38 (by decide) (by decide) rfl rfl (Nat.le_of_ble_eq_true rfl) (q0 := 0) rfl rfl rfl (fun r38 u38 hp38 => ?_)
      obtain ⟨far_38, many_38, laid_38⟩ := u38
      try dsimp only at hp38
      obtain ⟨rfl, hc38⟩ := hp38
      refine z_eq (ws' := mW Z q now kept hist und sav isv pad sg it far_38 many_38 laid_38 sides stuck ord rd pl wr) rfl ?_
      exact fin (fr now (pk now p 1) (stg now p)) (stuck, sides, far_38, many_38, laid_38) 41 _ _ _ dX7_ofPacket_41 (trivial) (⟨by unfold opR; rw [zif_t c5, if_pos c11], hc38⟩) (by decide) (by decide)
    · -- switch
      refine z_tableIn (off := 31) (tgt := 42) ok dX7_ofPacket_11 (by omega) (by omega) (by omega) (by rw [c11]; rfl) (by decide) ?_
      refine z_aload_n ok dX7_ofPacket_42 rfl ?_
      refine z_iload_n ok dX7_ofPacket_43 rfl ?_
      refine z_iconst ok dX7_ofPacket_44 ?_
      refine z_callVi0 ok (fun l => c_X7_of  (by omega) (by omega)) zm_X7_of zv_X7_of qm_RX7_98 dX7_ofPacket_45 (by decide) (by decide) rfl rfl (Nat.le_of_ble_eq_true rfl) (q0 := 0) rfl rfl rfl (fun ρ _ hρ => ?_)
      subst hρ
      refine z_eq (ws' := mW Z q now kept hist und sav isv pad sg it far many laid sides stuck ord rd pl wr) rfl ?_
      refine z_iconst ok dX7_ofPacket_48 ?_
      refine z_icmp_eq (tgt := 69) ok dX7_ofPacket_49 (by decide) (by omega) (by omega) (fun c49 => ?_) (fun c49 => ?_)
      · -- t
        refine z_bipush ok dX7_ofPacket_69 (by decide) ?_
        exact fin (-6) (stuck, sides, far, many, laid) 71 _ _ _ dX7_ofPacket_71 (trivial) (⟨by unfold opR; rw [zif_t c5, if_neg (by omega), if_pos c11]; first | (rw [if_pos c49]; done) | (rw [if_neg c49]; first | exact isF_gos (isF_first hs54 c57) | exact isF_gos (isF_nil hs54 c57)), hca⟩) (by decide) (by decide)
      · -- f
        refine z_aload_n ok dX7_ofPacket_52 rfl ?_
        refine z_iload_n ok dX7_ofPacket_53 rfl ?_
        refine z_callVi0 ok (fun l => c_X7_laySides  (hw) (c5) (hca)) zm_X7_laySides zv_X7_laySides qm_RX7_115 dX7_ofPacket_54 (by decide) (by decide) rfl rfl (Nat.le_of_ble_eq_true rfl) (q0 := 0) rfl rfl rfl (fun r54 u54 hp54 => ?_)
        obtain ⟨sides_54, far_54, many_54, laid_54⟩ := u54
        try dsimp only at hp54
        obtain ⟨hs54, hc54⟩ := hp54
        refine z_eq (ws' := mW Z q now kept hist und sav isv pad sg it far_54 many_54 laid_54 sides_54 stuck ord rd pl wr) rfl ?_
        have hr2 := hs54.2.1
        have hr3 := hs54.1
        refine z_if_le (tgt := 69) ok dX7_ofPacket_57 (by decide) (by omega) (fun c57 => ?_) (fun c57 => ?_)
        · -- t
          refine z_bipush ok dX7_ofPacket_69 (by decide) ?_
          exact fin (-6) (stuck, sides_54, far_54, many_54, laid_54) 71 _ _ _ dX7_ofPacket_71 (trivial) (⟨by unfold opR; rw [zif_t c5, if_neg (by omega), if_pos c11]; first | (rw [if_pos c49]; done) | (rw [if_neg c49]; first | exact isF_gos (isF_first hs54 c57) | exact isF_gos (isF_nil hs54 c57)), hc54⟩) (by decide) (by decide)
        · -- f
          have hr2 := hs54.2.1
          refine z_aload_n ok dX7_ofPacket_60 rfl ?_
          refine z_get (v := .ref (q 10)) ok zc7 0 rfl 12 (by decide) qf_RX7_38 rfl rfl dX7_ofPacket_61 ?_
          refine z_iconst ok dX7_ofPacket_64 ?_
          refine z_iald (f := sides_54) ok 10 rfl dX7_ofPacket_65 (by omega) (by decide) ?_
          refine z_goto (tgt := 71) ok dX7_ofPacket_66 (by decide) ?_
          exact fin (sides_54 0) (stuck, sides_54, far_54, many_54, laid_54) 71 _ _ _ dX7_ofPacket_71 (trivial) (⟨by unfold opR; rw [zif_t c5, if_neg (by omega), if_pos c11]; first | (rw [if_pos c49]; done) | (rw [if_neg c49]; first | exact isF_gos (isF_first hs54 c57) | exact isF_gos (isF_nil hs54 c57)), hc54⟩) (by decide) (by decide)
    · -- switch
      refine z_tableIn (off := 61) (tgt := 72) ok dX7_ofPacket_11 (by omega) (by omega) (by omega) (by rw [c11]; rfl) (by decide) ?_
      refine z_aload_n ok dX7_ofPacket_72 rfl ?_
      refine z_callVi0 ok (fun l => c_X7_layStuck  (hw) (hca)) zm_X7_layStuck zv_X7_layStuck qm_RX7_140 dX7_ofPacket_73 (by decide) (by decide) rfl rfl (Nat.le_of_ble_eq_true rfl) (q0 := 0) rfl rfl rfl (fun r73 u73 hp73 => ?_)
      obtain ⟨stuck_73, sides_73, far_73, many_73, laid_73⟩ := u73
      try dsimp only at hp73
      obtain ⟨rfl, hk73, hc73⟩ := hp73
      refine z_eq (ws' := mW Z q now kept hist und sav isv pad sg it far_73 many_73 laid_73 sides_73 stuck_73 ord rd pl wr) rfl ?_
      refine z_pop ok dX7_ofPacket_76 rfl ?_
      refine z_aload_n ok dX7_ofPacket_77 rfl ?_
      refine z_get (v := .ref (q 11)) ok zc7 0 rfl 13 (by decide) qf_RX7_41 rfl rfl dX7_ofPacket_78 ?_
      refine z_iload_n ok dX7_ofPacket_81 rfl ?_
      refine z_zald (f := stuck_73) ok 11 rfl dX7_ofPacket_82 (by omega) (by decide) ?_
      have hk83 := hk73 p (by omega) (by omega)
      have hz83 := zb_rng (stk now p)
      refine z_if_eq (tgt := 90) ok dX7_ofPacket_83 (by decide) (by omega) (fun c83 => ?_) (fun c83 => ?_)
      · -- t
        refine z_iconst ok dX7_ofPacket_90 ?_
        exact fin 0 (stuck_73, sides_73, far_73, many_73, laid_73) 91 _ _ _ dX7_ofPacket_91 (trivial) (⟨by unfold opR; rw [zif_t c5, if_neg (by omega), if_neg (by omega), if_pos c11, ← hk73 p (by omega) (by omega)]; omega, hc73⟩) (by decide) (by decide)
      · -- f
        refine z_iconst ok dX7_ofPacket_86 ?_
        refine z_goto (tgt := 91) ok dX7_ofPacket_87 (by decide) ?_
        exact fin 1 (stuck_73, sides_73, far_73, many_73, laid_73) 91 _ _ _ dX7_ofPacket_91 (trivial) (⟨by unfold opR; rw [zif_t c5, if_neg (by omega), if_neg (by omega), if_pos c11, ← hk73 p (by omega) (by omega)]; omega, hc73⟩) (by decide) (by decide)
  · -- f
    refine z_iconst ok dX7_ofPacket_8 ?_
    exact fin (-1) (stuck, sides, far, many, laid) 9 _ _ _ dX7_ofPacket_9 (trivial) (⟨by unfold opR; exact (zif_f c5).symm, hca⟩) (by decide) (by decide)
set_option maxRecDepth 20000 in
theorem c_X7_count {l : Launch} {Z : zZ} {q : Nat → Nat} {now kept hist : Int → Int} {und : Int} {sav isv pad : Int → Int} {sg it : Int} {far many laid sides stuck ord : Int → Int} {rd pl wr : Int} {w : Int} (hw : wf now) (hww : -2147483648 ≤ w ∧ w < 2147483648) (hca : cacheOK now laid far many) : zI (T := (Int → Int) × (Int → Int) × (Int → Int) × (Int → Int) × (Int → Int)) l yX7_count (Cond.code yX7_count cX7_count 2 (some .int) :: wsL_law) ({ frames := 10, cells := 0, slots := 0, locals := 247 } : Room) Z [.ref (q 0), .int (iI w)] (mW Z q now kept hist und sav isv pad sg it far many laid sides stuck ord rd pl wr) (fun u => mW Z q now kept hist und sav isv pad sg it u.2.2.1 u.2.2.2.1 u.2.2.2.2 u.2.1 u.1 ord rd pl wr) (fun ρ u => ρ = coR now und sg w ∧ cacheOK now u.2.2.2.2 u.2.2.1 u.2.2.2.1) := by
  refine zI_of (C := RX7) (by decide +kernel) rfl (Nat.le_of_ble_eq_true rfl) (fun _ => True) znI (fun X ok fin => ?_)
  obtain ⟨w0, w1, w2, hc, hr, w6, wl, wp⟩ := id hw
  have hcr := cr_rng hc hr
  refine z_lsub ok (lv' := [(0, .ref (q 0)), (1, .int (iI w))]) [0, 1] rfl ?_
  refine z_iload_n ok dX7_count_0 rfl ?_
  refine z_iconst ok dX7_count_1 ?_
  refine z_bipush ok dX7_count_2 (by decide) ?_
  refine z_callSie ok (fun l => c_X7_in  (by omega) (by omega) (by omega)) zm_X7_in qt_X7_in qm_RX7_59 dX7_count_4 (by decide) (by decide) rfl rfl (Nat.le_of_ble_eq_true rfl) (fun ρ _ hρ => ?_)
  subst hρ
  refine z_ifb_eq (tgt := 20) ok dX7_count_7 (by decide) (fun c7 => ?_) (fun c7 => ?_)
  · -- t
    refine z_iload_n ok dX7_count_20 rfl ?_
    refine z_bipush ok dX7_count_21 (by decide) ?_
    refine z_bipush ok dX7_count_23 (by decide) ?_
    refine z_callSie ok (fun l => c_X7_in  (by omega) (by omega) (by omega)) zm_X7_in qt_X7_in qm_RX7_59 dX7_count_25 (by decide) (by decide) rfl rfl (Nat.le_of_ble_eq_true rfl) (fun ρ _ hρ => ?_)
    subst hρ
    refine z_ifb_eq (tgt := 42) ok dX7_count_28 (by decide) (fun c28 => ?_) (fun c28 => ?_)
    · -- t
      refine z_iload_n ok dX7_count_42 rfl ?_
      refine z_bipush ok dX7_count_43 (by decide) ?_
      refine z_bipush ok dX7_count_45 (by decide) ?_
      refine z_callSie ok (fun l => c_X7_in  (by omega) (by omega) (by omega)) zm_X7_in qt_X7_in qm_RX7_59 dX7_count_47 (by decide) (by decide) rfl rfl (Nat.le_of_ble_eq_true rfl) (fun ρ _ hρ => ?_)
      subst hρ
      refine z_ifb_eq (tgt := 63) ok dX7_count_50 (by decide) (fun c50 => ?_) (fun c50 => ?_)
      · -- t
        refine z_iload_n ok dX7_count_63 rfl ?_
        rcases (show w < 0 ∨ 12 < w ∨ w = 0 ∨ w = 1 ∨ w = 2 ∨ w = 3 ∨ w = 4 ∨ w = 5 ∨ w = 6 ∨ w = 7 ∨ w = 8 ∨ w = 9 ∨ w = 10 ∨ w = 11 ∨ w = 12 by omega) with c64 | c64 | c64 | c64 | c64 | c64 | c64 | c64 | c64 | c64 | c64 | c64 | c64 | c64 | c64
        · -- switch
          refine z_tableOut (tgt := 174) ok dX7_count_64 (by omega) (by omega) (by decide) ?_
          refine z_iload_n ok dX7_count_174 rfl ?_
          refine z_bipush ok dX7_count_175 (by decide) ?_
          refine z_icmp_ne (tgt := 187) ok dX7_count_177 (by decide) (by omega) (by omega) (fun c177 => ?_) (fun c177 => ?_)
          · -- t
            refine z_bipush ok dX7_count_187 (by decide) ?_
            exact fin (-2) (stuck, sides, far, many, laid) 189 _ _ _ dX7_count_189 (trivial) (⟨by unfold coR; first | (rw [if_pos c7]; done) | (rw [if_neg c7, if_pos c28, show w - 7 + 4 = w - 3 by omega]; done) | (rw [if_neg c7, if_neg c28, if_pos c50]; done) | (rw [if_neg c7, if_neg c28, if_neg c50]; first | (rw [if_pos (by omega)]; done) | (rw [if_neg (by omega), if_pos (by omega)]; done) | (rw [if_neg (by omega), if_neg (by omega), if_pos (by omega)]; done) | (rw [if_neg (by omega), if_neg (by omega), if_neg (by omega), if_pos (by omega)]; done) | (rw [if_neg (by omega), if_neg (by omega), if_neg (by omega), if_neg (by omega), if_pos (by omega)]; done) | (rw [if_neg (by omega), if_neg (by omega), if_neg (by omega), if_neg (by omega), if_neg (by omega), if_pos (by omega)]; done) | (rw [if_neg (by omega), if_neg (by omega), if_neg (by omega), if_neg (by omega), if_neg (by omega), if_neg (by omega), if_pos (by omega)]; done) | (rw [if_neg (by omega), if_neg (by omega), if_neg (by omega), if_neg (by omega), if_neg (by omega), if_neg (by omega), if_neg (by omega), if_pos (by omega)]; done) | (rw [if_neg (by omega), if_neg (by omega), if_neg (by omega), if_neg (by omega), if_neg (by omega), if_neg (by omega), if_neg (by omega), if_neg (by omega)])), hca⟩) (by decide) (by decide)
          · -- f
            refine z_aload_n ok dX7_count_180 rfl ?_
            refine z_get (v := .int (iI und)) ok zc7 0 rfl 3 (by decide) qf_RX7_51 rfl rfl dX7_count_181 ?_
            refine z_goto (tgt := 189) ok dX7_count_184 (by decide) ?_
            exact fin und (stuck, sides, far, many, laid) 189 _ _ _ dX7_count_189 (trivial) (⟨by unfold coR; first | (rw [if_pos c7]; done) | (rw [if_neg c7, if_pos c28, show w - 7 + 4 = w - 3 by omega]; done) | (rw [if_neg c7, if_neg c28, if_pos c50]; done) | (rw [if_neg c7, if_neg c28, if_neg c50]; first | (rw [if_pos (by omega)]; done) | (rw [if_neg (by omega), if_pos (by omega)]; done) | (rw [if_neg (by omega), if_neg (by omega), if_pos (by omega)]; done) | (rw [if_neg (by omega), if_neg (by omega), if_neg (by omega), if_pos (by omega)]; done) | (rw [if_neg (by omega), if_neg (by omega), if_neg (by omega), if_neg (by omega), if_pos (by omega)]; done) | (rw [if_neg (by omega), if_neg (by omega), if_neg (by omega), if_neg (by omega), if_neg (by omega), if_pos (by omega)]; done) | (rw [if_neg (by omega), if_neg (by omega), if_neg (by omega), if_neg (by omega), if_neg (by omega), if_neg (by omega), if_pos (by omega)]; done) | (rw [if_neg (by omega), if_neg (by omega), if_neg (by omega), if_neg (by omega), if_neg (by omega), if_neg (by omega), if_neg (by omega), if_pos (by omega)]; done) | (rw [if_neg (by omega), if_neg (by omega), if_neg (by omega), if_neg (by omega), if_neg (by omega), if_neg (by omega), if_neg (by omega), if_neg (by omega)])), hca⟩) (by decide) (by decide)
        · -- switch
          refine z_tableOut (tgt := 174) ok dX7_count_64 (by omega) (by omega) (by decide) ?_
          refine z_iload_n ok dX7_count_174 rfl ?_
          refine z_bipush ok dX7_count_175 (by decide) ?_
          refine z_icmp_ne (tgt := 187) ok dX7_count_177 (by decide) (by omega) (by omega) (fun c177 => ?_) (fun c177 => ?_)
          · -- t
            refine z_bipush ok dX7_count_187 (by decide) ?_
            exact fin (-2) (stuck, sides, far, many, laid) 189 _ _ _ dX7_count_189 (trivial) (⟨by unfold coR; first | (rw [if_pos c7]; done) | (rw [if_neg c7, if_pos c28, show w - 7 + 4 = w - 3 by omega]; done) | (rw [if_neg c7, if_neg c28, if_pos c50]; done) | (rw [if_neg c7, if_neg c28, if_neg c50]; first | (rw [if_pos (by omega)]; done) | (rw [if_neg (by omega), if_pos (by omega)]; done) | (rw [if_neg (by omega), if_neg (by omega), if_pos (by omega)]; done) | (rw [if_neg (by omega), if_neg (by omega), if_neg (by omega), if_pos (by omega)]; done) | (rw [if_neg (by omega), if_neg (by omega), if_neg (by omega), if_neg (by omega), if_pos (by omega)]; done) | (rw [if_neg (by omega), if_neg (by omega), if_neg (by omega), if_neg (by omega), if_neg (by omega), if_pos (by omega)]; done) | (rw [if_neg (by omega), if_neg (by omega), if_neg (by omega), if_neg (by omega), if_neg (by omega), if_neg (by omega), if_pos (by omega)]; done) | (rw [if_neg (by omega), if_neg (by omega), if_neg (by omega), if_neg (by omega), if_neg (by omega), if_neg (by omega), if_neg (by omega), if_pos (by omega)]; done) | (rw [if_neg (by omega), if_neg (by omega), if_neg (by omega), if_neg (by omega), if_neg (by omega), if_neg (by omega), if_neg (by omega), if_neg (by omega)])), hca⟩) (by decide) (by decide)
          · -- f
            refine z_aload_n ok dX7_count_180 rfl ?_
            refine z_get (v := .int (iI und)) ok zc7 0 rfl 3 (by decide) qf_RX7_51 rfl rfl dX7_count_181 ?_
            refine z_goto (tgt := 189) ok dX7_count_184 (by decide) ?_
            exact fin und (stuck, sides, far, many, laid) 189 _ _ _ dX7_count_189 (trivial) (⟨by unfold coR; first | (rw [if_pos c7]; done) | (rw [if_neg c7, if_pos c28, show w - 7 + 4 = w - 3 by omega]; done) | (rw [if_neg c7, if_neg c28, if_pos c50]; done) | (rw [if_neg c7, if_neg c28, if_neg c50]; first | (rw [if_pos (by omega)]; done) | (rw [if_neg (by omega), if_pos (by omega)]; done) | (rw [if_neg (by omega), if_neg (by omega), if_pos (by omega)]; done) | (rw [if_neg (by omega), if_neg (by omega), if_neg (by omega), if_pos (by omega)]; done) | (rw [if_neg (by omega), if_neg (by omega), if_neg (by omega), if_neg (by omega), if_pos (by omega)]; done) | (rw [if_neg (by omega), if_neg (by omega), if_neg (by omega), if_neg (by omega), if_neg (by omega), if_pos (by omega)]; done) | (rw [if_neg (by omega), if_neg (by omega), if_neg (by omega), if_neg (by omega), if_neg (by omega), if_neg (by omega), if_pos (by omega)]; done) | (rw [if_neg (by omega), if_neg (by omega), if_neg (by omega), if_neg (by omega), if_neg (by omega), if_neg (by omega), if_neg (by omega), if_pos (by omega)]; done) | (rw [if_neg (by omega), if_neg (by omega), if_neg (by omega), if_neg (by omega), if_neg (by omega), if_neg (by omega), if_neg (by omega), if_neg (by omega)])), hca⟩) (by decide) (by decide)
        · -- switch
          refine z_tableIn (off := 68) (tgt := 132) ok dX7_count_64 (by omega) (by omega) (by omega) (by rw [c64]; rfl) (by decide) ?_
          refine z_aload_n ok dX7_count_132 rfl ?_
          refine z_get (v := .ref (q 1)) ok zc7 0 rfl 0 (by decide) qf_RX7_7 rfl rfl dX7_count_133 ?_
          refine z_iconst ok dX7_count_136 ?_
          refine z_iald (f := now) ok 1 rfl dX7_count_137 (by omega) (by decide) ?_
          exact fin (now 3) (stuck, sides, far, many, laid) 138 _ _ _ dX7_count_138 (trivial) (⟨by unfold coR; first | (rw [if_pos c7]; done) | (rw [if_neg c7, if_pos c28, show w - 7 + 4 = w - 3 by omega]; done) | (rw [if_neg c7, if_neg c28, if_pos c50]; done) | (rw [if_neg c7, if_neg c28, if_neg c50]; first | (rw [if_pos (by omega)]; done) | (rw [if_neg (by omega), if_pos (by omega)]; done) | (rw [if_neg (by omega), if_neg (by omega), if_pos (by omega)]; done) | (rw [if_neg (by omega), if_neg (by omega), if_neg (by omega), if_pos (by omega)]; done) | (rw [if_neg (by omega), if_neg (by omega), if_neg (by omega), if_neg (by omega), if_pos (by omega)]; done) | (rw [if_neg (by omega), if_neg (by omega), if_neg (by omega), if_neg (by omega), if_neg (by omega), if_pos (by omega)]; done) | (rw [if_neg (by omega), if_neg (by omega), if_neg (by omega), if_neg (by omega), if_neg (by omega), if_neg (by omega), if_pos (by omega)]; done) | (rw [if_neg (by omega), if_neg (by omega), if_neg (by omega), if_neg (by omega), if_neg (by omega), if_neg (by omega), if_neg (by omega), if_pos (by omega)]; done) | (rw [if_neg (by omega), if_neg (by omega), if_neg (by omega), if_neg (by omega), if_neg (by omega), if_neg (by omega), if_neg (by omega), if_neg (by omega)])), hca⟩) (by decide) (by decide)
        · -- switch
          refine z_tableIn (off := 75) (tgt := 139) ok dX7_count_64 (by omega) (by omega) (by omega) (by rw [c64]; rfl) (by decide) ?_
          refine z_aload_n ok dX7_count_139 rfl ?_
          refine z_callVi0 ok (fun l => c_X7_boxes  ) zm_X7_boxes zv_X7_boxes qm_RX7_55 dX7_count_140 (by decide) (by decide) rfl rfl (Nat.le_of_ble_eq_true rfl) (q0 := 0) rfl rfl rfl (fun ρ _ hρ => ?_)
          subst hρ
          refine z_eq (ws' := mW Z q now kept hist und sav isv pad sg it far many laid sides stuck ord rd pl wr) rfl ?_
          exact fin (now 4 * now 5) (stuck, sides, far, many, laid) 143 _ _ _ dX7_count_143 (trivial) (⟨by unfold coR; first | (rw [if_pos c7]; done) | (rw [if_neg c7, if_pos c28, show w - 7 + 4 = w - 3 by omega]; done) | (rw [if_neg c7, if_neg c28, if_pos c50]; done) | (rw [if_neg c7, if_neg c28, if_neg c50]; first | (rw [if_pos (by omega)]; done) | (rw [if_neg (by omega), if_pos (by omega)]; done) | (rw [if_neg (by omega), if_neg (by omega), if_pos (by omega)]; done) | (rw [if_neg (by omega), if_neg (by omega), if_neg (by omega), if_pos (by omega)]; done) | (rw [if_neg (by omega), if_neg (by omega), if_neg (by omega), if_neg (by omega), if_pos (by omega)]; done) | (rw [if_neg (by omega), if_neg (by omega), if_neg (by omega), if_neg (by omega), if_neg (by omega), if_pos (by omega)]; done) | (rw [if_neg (by omega), if_neg (by omega), if_neg (by omega), if_neg (by omega), if_neg (by omega), if_neg (by omega), if_pos (by omega)]; done) | (rw [if_neg (by omega), if_neg (by omega), if_neg (by omega), if_neg (by omega), if_neg (by omega), if_neg (by omega), if_neg (by omega), if_pos (by omega)]; done) | (rw [if_neg (by omega), if_neg (by omega), if_neg (by omega), if_neg (by omega), if_neg (by omega), if_neg (by omega), if_neg (by omega), if_neg (by omega)])), hca⟩) (by decide) (by decide)
        · -- switch
          refine z_tableIn (off := 80) (tgt := 144) ok dX7_count_64 (by omega) (by omega) (by omega) (by rw [c64]; rfl) (by decide) ?_
          refine z_aload_n ok dX7_count_144 rfl ?_
          refine z_get (v := .ref (q 1)) ok zc7 0 rfl 0 (by decide) qf_RX7_7 rfl rfl dX7_count_145 ?_
          refine z_iconst ok dX7_count_148 ?_
          refine z_iald (f := now) ok 1 rfl dX7_count_149 (by omega) (by decide) ?_
          exact fin (now 4) (stuck, sides, far, many, laid) 150 _ _ _ dX7_count_150 (trivial) (⟨by unfold coR; first | (rw [if_pos c7]; done) | (rw [if_neg c7, if_pos c28, show w - 7 + 4 = w - 3 by omega]; done) | (rw [if_neg c7, if_neg c28, if_pos c50]; done) | (rw [if_neg c7, if_neg c28, if_neg c50]; first | (rw [if_pos (by omega)]; done) | (rw [if_neg (by omega), if_pos (by omega)]; done) | (rw [if_neg (by omega), if_neg (by omega), if_pos (by omega)]; done) | (rw [if_neg (by omega), if_neg (by omega), if_neg (by omega), if_pos (by omega)]; done) | (rw [if_neg (by omega), if_neg (by omega), if_neg (by omega), if_neg (by omega), if_pos (by omega)]; done) | (rw [if_neg (by omega), if_neg (by omega), if_neg (by omega), if_neg (by omega), if_neg (by omega), if_pos (by omega)]; done) | (rw [if_neg (by omega), if_neg (by omega), if_neg (by omega), if_neg (by omega), if_neg (by omega), if_neg (by omega), if_pos (by omega)]; done) | (rw [if_neg (by omega), if_neg (by omega), if_neg (by omega), if_neg (by omega), if_neg (by omega), if_neg (by omega), if_neg (by omega), if_pos (by omega)]; done) | (rw [if_neg (by omega), if_neg (by omega), if_neg (by omega), if_neg (by omega), if_neg (by omega), if_neg (by omega), if_neg (by omega), if_neg (by omega)])), hca⟩) (by decide) (by decide)
        · -- switch
          refine z_tableIn (off := 87) (tgt := 151) ok dX7_count_64 (by omega) (by omega) (by omega) (by rw [c64]; rfl) (by decide) ?_
          refine z_aload_n ok dX7_count_151 rfl ?_
          refine z_get (v := .ref (q 1)) ok zc7 0 rfl 0 (by decide) qf_RX7_7 rfl rfl dX7_count_152 ?_
          refine z_bipush ok dX7_count_155 (by decide) ?_
          refine z_iald (f := now) ok 1 rfl dX7_count_157 (by omega) (by decide) ?_
          exact fin (now 6) (stuck, sides, far, many, laid) 158 _ _ _ dX7_count_158 (trivial) (⟨by unfold coR; first | (rw [if_pos c7]; done) | (rw [if_neg c7, if_pos c28, show w - 7 + 4 = w - 3 by omega]; done) | (rw [if_neg c7, if_neg c28, if_pos c50]; done) | (rw [if_neg c7, if_neg c28, if_neg c50]; first | (rw [if_pos (by omega)]; done) | (rw [if_neg (by omega), if_pos (by omega)]; done) | (rw [if_neg (by omega), if_neg (by omega), if_pos (by omega)]; done) | (rw [if_neg (by omega), if_neg (by omega), if_neg (by omega), if_pos (by omega)]; done) | (rw [if_neg (by omega), if_neg (by omega), if_neg (by omega), if_neg (by omega), if_pos (by omega)]; done) | (rw [if_neg (by omega), if_neg (by omega), if_neg (by omega), if_neg (by omega), if_neg (by omega), if_pos (by omega)]; done) | (rw [if_neg (by omega), if_neg (by omega), if_neg (by omega), if_neg (by omega), if_neg (by omega), if_neg (by omega), if_pos (by omega)]; done) | (rw [if_neg (by omega), if_neg (by omega), if_neg (by omega), if_neg (by omega), if_neg (by omega), if_neg (by omega), if_neg (by omega), if_pos (by omega)]; done) | (rw [if_neg (by omega), if_neg (by omega), if_neg (by omega), if_neg (by omega), if_neg (by omega), if_neg (by omega), if_neg (by omega), if_neg (by omega)])), hca⟩) (by decide) (by decide)
        · -- switch
          refine z_tableIn (off := 110) (tgt := 174) ok dX7_count_64 (by omega) (by omega) (by omega) (by rw [c64]; rfl) (by decide) ?_
          refine z_iload_n ok dX7_count_174 rfl ?_
          refine z_bipush ok dX7_count_175 (by decide) ?_
          refine z_icmp_ne (tgt := 187) ok dX7_count_177 (by decide) (by omega) (by omega) (fun c177 => ?_) (fun c177 => ?_)
          · -- t
            refine z_bipush ok dX7_count_187 (by decide) ?_
            exact fin (-2) (stuck, sides, far, many, laid) 189 _ _ _ dX7_count_189 (trivial) (⟨by unfold coR; first | (rw [if_pos c7]; done) | (rw [if_neg c7, if_pos c28, show w - 7 + 4 = w - 3 by omega]; done) | (rw [if_neg c7, if_neg c28, if_pos c50]; done) | (rw [if_neg c7, if_neg c28, if_neg c50]; first | (rw [if_pos (by omega)]; done) | (rw [if_neg (by omega), if_pos (by omega)]; done) | (rw [if_neg (by omega), if_neg (by omega), if_pos (by omega)]; done) | (rw [if_neg (by omega), if_neg (by omega), if_neg (by omega), if_pos (by omega)]; done) | (rw [if_neg (by omega), if_neg (by omega), if_neg (by omega), if_neg (by omega), if_pos (by omega)]; done) | (rw [if_neg (by omega), if_neg (by omega), if_neg (by omega), if_neg (by omega), if_neg (by omega), if_pos (by omega)]; done) | (rw [if_neg (by omega), if_neg (by omega), if_neg (by omega), if_neg (by omega), if_neg (by omega), if_neg (by omega), if_pos (by omega)]; done) | (rw [if_neg (by omega), if_neg (by omega), if_neg (by omega), if_neg (by omega), if_neg (by omega), if_neg (by omega), if_neg (by omega), if_pos (by omega)]; done) | (rw [if_neg (by omega), if_neg (by omega), if_neg (by omega), if_neg (by omega), if_neg (by omega), if_neg (by omega), if_neg (by omega), if_neg (by omega)])), hca⟩) (by decide) (by decide)
          · -- f
            refine z_aload_n ok dX7_count_180 rfl ?_
            refine z_get (v := .int (iI und)) ok zc7 0 rfl 3 (by decide) qf_RX7_51 rfl rfl dX7_count_181 ?_
            refine z_goto (tgt := 189) ok dX7_count_184 (by decide) ?_
            exact fin und (stuck, sides, far, many, laid) 189 _ _ _ dX7_count_189 (trivial) (⟨by unfold coR; first | (rw [if_pos c7]; done) | (rw [if_neg c7, if_pos c28, show w - 7 + 4 = w - 3 by omega]; done) | (rw [if_neg c7, if_neg c28, if_pos c50]; done) | (rw [if_neg c7, if_neg c28, if_neg c50]; first | (rw [if_pos (by omega)]; done) | (rw [if_neg (by omega), if_pos (by omega)]; done) | (rw [if_neg (by omega), if_neg (by omega), if_pos (by omega)]; done) | (rw [if_neg (by omega), if_neg (by omega), if_neg (by omega), if_pos (by omega)]; done) | (rw [if_neg (by omega), if_neg (by omega), if_neg (by omega), if_neg (by omega), if_pos (by omega)]; done) | (rw [if_neg (by omega), if_neg (by omega), if_neg (by omega), if_neg (by omega), if_neg (by omega), if_pos (by omega)]; done) | (rw [if_neg (by omega), if_neg (by omega), if_neg (by omega), if_neg (by omega), if_neg (by omega), if_neg (by omega), if_pos (by omega)]; done) | (rw [if_neg (by omega), if_neg (by omega), if_neg (by omega), if_neg (by omega), if_neg (by omega), if_neg (by omega), if_neg (by omega), if_pos (by omega)]; done) | (rw [if_neg (by omega), if_neg (by omega), if_neg (by omega), if_neg (by omega), if_neg (by omega), if_neg (by omega), if_neg (by omega), if_neg (by omega)])), hca⟩) (by decide) (by decide)
        · -- switch
          refine z_tableIn (off := 110) (tgt := 174) ok dX7_count_64 (by omega) (by omega) (by omega) (by rw [c64]; rfl) (by decide) ?_
          refine z_iload_n ok dX7_count_174 rfl ?_
          refine z_bipush ok dX7_count_175 (by decide) ?_
          refine z_icmp_ne (tgt := 187) ok dX7_count_177 (by decide) (by omega) (by omega) (fun c177 => ?_) (fun c177 => ?_)
          · -- t
            refine z_bipush ok dX7_count_187 (by decide) ?_
            exact fin (-2) (stuck, sides, far, many, laid) 189 _ _ _ dX7_count_189 (trivial) (⟨by unfold coR; first | (rw [if_pos c7]; done) | (rw [if_neg c7, if_pos c28, show w - 7 + 4 = w - 3 by omega]; done) | (rw [if_neg c7, if_neg c28, if_pos c50]; done) | (rw [if_neg c7, if_neg c28, if_neg c50]; first | (rw [if_pos (by omega)]; done) | (rw [if_neg (by omega), if_pos (by omega)]; done) | (rw [if_neg (by omega), if_neg (by omega), if_pos (by omega)]; done) | (rw [if_neg (by omega), if_neg (by omega), if_neg (by omega), if_pos (by omega)]; done) | (rw [if_neg (by omega), if_neg (by omega), if_neg (by omega), if_neg (by omega), if_pos (by omega)]; done) | (rw [if_neg (by omega), if_neg (by omega), if_neg (by omega), if_neg (by omega), if_neg (by omega), if_pos (by omega)]; done) | (rw [if_neg (by omega), if_neg (by omega), if_neg (by omega), if_neg (by omega), if_neg (by omega), if_neg (by omega), if_pos (by omega)]; done) | (rw [if_neg (by omega), if_neg (by omega), if_neg (by omega), if_neg (by omega), if_neg (by omega), if_neg (by omega), if_neg (by omega), if_pos (by omega)]; done) | (rw [if_neg (by omega), if_neg (by omega), if_neg (by omega), if_neg (by omega), if_neg (by omega), if_neg (by omega), if_neg (by omega), if_neg (by omega)])), hca⟩) (by decide) (by decide)
          · -- f
            refine z_aload_n ok dX7_count_180 rfl ?_
            refine z_get (v := .int (iI und)) ok zc7 0 rfl 3 (by decide) qf_RX7_51 rfl rfl dX7_count_181 ?_
            refine z_goto (tgt := 189) ok dX7_count_184 (by decide) ?_
            exact fin und (stuck, sides, far, many, laid) 189 _ _ _ dX7_count_189 (trivial) (⟨by unfold coR; first | (rw [if_pos c7]; done) | (rw [if_neg c7, if_pos c28, show w - 7 + 4 = w - 3 by omega]; done) | (rw [if_neg c7, if_neg c28, if_pos c50]; done) | (rw [if_neg c7, if_neg c28, if_neg c50]; first | (rw [if_pos (by omega)]; done) | (rw [if_neg (by omega), if_pos (by omega)]; done) | (rw [if_neg (by omega), if_neg (by omega), if_pos (by omega)]; done) | (rw [if_neg (by omega), if_neg (by omega), if_neg (by omega), if_pos (by omega)]; done) | (rw [if_neg (by omega), if_neg (by omega), if_neg (by omega), if_neg (by omega), if_pos (by omega)]; done) | (rw [if_neg (by omega), if_neg (by omega), if_neg (by omega), if_neg (by omega), if_neg (by omega), if_pos (by omega)]; done) | (rw [if_neg (by omega), if_neg (by omega), if_neg (by omega), if_neg (by omega), if_neg (by omega), if_neg (by omega), if_pos (by omega)]; done) | (rw [if_neg (by omega), if_neg (by omega), if_neg (by omega), if_neg (by omega), if_neg (by omega), if_neg (by omega), if_neg (by omega), if_pos (by omega)]; done) | (rw [if_neg (by omega), if_neg (by omega), if_neg (by omega), if_neg (by omega), if_neg (by omega), if_neg (by omega), if_neg (by omega), if_neg (by omega)])), hca⟩) (by decide) (by decide)
        · -- switch
          refine z_tableIn (off := 110) (tgt := 174) ok dX7_count_64 (by omega) (by omega) (by omega) (by rw [c64]; rfl) (by decide) ?_
          refine z_iload_n ok dX7_count_174 rfl ?_
          refine z_bipush ok dX7_count_175 (by decide) ?_
          refine z_icmp_ne (tgt := 187) ok dX7_count_177 (by decide) (by omega) (by omega) (fun c177 => ?_) (fun c177 => ?_)
          · -- t
            refine z_bipush ok dX7_count_187 (by decide) ?_
            exact fin (-2) (stuck, sides, far, many, laid) 189 _ _ _ dX7_count_189 (trivial) (⟨by unfold coR; first | (rw [if_pos c7]; done) | (rw [if_neg c7, if_pos c28, show w - 7 + 4 = w - 3 by omega]; done) | (rw [if_neg c7, if_neg c28, if_pos c50]; done) | (rw [if_neg c7, if_neg c28, if_neg c50]; first | (rw [if_pos (by omega)]; done) | (rw [if_neg (by omega), if_pos (by omega)]; done) | (rw [if_neg (by omega), if_neg (by omega), if_pos (by omega)]; done) | (rw [if_neg (by omega), if_neg (by omega), if_neg (by omega), if_pos (by omega)]; done) | (rw [if_neg (by omega), if_neg (by omega), if_neg (by omega), if_neg (by omega), if_pos (by omega)]; done) | (rw [if_neg (by omega), if_neg (by omega), if_neg (by omega), if_neg (by omega), if_neg (by omega), if_pos (by omega)]; done) | (rw [if_neg (by omega), if_neg (by omega), if_neg (by omega), if_neg (by omega), if_neg (by omega), if_neg (by omega), if_pos (by omega)]; done) | (rw [if_neg (by omega), if_neg (by omega), if_neg (by omega), if_neg (by omega), if_neg (by omega), if_neg (by omega), if_neg (by omega), if_pos (by omega)]; done) | (rw [if_neg (by omega), if_neg (by omega), if_neg (by omega), if_neg (by omega), if_neg (by omega), if_neg (by omega), if_neg (by omega), if_neg (by omega)])), hca⟩) (by decide) (by decide)
          · -- f
            refine z_aload_n ok dX7_count_180 rfl ?_
            refine z_get (v := .int (iI und)) ok zc7 0 rfl 3 (by decide) qf_RX7_51 rfl rfl dX7_count_181 ?_
            refine z_goto (tgt := 189) ok dX7_count_184 (by decide) ?_
            exact fin und (stuck, sides, far, many, laid) 189 _ _ _ dX7_count_189 (trivial) (⟨by unfold coR; first | (rw [if_pos c7]; done) | (rw [if_neg c7, if_pos c28, show w - 7 + 4 = w - 3 by omega]; done) | (rw [if_neg c7, if_neg c28, if_pos c50]; done) | (rw [if_neg c7, if_neg c28, if_neg c50]; first | (rw [if_pos (by omega)]; done) | (rw [if_neg (by omega), if_pos (by omega)]; done) | (rw [if_neg (by omega), if_neg (by omega), if_pos (by omega)]; done) | (rw [if_neg (by omega), if_neg (by omega), if_neg (by omega), if_pos (by omega)]; done) | (rw [if_neg (by omega), if_neg (by omega), if_neg (by omega), if_neg (by omega), if_pos (by omega)]; done) | (rw [if_neg (by omega), if_neg (by omega), if_neg (by omega), if_neg (by omega), if_neg (by omega), if_pos (by omega)]; done) | (rw [if_neg (by omega), if_neg (by omega), if_neg (by omega), if_neg (by omega), if_neg (by omega), if_neg (by omega), if_pos (by omega)]; done) | (rw [if_neg (by omega), if_neg (by omega), if_neg (by omega), if_neg (by omega), if_neg (by omega), if_neg (by omega), if_neg (by omega), if_pos (by omega)]; done) | (rw [if_neg (by omega), if_neg (by omega), if_neg (by omega), if_neg (by omega), if_neg (by omega), if_neg (by omega), if_neg (by omega), if_neg (by omega)])), hca⟩) (by decide) (by decide)
        · -- switch
          refine z_tableIn (off := 110) (tgt := 174) ok dX7_count_64 (by omega) (by omega) (by omega) (by rw [c64]; rfl) (by decide) ?_
          refine z_iload_n ok dX7_count_174 rfl ?_
          refine z_bipush ok dX7_count_175 (by decide) ?_
          refine z_icmp_ne (tgt := 187) ok dX7_count_177 (by decide) (by omega) (by omega) (fun c177 => ?_) (fun c177 => ?_)
          · -- t
            refine z_bipush ok dX7_count_187 (by decide) ?_
            exact fin (-2) (stuck, sides, far, many, laid) 189 _ _ _ dX7_count_189 (trivial) (⟨by unfold coR; first | (rw [if_pos c7]; done) | (rw [if_neg c7, if_pos c28, show w - 7 + 4 = w - 3 by omega]; done) | (rw [if_neg c7, if_neg c28, if_pos c50]; done) | (rw [if_neg c7, if_neg c28, if_neg c50]; first | (rw [if_pos (by omega)]; done) | (rw [if_neg (by omega), if_pos (by omega)]; done) | (rw [if_neg (by omega), if_neg (by omega), if_pos (by omega)]; done) | (rw [if_neg (by omega), if_neg (by omega), if_neg (by omega), if_pos (by omega)]; done) | (rw [if_neg (by omega), if_neg (by omega), if_neg (by omega), if_neg (by omega), if_pos (by omega)]; done) | (rw [if_neg (by omega), if_neg (by omega), if_neg (by omega), if_neg (by omega), if_neg (by omega), if_pos (by omega)]; done) | (rw [if_neg (by omega), if_neg (by omega), if_neg (by omega), if_neg (by omega), if_neg (by omega), if_neg (by omega), if_pos (by omega)]; done) | (rw [if_neg (by omega), if_neg (by omega), if_neg (by omega), if_neg (by omega), if_neg (by omega), if_neg (by omega), if_neg (by omega), if_pos (by omega)]; done) | (rw [if_neg (by omega), if_neg (by omega), if_neg (by omega), if_neg (by omega), if_neg (by omega), if_neg (by omega), if_neg (by omega), if_neg (by omega)])), hca⟩) (by decide) (by decide)
          · -- f
            refine z_aload_n ok dX7_count_180 rfl ?_
            refine z_get (v := .int (iI und)) ok zc7 0 rfl 3 (by decide) qf_RX7_51 rfl rfl dX7_count_181 ?_
            refine z_goto (tgt := 189) ok dX7_count_184 (by decide) ?_
            exact fin und (stuck, sides, far, many, laid) 189 _ _ _ dX7_count_189 (trivial) (⟨by unfold coR; first | (rw [if_pos c7]; done) | (rw [if_neg c7, if_pos c28, show w - 7 + 4 = w - 3 by omega]; done) | (rw [if_neg c7, if_neg c28, if_pos c50]; done) | (rw [if_neg c7, if_neg c28, if_neg c50]; first | (rw [if_pos (by omega)]; done) | (rw [if_neg (by omega), if_pos (by omega)]; done) | (rw [if_neg (by omega), if_neg (by omega), if_pos (by omega)]; done) | (rw [if_neg (by omega), if_neg (by omega), if_neg (by omega), if_pos (by omega)]; done) | (rw [if_neg (by omega), if_neg (by omega), if_neg (by omega), if_neg (by omega), if_pos (by omega)]; done) | (rw [if_neg (by omega), if_neg (by omega), if_neg (by omega), if_neg (by omega), if_neg (by omega), if_pos (by omega)]; done) | (rw [if_neg (by omega), if_neg (by omega), if_neg (by omega), if_neg (by omega), if_neg (by omega), if_neg (by omega), if_pos (by omega)]; done) | (rw [if_neg (by omega), if_neg (by omega), if_neg (by omega), if_neg (by omega), if_neg (by omega), if_neg (by omega), if_neg (by omega), if_pos (by omega)]; done) | (rw [if_neg (by omega), if_neg (by omega), if_neg (by omega), if_neg (by omega), if_neg (by omega), if_neg (by omega), if_neg (by omega), if_neg (by omega)])), hca⟩) (by decide) (by decide)
        · -- switch
          refine z_tableIn (off := 110) (tgt := 174) ok dX7_count_64 (by omega) (by omega) (by omega) (by rw [c64]; rfl) (by decide) ?_
          refine z_iload_n ok dX7_count_174 rfl ?_
          refine z_bipush ok dX7_count_175 (by decide) ?_
          refine z_icmp_ne (tgt := 187) ok dX7_count_177 (by decide) (by omega) (by omega) (fun c177 => ?_) (fun c177 => ?_)
          · -- t
            refine z_bipush ok dX7_count_187 (by decide) ?_
            exact fin (-2) (stuck, sides, far, many, laid) 189 _ _ _ dX7_count_189 (trivial) (⟨by unfold coR; first | (rw [if_pos c7]; done) | (rw [if_neg c7, if_pos c28, show w - 7 + 4 = w - 3 by omega]; done) | (rw [if_neg c7, if_neg c28, if_pos c50]; done) | (rw [if_neg c7, if_neg c28, if_neg c50]; first | (rw [if_pos (by omega)]; done) | (rw [if_neg (by omega), if_pos (by omega)]; done) | (rw [if_neg (by omega), if_neg (by omega), if_pos (by omega)]; done) | (rw [if_neg (by omega), if_neg (by omega), if_neg (by omega), if_pos (by omega)]; done) | (rw [if_neg (by omega), if_neg (by omega), if_neg (by omega), if_neg (by omega), if_pos (by omega)]; done) | (rw [if_neg (by omega), if_neg (by omega), if_neg (by omega), if_neg (by omega), if_neg (by omega), if_pos (by omega)]; done) | (rw [if_neg (by omega), if_neg (by omega), if_neg (by omega), if_neg (by omega), if_neg (by omega), if_neg (by omega), if_pos (by omega)]; done) | (rw [if_neg (by omega), if_neg (by omega), if_neg (by omega), if_neg (by omega), if_neg (by omega), if_neg (by omega), if_neg (by omega), if_pos (by omega)]; done) | (rw [if_neg (by omega), if_neg (by omega), if_neg (by omega), if_neg (by omega), if_neg (by omega), if_neg (by omega), if_neg (by omega), if_neg (by omega)])), hca⟩) (by decide) (by decide)
          · -- f
            refine z_aload_n ok dX7_count_180 rfl ?_
            refine z_get (v := .int (iI und)) ok zc7 0 rfl 3 (by decide) qf_RX7_51 rfl rfl dX7_count_181 ?_
            refine z_goto (tgt := 189) ok dX7_count_184 (by decide) ?_
            exact fin und (stuck, sides, far, many, laid) 189 _ _ _ dX7_count_189 (trivial) (⟨by unfold coR; first | (rw [if_pos c7]; done) | (rw [if_neg c7, if_pos c28, show w - 7 + 4 = w - 3 by omega]; done) | (rw [if_neg c7, if_neg c28, if_pos c50]; done) | (rw [if_neg c7, if_neg c28, if_neg c50]; first | (rw [if_pos (by omega)]; done) | (rw [if_neg (by omega), if_pos (by omega)]; done) | (rw [if_neg (by omega), if_neg (by omega), if_pos (by omega)]; done) | (rw [if_neg (by omega), if_neg (by omega), if_neg (by omega), if_pos (by omega)]; done) | (rw [if_neg (by omega), if_neg (by omega), if_neg (by omega), if_neg (by omega), if_pos (by omega)]; done) | (rw [if_neg (by omega), if_neg (by omega), if_neg (by omega), if_neg (by omega), if_neg (by omega), if_pos (by omega)]; done) | (rw [if_neg (by omega), if_neg (by omega), if_neg (by omega), if_neg (by omega), if_neg (by omega), if_neg (by omega), if_pos (by omega)]; done) | (rw [if_neg (by omega), if_neg (by omega), if_neg (by omega), if_neg (by omega), if_neg (by omega), if_neg (by omega), if_neg (by omega), if_pos (by omega)]; done) | (rw [if_neg (by omega), if_neg (by omega), if_neg (by omega), if_neg (by omega), if_neg (by omega), if_neg (by omega), if_neg (by omega), if_neg (by omega)])), hca⟩) (by decide) (by decide)
        · -- switch
          refine z_tableIn (off := 110) (tgt := 174) ok dX7_count_64 (by omega) (by omega) (by omega) (by rw [c64]; rfl) (by decide) ?_
          refine z_iload_n ok dX7_count_174 rfl ?_
          refine z_bipush ok dX7_count_175 (by decide) ?_
          refine z_icmp_ne (tgt := 187) ok dX7_count_177 (by decide) (by omega) (by omega) (fun c177 => ?_) (fun c177 => ?_)
          · -- t
            refine z_bipush ok dX7_count_187 (by decide) ?_
            exact fin (-2) (stuck, sides, far, many, laid) 189 _ _ _ dX7_count_189 (trivial) (⟨by unfold coR; first | (rw [if_pos c7]; done) | (rw [if_neg c7, if_pos c28, show w - 7 + 4 = w - 3 by omega]; done) | (rw [if_neg c7, if_neg c28, if_pos c50]; done) | (rw [if_neg c7, if_neg c28, if_neg c50]; first | (rw [if_pos (by omega)]; done) | (rw [if_neg (by omega), if_pos (by omega)]; done) | (rw [if_neg (by omega), if_neg (by omega), if_pos (by omega)]; done) | (rw [if_neg (by omega), if_neg (by omega), if_neg (by omega), if_pos (by omega)]; done) | (rw [if_neg (by omega), if_neg (by omega), if_neg (by omega), if_neg (by omega), if_pos (by omega)]; done) | (rw [if_neg (by omega), if_neg (by omega), if_neg (by omega), if_neg (by omega), if_neg (by omega), if_pos (by omega)]; done) | (rw [if_neg (by omega), if_neg (by omega), if_neg (by omega), if_neg (by omega), if_neg (by omega), if_neg (by omega), if_pos (by omega)]; done) | (rw [if_neg (by omega), if_neg (by omega), if_neg (by omega), if_neg (by omega), if_neg (by omega), if_neg (by omega), if_neg (by omega), if_pos (by omega)]; done) | (rw [if_neg (by omega), if_neg (by omega), if_neg (by omega), if_neg (by omega), if_neg (by omega), if_neg (by omega), if_neg (by omega), if_neg (by omega)])), hca⟩) (by decide) (by decide)
          · -- f
            refine z_aload_n ok dX7_count_180 rfl ?_
            refine z_get (v := .int (iI und)) ok zc7 0 rfl 3 (by decide) qf_RX7_51 rfl rfl dX7_count_181 ?_
            refine z_goto (tgt := 189) ok dX7_count_184 (by decide) ?_
            exact fin und (stuck, sides, far, many, laid) 189 _ _ _ dX7_count_189 (trivial) (⟨by unfold coR; first | (rw [if_pos c7]; done) | (rw [if_neg c7, if_pos c28, show w - 7 + 4 = w - 3 by omega]; done) | (rw [if_neg c7, if_neg c28, if_pos c50]; done) | (rw [if_neg c7, if_neg c28, if_neg c50]; first | (rw [if_pos (by omega)]; done) | (rw [if_neg (by omega), if_pos (by omega)]; done) | (rw [if_neg (by omega), if_neg (by omega), if_pos (by omega)]; done) | (rw [if_neg (by omega), if_neg (by omega), if_neg (by omega), if_pos (by omega)]; done) | (rw [if_neg (by omega), if_neg (by omega), if_neg (by omega), if_neg (by omega), if_pos (by omega)]; done) | (rw [if_neg (by omega), if_neg (by omega), if_neg (by omega), if_neg (by omega), if_neg (by omega), if_pos (by omega)]; done) | (rw [if_neg (by omega), if_neg (by omega), if_neg (by omega), if_neg (by omega), if_neg (by omega), if_neg (by omega), if_pos (by omega)]; done) | (rw [if_neg (by omega), if_neg (by omega), if_neg (by omega), if_neg (by omega), if_neg (by omega), if_neg (by omega), if_neg (by omega), if_pos (by omega)]; done) | (rw [if_neg (by omega), if_neg (by omega), if_neg (by omega), if_neg (by omega), if_neg (by omega), if_neg (by omega), if_neg (by omega), if_neg (by omega)])), hca⟩) (by decide) (by decide)
        · -- switch
          refine z_tableIn (off := 95) (tgt := 159) ok dX7_count_64 (by omega) (by omega) (by omega) (by rw [c64]; rfl) (by decide) ?_
          refine z_aload_n ok dX7_count_159 rfl ?_
          refine z_callVi0 ok (fun l => c_X7_layStuck  (hw) (hca)) zm_X7_layStuck zv_X7_layStuck qm_RX7_140 dX7_count_160 (by decide) (by decide) rfl rfl (Nat.le_of_ble_eq_true rfl) (q0 := 0) rfl rfl rfl (fun r160 u160 hp160 => ?_)
          obtain ⟨stuck_160, sides_160, far_160, many_160, laid_160⟩ := u160
          try dsimp only at hp160
          obtain ⟨rfl, hk160, hc160⟩ := hp160
          refine z_eq (ws' := mW Z q now kept hist und sav isv pad sg it far_160 many_160 laid_160 sides_160 stuck_160 ord rd pl wr) rfl ?_
          exact fin (stkC now) (stuck_160, sides_160, far_160, many_160, laid_160) 163 _ _ _ dX7_count_163 (trivial) (⟨by unfold coR; first | (rw [if_pos c7]; done) | (rw [if_neg c7, if_pos c28, show w - 7 + 4 = w - 3 by omega]; done) | (rw [if_neg c7, if_neg c28, if_pos c50]; done) | (rw [if_neg c7, if_neg c28, if_neg c50]; first | (rw [if_pos (by omega)]; done) | (rw [if_neg (by omega), if_pos (by omega)]; done) | (rw [if_neg (by omega), if_neg (by omega), if_pos (by omega)]; done) | (rw [if_neg (by omega), if_neg (by omega), if_neg (by omega), if_pos (by omega)]; done) | (rw [if_neg (by omega), if_neg (by omega), if_neg (by omega), if_neg (by omega), if_pos (by omega)]; done) | (rw [if_neg (by omega), if_neg (by omega), if_neg (by omega), if_neg (by omega), if_neg (by omega), if_pos (by omega)]; done) | (rw [if_neg (by omega), if_neg (by omega), if_neg (by omega), if_neg (by omega), if_neg (by omega), if_neg (by omega), if_pos (by omega)]; done) | (rw [if_neg (by omega), if_neg (by omega), if_neg (by omega), if_neg (by omega), if_neg (by omega), if_neg (by omega), if_neg (by omega), if_pos (by omega)]; done) | (rw [if_neg (by omega), if_neg (by omega), if_neg (by omega), if_neg (by omega), if_neg (by omega), if_neg (by omega), if_neg (by omega), if_neg (by omega)])), hc160⟩) (by decide) (by decide)
        · -- switch
          refine z_tableIn (off := 100) (tgt := 164) ok dX7_count_64 (by omega) (by omega) (by omega) (by rw [c64]; rfl) (by decide) ?_
          refine z_aload_n ok dX7_count_164 rfl ?_
          refine z_callVi0 ok (fun l => c_X7_broken  ) zm_X7_broken zv_X7_broken qm_RX7_149 dX7_count_165 (by decide) (by decide) rfl rfl (Nat.le_of_ble_eq_true rfl) (q0 := 0) rfl rfl rfl (fun ρ _ hρ => ?_)
          subst hρ
          refine z_eq (ws' := mW Z q now kept hist und sav isv pad sg it far many laid sides stuck ord rd pl wr) rfl ?_
          exact fin (brokenOf now) (stuck, sides, far, many, laid) 168 _ _ _ dX7_count_168 (trivial) (⟨by unfold coR; first | (rw [if_pos c7]; done) | (rw [if_neg c7, if_pos c28, show w - 7 + 4 = w - 3 by omega]; done) | (rw [if_neg c7, if_neg c28, if_pos c50]; done) | (rw [if_neg c7, if_neg c28, if_neg c50]; first | (rw [if_pos (by omega)]; done) | (rw [if_neg (by omega), if_pos (by omega)]; done) | (rw [if_neg (by omega), if_neg (by omega), if_pos (by omega)]; done) | (rw [if_neg (by omega), if_neg (by omega), if_neg (by omega), if_pos (by omega)]; done) | (rw [if_neg (by omega), if_neg (by omega), if_neg (by omega), if_neg (by omega), if_pos (by omega)]; done) | (rw [if_neg (by omega), if_neg (by omega), if_neg (by omega), if_neg (by omega), if_neg (by omega), if_pos (by omega)]; done) | (rw [if_neg (by omega), if_neg (by omega), if_neg (by omega), if_neg (by omega), if_neg (by omega), if_neg (by omega), if_pos (by omega)]; done) | (rw [if_neg (by omega), if_neg (by omega), if_neg (by omega), if_neg (by omega), if_neg (by omega), if_neg (by omega), if_neg (by omega), if_pos (by omega)]; done) | (rw [if_neg (by omega), if_neg (by omega), if_neg (by omega), if_neg (by omega), if_neg (by omega), if_neg (by omega), if_neg (by omega), if_neg (by omega)])), hca⟩) (by decide) (by decide)
        · -- switch
          refine z_tableIn (off := 105) (tgt := 169) ok dX7_count_64 (by omega) (by omega) (by omega) (by rw [c64]; rfl) (by decide) ?_
          refine z_aload_n ok dX7_count_169 rfl ?_
          refine z_get (v := .int (iI sg)) ok zc7 0 rfl 7 (by decide) qf_RX7_152 rfl rfl dX7_count_170 ?_
          exact fin sg (stuck, sides, far, many, laid) 173 _ _ _ dX7_count_173 (trivial) (⟨by unfold coR; first | (rw [if_pos c7]; done) | (rw [if_neg c7, if_pos c28, show w - 7 + 4 = w - 3 by omega]; done) | (rw [if_neg c7, if_neg c28, if_pos c50]; done) | (rw [if_neg c7, if_neg c28, if_neg c50]; first | (rw [if_pos (by omega)]; done) | (rw [if_neg (by omega), if_pos (by omega)]; done) | (rw [if_neg (by omega), if_neg (by omega), if_pos (by omega)]; done) | (rw [if_neg (by omega), if_neg (by omega), if_neg (by omega), if_pos (by omega)]; done) | (rw [if_neg (by omega), if_neg (by omega), if_neg (by omega), if_neg (by omega), if_pos (by omega)]; done) | (rw [if_neg (by omega), if_neg (by omega), if_neg (by omega), if_neg (by omega), if_neg (by omega), if_pos (by omega)]; done) | (rw [if_neg (by omega), if_neg (by omega), if_neg (by omega), if_neg (by omega), if_neg (by omega), if_neg (by omega), if_pos (by omega)]; done) | (rw [if_neg (by omega), if_neg (by omega), if_neg (by omega), if_neg (by omega), if_neg (by omega), if_neg (by omega), if_neg (by omega), if_pos (by omega)]; done) | (rw [if_neg (by omega), if_neg (by omega), if_neg (by omega), if_neg (by omega), if_neg (by omega), if_neg (by omega), if_neg (by omega), if_neg (by omega)])), hca⟩) (by decide) (by decide)
      · -- f
        refine z_aload_n ok dX7_count_53 rfl ?_
        refine z_get (v := .ref (q 1)) ok zc7 0 rfl 0 (by decide) qf_RX7_7 rfl rfl dX7_count_54 ?_
        refine z_iload_n ok dX7_count_57 rfl ?_
        refine z_bipush ok dX7_count_58 (by decide) ?_
        refine z_isub ok dX7_count_60 ?_
        refine z_iald (f := now) ok 1 rfl dX7_count_61 (by omega) (by decide) ?_
        exact fin (now (w - 14)) (stuck, sides, far, many, laid) 62 _ _ _ dX7_count_62 (trivial) (⟨by unfold coR; first | (rw [if_pos c7]; done) | (rw [if_neg c7, if_pos c28, show w - 7 + 4 = w - 3 by omega]; done) | (rw [if_neg c7, if_neg c28, if_pos c50]; done) | (rw [if_neg c7, if_neg c28, if_neg c50]; first | (rw [if_pos (by omega)]; done) | (rw [if_neg (by omega), if_pos (by omega)]; done) | (rw [if_neg (by omega), if_neg (by omega), if_pos (by omega)]; done) | (rw [if_neg (by omega), if_neg (by omega), if_neg (by omega), if_pos (by omega)]; done) | (rw [if_neg (by omega), if_neg (by omega), if_neg (by omega), if_neg (by omega), if_pos (by omega)]; done) | (rw [if_neg (by omega), if_neg (by omega), if_neg (by omega), if_neg (by omega), if_neg (by omega), if_pos (by omega)]; done) | (rw [if_neg (by omega), if_neg (by omega), if_neg (by omega), if_neg (by omega), if_neg (by omega), if_neg (by omega), if_pos (by omega)]; done) | (rw [if_neg (by omega), if_neg (by omega), if_neg (by omega), if_neg (by omega), if_neg (by omega), if_neg (by omega), if_neg (by omega), if_pos (by omega)]; done) | (rw [if_neg (by omega), if_neg (by omega), if_neg (by omega), if_neg (by omega), if_neg (by omega), if_neg (by omega), if_neg (by omega), if_neg (by omega)])), hca⟩) (by decide) (by decide)
    · -- f
      refine z_aload_n ok dX7_count_31 rfl ?_
      refine z_iload_n ok dX7_count_32 rfl ?_
      refine z_bipush ok dX7_count_33 (by decide) ?_
      refine z_isub ok dX7_count_35 ?_
      refine z_iconst ok dX7_count_36 ?_
      refine z_iadd ok dX7_count_37 ?_
      refine z_callVi0 ok (fun l => c_X7_sum  (by omega) (by omega)) zm_X7_sum zv_X7_sum qm_RX7_146 dX7_count_38 (by decide) (by decide) rfl rfl (Nat.le_of_ble_eq_true rfl) (q0 := 0) rfl rfl rfl (fun ρ _ hρ => ?_)
      subst hρ
      refine z_eq (ws' := mW Z q now kept hist und sav isv pad sg it far many laid sides stuck ord rd pl wr) rfl ?_
      exact fin (sumOf now ((w - 7) + 4)) (stuck, sides, far, many, laid) 41 _ _ _ dX7_count_41 (trivial) (⟨by unfold coR; first | (rw [if_pos c7]; done) | (rw [if_neg c7, if_pos c28, show w - 7 + 4 = w - 3 by omega]; done) | (rw [if_neg c7, if_neg c28, if_pos c50]; done) | (rw [if_neg c7, if_neg c28, if_neg c50]; first | (rw [if_pos (by omega)]; done) | (rw [if_neg (by omega), if_pos (by omega)]; done) | (rw [if_neg (by omega), if_neg (by omega), if_pos (by omega)]; done) | (rw [if_neg (by omega), if_neg (by omega), if_neg (by omega), if_pos (by omega)]; done) | (rw [if_neg (by omega), if_neg (by omega), if_neg (by omega), if_neg (by omega), if_pos (by omega)]; done) | (rw [if_neg (by omega), if_neg (by omega), if_neg (by omega), if_neg (by omega), if_neg (by omega), if_pos (by omega)]; done) | (rw [if_neg (by omega), if_neg (by omega), if_neg (by omega), if_neg (by omega), if_neg (by omega), if_neg (by omega), if_pos (by omega)]; done) | (rw [if_neg (by omega), if_neg (by omega), if_neg (by omega), if_neg (by omega), if_neg (by omega), if_neg (by omega), if_neg (by omega), if_pos (by omega)]; done) | (rw [if_neg (by omega), if_neg (by omega), if_neg (by omega), if_neg (by omega), if_neg (by omega), if_neg (by omega), if_neg (by omega), if_neg (by omega)])), hca⟩) (by decide) (by decide)
  · -- f
    refine z_aload_n ok dX7_count_10 rfl ?_
    refine z_bipush ok dX7_count_11 (by decide) ?_
    refine z_iload_n ok dX7_count_13 rfl ?_
    refine z_iconst ok dX7_count_14 ?_
    refine z_isub ok dX7_count_15 ?_
    refine z_callVi0 ok (fun l => c_X7_packetsOf  (hw) (by omega) (by omega)) zm_X7_packetsOf zv_X7_packetsOf qm_RX7_143 dX7_count_16 (by decide) (by decide) rfl rfl (Nat.le_of_ble_eq_true rfl) (q0 := 0) rfl rfl rfl (fun ρ _ hρ => ?_)
    subst hρ
    refine z_eq (ws' := mW Z q now kept hist und sav isv pad sg it far many laid sides stuck ord rd pl wr) rfl ?_
    exact fin (cnt now (-6) (w - 4)) (stuck, sides, far, many, laid) 19 _ _ _ dX7_count_19 (trivial) (⟨by unfold coR; first | (rw [if_pos c7]; done) | (rw [if_neg c7, if_pos c28, show w - 7 + 4 = w - 3 by omega]; done) | (rw [if_neg c7, if_neg c28, if_pos c50]; done) | (rw [if_neg c7, if_neg c28, if_neg c50]; first | (rw [if_pos (by omega)]; done) | (rw [if_neg (by omega), if_pos (by omega)]; done) | (rw [if_neg (by omega), if_neg (by omega), if_pos (by omega)]; done) | (rw [if_neg (by omega), if_neg (by omega), if_neg (by omega), if_pos (by omega)]; done) | (rw [if_neg (by omega), if_neg (by omega), if_neg (by omega), if_neg (by omega), if_pos (by omega)]; done) | (rw [if_neg (by omega), if_neg (by omega), if_neg (by omega), if_neg (by omega), if_neg (by omega), if_pos (by omega)]; done) | (rw [if_neg (by omega), if_neg (by omega), if_neg (by omega), if_neg (by omega), if_neg (by omega), if_neg (by omega), if_pos (by omega)]; done) | (rw [if_neg (by omega), if_neg (by omega), if_neg (by omega), if_neg (by omega), if_neg (by omega), if_neg (by omega), if_neg (by omega), if_pos (by omega)]; done) | (rw [if_neg (by omega), if_neg (by omega), if_neg (by omega), if_neg (by omega), if_neg (by omega), if_neg (by omega), if_neg (by omega), if_neg (by omega)])), hca⟩) (by decide) (by decide)
