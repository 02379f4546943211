set_option maxHeartbeats 4000000 in
set_option maxRecDepth 20000 in
theorem c_X7_carry {l : Launch} {Z : zZ} {q : Nat → Nat} {now kept hist : Int → Int} {und : Int} {sav isv pad : Int → Int} {sg it : Int} {far many laid sides stuck ord : Int → Int} {rd pl wr : Int} {i : Int} (hw : wf now) (hu : 0 ≤ und ∧ und ≤ 6) (hit : it = 1) (hi : 0 ≤ i ∧ i ≤ 200) (h3 : 0 ≤ now 3 ∧ now 3 ≤ 1000000000) (hk : ord i = 115 ∨ ord i = 98 ∨ ord i = 109 ∨ ord i = 116) (ha : 0 ≤ ord (i + 1) ∧ ord (i + 1) ≤ 99) (hb : ¬ ord i = 116 → -2147483648 ≤ ord (i + 2) ∧ ord (i + 2) < 2147483648) (hca : cacheOK now laid far many) : zI (T := (Int → Int) × (Int → Int) × Int × (Int → Int) × (Int → Int) × (Int → Int) × (Int → Int)) l yX7_carry (Cond.code yX7_carry cX7_carry 4 (some .int) :: wsL_law) ({ frames := 11, cells := 0, slots := 0, locals := 266 } : Room) Z [.ref (q 0), .int (iI i)] (mW Z q now kept hist und sav isv pad sg it far many laid sides stuck ord rd pl wr) (fun u => mW Z q u.1 kept u.2.1 u.2.2.1 sav isv pad sg it u.2.2.2.1 u.2.2.2.2.1 u.2.2.2.2.2.1 u.2.2.2.2.2.2 stuck ord rd pl wr) (fun ρ u => ρ = ordR now (ord i) (ord (i + 1)) (ord (i + 2)) ∧ u.1 = ordM now (ord i) (ord (i + 1)) (ord (i + 2)) ∧ u.2.1 = hist ∧ u.2.2.1 = und ∧ cacheOK u.1 u.2.2.2.2.2.1 u.2.2.2.1 u.2.2.2.2.1) := by
  refine zI_of (C := RX7) (by decide +kernel) rfl (Nat.le_of_ble_eq_true rfl) (fun _ => True) znI (fun X ok fin => ?_)
  have hrh : recH it und hist now = hist := by unfold recH; rw [if_neg (by omega)]
  have hru : recU it und = und := by unfold recU; rw [if_neg (by omega)]
  refine z_lsub ok (lv' := [(0, .ref (q 0)), (1, .int (iI i))]) [0, 1] rfl ?_
  refine z_aload_n ok dX7_carry_0 rfl ?_
  refine z_get (v := .ref (q 12)) ok zc7 0 rfl 14 (by decide) qf_RX7_44 rfl rfl dX7_carry_1 ?_
  refine z_iload_n ok dX7_carry_4 rfl ?_
  refine z_iconst ok dX7_carry_5 ?_
  refine z_iadd ok dX7_carry_6 ?_
  refine z_iald (f := ord) ok 12 rfl dX7_carry_7 (by omega) (by decide) ?_
  refine z_istore_n (lv' := [(2, .int (iI (ord (i + 1)))), (0, .ref (q 0)), (1, .int (iI i))]) ok dX7_carry_8 (by decide) rfl ?_
  refine z_aload_n ok dX7_carry_9 rfl ?_
  refine z_get (v := .ref (q 12)) ok zc7 0 rfl 14 (by decide) qf_RX7_44 rfl rfl dX7_carry_10 ?_
  refine z_iload_n ok dX7_carry_13 rfl ?_
  refine z_iconst ok dX7_carry_14 ?_
  refine z_iadd ok dX7_carry_15 ?_
  refine z_iald (f := ord) ok 12 rfl dX7_carry_16 (by omega) (by decide) ?_
  refine z_istore_n (lv' := [(3, .int (iI (ord (i + 2)))), (2, .int (iI (ord (i + 1)))), (0, .ref (q 0)), (1, .int (iI i))]) ok dX7_carry_17 (by decide) rfl ?_
  refine z_aload_n ok dX7_carry_18 rfl ?_
  refine z_get (v := .ref (q 12)) ok zc7 0 rfl 14 (by decide) qf_RX7_44 rfl rfl dX7_carry_19 ?_
  refine z_iload_n ok dX7_carry_22 rfl ?_
  refine z_iald (f := ord) ok 12 rfl dX7_carry_23 (by omega) (by decide) ?_
  rcases (show ((ord i) ≠ 98 ∧ (ord i) ≠ 109 ∧ (ord i) ≠ 115) ∨ (ord i) = 98 ∨ (ord i) = 109 ∨ (ord i) = 115 by omega) with c24 | c24 | c24 | c24
  · -- switch
    refine z_lookup (off := 59) (tgt := 83) ok dX7_carry_24 (by omega) (by decide) (zlk_no (by simp; omega)) (by decide) ?_
    refine z_aload_n ok dX7_carry_83 rfl ?_
    refine z_iload_n ok dX7_carry_84 rfl ?_
    refine z_callVi0 ok (fun l => c_X7_ticks  (hw) (hu) (by omega) (by omega) (hca)) zm_X7_ticks zv_X7_ticks qm_RX7_196 dX7_carry_85 (by decide) (by decide) rfl rfl (Nat.le_of_ble_eq_true rfl) (q0 := 0) rfl rfl rfl (fun r85 u85 hp85 => ?_)
    obtain ⟨now_85, hist_85, und_85, far_85, many_85, laid_85, sides_85⟩ := u85
    try dsimp only at hp85
    refine z_eq (ws' := mW Z q now_85 kept hist_85 und_85 sav isv pad sg it far_85 many_85 laid_85 sides_85 stuck ord rd pl wr) rfl ?_
    obtain ⟨y1, y2⟩ := hp85
    exact fin r85 (now_85, hist_85, und_85, far_85, many_85, laid_85, sides_85) 88 _ _ _ dX7_carry_88 (trivial) (by unfold ordR ordM; rw [if_neg (by omega), if_neg (by omega), if_neg (by omega), if_neg (by omega), if_neg (by omega), if_neg (by omega)]; rcases y2 with ⟨z1, z2, z3, z4, z5⟩ | ⟨z1, z2, z3, z4, z5⟩; (unfold tckR tckM; rw [zif_f z1, zff_f z1]; exact ⟨z2, z3, z4, z5, y1⟩); (unfold tckR tckM; rw [zif_t z1, zff_t z1]; exact ⟨z2, z3, z4.trans hrh, z5.trans hru, y1⟩)) (by decide) (by decide)
  · -- switch
    refine z_lookup (off := 43) (tgt := 67) ok dX7_carry_24 (by omega) (by decide) (by rw [c24]; rfl) (by decide) ?_
    refine z_aload_n ok dX7_carry_67 rfl ?_
    refine z_iload_n ok dX7_carry_68 rfl ?_
    refine z_iload_n ok dX7_carry_69 rfl ?_
    refine z_iconst ok dX7_carry_70 ?_
    refine z_callVi0 ok (fun l => c_X7_link  (hw) (hu) (by omega) (by omega) (hb (by omega)) (by omega)) zm_X7_link zv_X7_link qm_RX7_193 dX7_carry_71 (by decide) (by decide) rfl rfl (Nat.le_of_ble_eq_true rfl) (q0 := 0) rfl rfl rfl (fun r71 u71 hp71 => ?_)
    obtain ⟨now_71, hist_71, und_71, laid_71⟩ := u71
    try dsimp only at hp71
    refine z_eq (ws' := mW Z q now_71 kept hist_71 und_71 sav isv pad sg it far many laid_71 sides stuck ord rd pl wr) rfl ?_
    exact fin r71 (now_71, hist_71, und_71, far, many, laid_71, sides) 74 _ _ _ dX7_carry_74 (trivial) (by unfold ordR ordM; rw [if_neg (by omega), if_pos c24, if_neg (by omega), if_pos c24]; rcases hp71 with ⟨z1, z2, z3⟩ | ⟨z1, z2, z3, z4⟩ | ⟨z1, z2, z3, z4⟩; (cases z3; unfold lnkR lnkM lnkQ; rw [zif_f (fun z => z.1 z1), zif_t z1, zff_f (fun z => z.1 z1)]; exact ⟨z2, rfl, rfl, rfl, hca⟩); (cases z4; unfold lnkR lnkM lnkQ; rw [zif_f (fun z => z2 z.2), zif_f z1, zff_f (fun z => z2 z.2)]; exact ⟨z3, rfl, rfl, rfl, hca⟩); (cases z4; unfold lnkR lnkM lnkQ; rw [zif_t ⟨z1, z2⟩, zff_t ⟨z1, z2⟩]; exact ⟨z3, rfl, hrh, hru, cache_forget⟩)) (by decide) (by decide)
  · -- switch
    refine z_lookup (off := 51) (tgt := 75) ok dX7_carry_24 (by omega) (by decide) (by rw [c24]; rfl) (by decide) ?_
    refine z_aload_n ok dX7_carry_75 rfl ?_
    refine z_iload_n ok dX7_carry_76 rfl ?_
    refine z_iload_n ok dX7_carry_77 rfl ?_
    refine z_iconst ok dX7_carry_78 ?_
    refine z_callVi0 ok (fun l => c_X7_link  (hw) (hu) (by omega) (by omega) (hb (by omega)) (by omega)) zm_X7_link zv_X7_link qm_RX7_193 dX7_carry_79 (by decide) (by decide) rfl rfl (Nat.le_of_ble_eq_true rfl) (q0 := 0) rfl rfl rfl (fun r79 u79 hp79 => ?_)
    obtain ⟨now_79, hist_79, und_79, laid_79⟩ := u79
    try dsimp only at hp79
    refine z_eq (ws' := mW Z q now_79 kept hist_79 und_79 sav isv pad sg it far many laid_79 sides stuck ord rd pl wr) rfl ?_
    exact fin r79 (now_79, hist_79, und_79, far, many, laid_79, sides) 82 _ _ _ dX7_carry_82 (trivial) (by unfold ordR ordM; rw [if_neg (by omega), if_neg (by omega), if_pos c24, if_neg (by omega), if_neg (by omega), if_pos c24]; rcases hp79 with ⟨z1, z2, z3⟩ | ⟨z1, z2, z3, z4⟩ | ⟨z1, z2, z3, z4⟩; (cases z3; unfold lnkR lnkM lnkQ; rw [zif_f (fun z => z.1 z1), zif_t z1, zff_f (fun z => z.1 z1)]; exact ⟨z2, rfl, rfl, rfl, hca⟩); (cases z4; unfold lnkR lnkM lnkQ; rw [zif_f (fun z => z2 z.2), zif_f z1, zff_f (fun z => z2 z.2)]; exact ⟨z3, rfl, rfl, rfl, hca⟩); (cases z4; unfold lnkR lnkM lnkQ; rw [zif_t ⟨z1, z2⟩, zff_t ⟨z1, z2⟩]; exact ⟨z3, rfl, hrh, hru, cache_forget⟩)) (by decide) (by decide)
  · -- switch
    refine z_lookup (off := 36) (tgt := 60) ok dX7_carry_24 (by omega) (by decide) (by rw [c24]; rfl) (by decide) ?_
    refine z_aload_n ok dX7_carry_60 rfl ?_
    refine z_iload_n ok dX7_carry_61 rfl ?_
    refine z_iload_n ok dX7_carry_62 rfl ?_
    refine z_callVi0 ok (fun l => c_X7_send  (hw) (hu) (by omega) (by omega) (hb (by omega)) (hca)) zm_X7_send zv_X7_send qm_RX7_190 dX7_carry_63 (by decide) (by decide) rfl rfl (Nat.le_of_ble_eq_true rfl) (q0 := 0) rfl rfl rfl (fun r63 u63 hp63 => ?_)
    obtain ⟨now_63, hist_63, und_63, far_63, many_63, laid_63⟩ := u63
    try dsimp only at hp63
    refine z_eq (ws' := mW Z q now_63 kept hist_63 und_63 sav isv pad sg it far_63 many_63 laid_63 sides stuck ord rd pl wr) rfl ?_
    obtain ⟨y1, y2⟩ := hp63
    exact fin r63 (now_63, hist_63, und_63, far_63, many_63, laid_63, sides) 66 _ _ _ dX7_carry_66 (trivial) (by unfold ordR ordM; rw [if_pos c24, if_pos c24]; rcases y2 with ⟨z1, z2, z3, z4, z5⟩ | ⟨z1, z2, z3, z4, z5⟩; (unfold sndR sndM; rw [zif_f z1, zff_f z1]; exact ⟨z2, z3, z4, z5, y1⟩); (unfold sndR sndM; rw [zif_t z1, zff_t z1]; exact ⟨z2, z3, z4.trans hrh, z5.trans hru, y1⟩)) (by decide) (by decide)
