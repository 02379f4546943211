/-! the law: its own calls; an act -/
theorem l_isSent {X : zX} {Z : zZ} {R : Room} {cc : ByteArray} {own : String} {nL k n : Nat} {wa wb : va_W} {ad : zAd} {N : Int → Int} {h : zHd} {pc idx : Nat} {lv : List (Nat × Value)} {rest : List Value} {B f t : Int} (ok : zOK X Z R cc own nL) (hI : obI N h) (hV : INV B N) (hB : B ≤ 1000) (hf : isB N f) (ht : isB N t) (hlk : Cond.methodLink own idx yL_isSent ∈ wsL_law) (d : decode cc pc = .ok (.invokestatic idx, 3)) (hR : 8 + 1 ≤ R.frames ∧ 8 + (6 + 11) + 190 ≤ R.locals) (hc : k + 0 ≤ R.cells ∧ n + 0 ≤ R.slots) (hcat : (rest.map fun v => v.category).sum ≤ 8) (hk : ∀ (N' : Int → Int) (h' : zHd), obI N' h' → INV B N' → zV X k n (wa ++ (obW Z ad N' h' ++ wb)) (pc + 3) lv (.int (iI 1) :: rest)) : zV X k n (wa ++ (obW Z ad N h ++ wb)) pc lv (.int (iI t) :: .int (iI f) :: .ref (obX ad) :: rest) := by
  refine z_callSi ok (fun l => c_L_isSent hI hV hB hf ht) zm_L_isSent qt_L_isSent hlk d hR hc rfl rfl hcat (List.perm_append_comm_assoc wa (obW Z ad N h) wb) (fun ρ u hp => ?_)
  obtain ⟨M, g⟩ := u
  obtain ⟨rfl, hI2, p1⟩ := hp
  exact z_perm (List.perm_append_comm_assoc (obW Z ad M g) wa wb) (hk M g hI2 p1)
theorem l_isLink {X : zX} {Z : zZ} {R : Room} {cc : ByteArray} {own : String} {nL k n : Nat} {wa wb : va_W} {ad : zAd} {N : Int → Int} {h : zHd} {pc idx : Nat} {lv : List (Nat × Value)} {rest : List Value} {B b dd w : Int} (ok : zOK X Z R cc own nL) (hI : obI N h) (hV : INV B N) (hB : B ≤ 1000) (hb : isB N b) (hd : 0 ≤ dd ∧ dd ≤ 3) (hww : 0 ≤ w ∧ w ≤ 1) (hlk : Cond.methodLink own idx yL_isLink ∈ wsL_law) (d : decode cc pc = .ok (.invokestatic idx, 3)) (hR : 7 + 1 ≤ R.frames ∧ 8 + (8 + 11) + 171 ≤ R.locals) (hc : k + 0 ≤ R.cells ∧ n + 0 ≤ R.slots) (hcat : (rest.map fun v => v.category).sum ≤ 8) (hk : ∀ (N' : Int → Int) (h' : zHd), obI N' h' → (INV B N' ∧ N' 6 = N 6 ∧ N' 4 = N 4 ∧ N' 5 = N 5) → zV X k n (wa ++ (obW Z ad N' h' ++ wb)) (pc + 3) lv (.int (iI 1) :: rest)) : zV X k n (wa ++ (obW Z ad N h ++ wb)) pc lv (.int (iI w) :: .int (iI dd) :: .int (iI b) :: .ref (obX ad) :: rest) := by
  refine z_callSi ok (fun l => c_L_isLink hI hV hB hb hd hww) zm_L_isLink qt_L_isLink hlk d hR hc rfl rfl hcat (List.perm_append_comm_assoc wa (obW Z ad N h) wb) (fun ρ u hp => ?_)
  obtain ⟨M, g⟩ := u
  obtain ⟨rfl, hI2, p1, p2, p3, p4⟩ := hp
  exact z_perm (List.perm_append_comm_assoc (obW Z ad M g) wa wb) (hk M g hI2 ⟨p1, p2, p3, p4⟩)
theorem l_isTick {X : zX} {Z : zZ} {R : Room} {cc : ByteArray} {own : String} {nL k n : Nat} {wa wb : va_W} {ad : zAd} {N : Int → Int} {h : zHd} {pc idx : Nat} {lv : List (Nat × Value)} {rest : List Value} {B : Int} (ok : zOK X Z R cc own nL) (hI : obI N h) (hV : INV B N) (hB : B ≤ 1000) (hlk : Cond.methodLink own idx yL_isTick ∈ wsL_law) (d : decode cc pc = .ok (.invokestatic idx, 3)) (hR : 9 + 1 ≤ R.frames ∧ 8 + (16 + 11) + 216 ≤ R.locals) (hc : k + 6 ≤ R.cells ∧ n + 225 ≤ R.slots) (hcat : (rest.map fun v => v.category).sum ≤ 8) (hk : ∀ (N' : Int → Int) (h' : zHd), obI N' h' → INV (B + 1) N' → zV X (k + 6) (n + 225) (wa ++ (obW Z ad N' h' ++ wb)) (pc + 3) lv (.int (iI 1) :: rest)) : zV X k n (wa ++ (obW Z ad N h ++ wb)) pc lv (.ref (obX ad) :: rest) := by
  refine z_callSi ok (fun l => c_L_isTick hI hV hB) zm_L_isTick qt_L_isTick hlk d hR hc rfl rfl hcat (List.perm_append_comm_assoc wa (obW Z ad N h) wb) (fun ρ u hp => ?_)
  obtain ⟨M, g⟩ := u
  obtain ⟨rfl, hI2, p1⟩ := hp
  exact z_perm (List.perm_append_comm_assoc (obW Z ad M g) wa wb) (hk M g hI2 p1)
theorem l_isAlone {X : zX} {Z : zZ} {R : Room} {cc : ByteArray} {own : String} {nL k n : Nat} {wa wb : va_W} {ad : zAd} {N : Int → Int} {h : zHd} {pc idx : Nat} {lv : List (Nat × Value)} {rest : List Value} {bs L : Nat} {xs : Nat → Int32} {B f t : Int} (ok : zOK X Z R cc own nL) (hnx : zNX X) (hsc : zSC X bs L xs) (hI : obI N h) (hV : INV B N) (hf : isB N f) (ht : isB N t) (hlk : Cond.methodLink own idx yL_isAlone ∈ wsL_law) (d : decode cc pc = .ok (.invokestatic idx, 3)) (hR : 9 + 1 ≤ R.frames ∧ 8 + (11 + 11) + 216 ≤ R.locals) (hc : k + 181 ≤ R.cells ∧ n + 8621 ≤ R.slots) (hcat : (rest.map fun v => v.category).sum ≤ 8) (hk : ∀ (h' : zHd), obI N h' → zV X (k + 181) (n + 8621) (wa ++ (obW Z ad N h' ++ wb)) (pc + 3) lv (.int (iI 1) :: rest)) : zV X k n (wa ++ (obW Z ad N h ++ wb)) pc lv (.int (iI t) :: .int (iI f) :: .ref (obX ad) :: rest) := by
  refine z_callSj ok hnx hsc (fun l => c_L_isAlone hI hV hf ht) zm_L_isAlone qt_L_isAlone hlk d hR hc rfl rfl hcat (List.perm_append_comm_assoc wa (obW Z ad N h) wb) (fun ρ u hp => ?_)
  obtain ⟨rfl, hI2⟩ := hp
  exact z_perm (List.perm_append_comm_assoc (obW Z ad N u) wa wb) (hk u hI2)
theorem l_agree {X : zX} {Z : zZ} {R : Room} {cc : ByteArray} {own : String} {nL k n : Nat} {wa wb : va_W} {ad : zAd} {N : Int → Int} {h : zHd} {pc idx : Nat} {lv : List (Nat × Value)} {rest : List Value} {B : Int} (ok : zOK X Z R cc own nL) (hI : obI N h) (hV : INV B N) (hB : B ≤ 1000) (hlk : Cond.methodLink own idx yL_agree ∈ wsL_law) (d : decode cc pc = .ok (.invokestatic idx, 3)) (hR : 9 + 1 ≤ R.frames ∧ 8 + (14 + 11) + 216 ≤ R.locals) (hc : k + 3 ≤ R.cells ∧ n + 75 ≤ R.slots) (hcat : (rest.map fun v => v.category).sum ≤ 8) (hk : ∀ (h' : zHd), obI N h' → zV X (k + 3) (n + 75) (wa ++ (obW Z ad N h' ++ wb)) (pc + 3) lv (.int (iI 1) :: rest)) : zV X k n (wa ++ (obW Z ad N h ++ wb)) pc lv (.ref (obX ad) :: rest) := by
  refine z_callSi ok (fun l => c_L_agree hI hV hB) zm_L_agree qt_L_agree hlk d hR hc rfl rfl hcat (List.perm_append_comm_assoc wa (obW Z ad N h) wb) (fun ρ u hp => ?_)
  obtain ⟨rfl, hI2⟩ := hp
  exact z_perm (List.perm_append_comm_assoc (obW Z ad N u) wa wb) (hk u hI2)
theorem l_cell {X : zX} {Z : zZ} {R : Room} {cc : ByteArray} {own : String} {nL k n : Nat} {ws : va_W} {pc idx : Nat} {lv : List (Nat × Value)} {rest : List Value} {bs L : Nat} {xs : Nat → Int32} {k0 n0 : Int} (ok : zOK X Z R cc own nL) (hnx : zNX X) (hsc : zSC X bs L xs) (hk : 0 ≤ k0 ∧ k0 ≤ 100000) (hn : 0 < n0 ∧ n0 ≤ 1000000) (hlk : Cond.methodLink own idx yL_cell ∈ wsL_law) (d : decode cc pc = .ok (.invokestatic idx, 3)) (hR : 0 + 1 ≤ R.frames ∧ 8 + (3 + 11) + 0 ≤ R.locals) (hc : k ≤ R.cells ∧ n ≤ R.slots) (hcat : (rest.map fun v => v.category).sum ≤ 8) (h : ∀ v : Int, 0 ≤ v → v < n0 → zV X k n ws (pc + 3) lv (.int (iI v) :: rest)) : zV X k n ws pc lv (.int (iI n0) :: .int (iI k0) :: .ref bs :: rest) :=
  z_callSj ok hnx hsc (wr := ws) (fun l => c_L_cell hk hn) zm_L_cell qt_L_cell hlk d hR hc rfl rfl hcat (List.Perm.refl ws) (fun ρ u hp => h ρ hp.1 hp.2)
set_option maxRecDepth 20000 in
theorem c_L_isAct {l : Launch} {Z : zZ} {bs L : Nat} {xs : Nat → Int32} {ad : zAd} {N : Int → Int} {h : zHd} {B at_ : Int} (hI : obI N h) (hV : INV B N) (hB : B ≤ 999) (hat : 0 ≤ at_ ∧ at_ ≤ 1000) : zJ (T := (Int → Int) × zHd) l yL_isAct (Cond.code yL_isAct cL_isAct 7 (some .boolean) :: wsL_law) ({ frames := 10, cells := 181, slots := 8621, locals := 251 } : Room) Z bs L xs [.ref (obX ad), .ref bs, .int (iI at_)] (obW Z ad N h) (fun u => obW Z ad u.1 u.2) (fun ρ u => ρ = 1 ∧ obI u.1 u.2 ∧ INV (B + 1) u.1) := by
  refine zJ_of (C := RL) (by decide +kernel) rfl (Nat.le_of_ble_eq_true rfl) (fun ρ => ρ = 0 ∨ ρ = 1) znZ (fun X ok hnx hsc fin => ?_)
  have hw := hV.1.1
  have hcr := wf_cr hw
  have hw0 := hw.1
  have hw1 := hw.2.1
  have hw2 := hw.2.2.1
  refine z_lsub ok (lv' := [(0, .ref (obX ad)), (1, .ref bs), (2, .int (iI at_))]) [0, 1, 2] rfl ?_
  refine z_eq (ws' := ([] : va_W) ++ (obW Z ad N h ++ ([] : va_W))) o_in ?_
  refine z_aload_n ok dL_isAct_0 rfl ?_
  refine z_iload_n ok dL_isAct_1 rfl ?_
  refine z_iconst ok dL_isAct_2 ?_
  refine z_iadd ok dL_isAct_3 ?_
  refine z_aload_n ok dL_isAct_4 rfl ?_
  refine z_iconst ok dL_isAct_5 ?_
  refine o_count (v := N 4 * N 5) ok hI hw (by decide) (v_c1) qm_RL_8 dL_isAct_6 (by decide) ⟨by decide, by decide⟩ (Nat.le_of_ble_eq_true rfl) (fun h1 h1I => ?_)
  refine l_cell ok hnx hsc (by omega) (by omega) qm_RL_60 dL_isAct_9 (by decide) ⟨by decide, by decide⟩ (Nat.le_of_ble_eq_true rfl) (fun v2 v2l v2u => ?_)
  refine z_istore_n (lv' := [(3, .int (iI v2)), (0, .ref (obX ad)), (1, .ref bs), (2, .int (iI at_))]) ok dL_isAct_12 (by decide) rfl ?_
  refine z_aload_n ok dL_isAct_13 rfl ?_
  refine z_iload_n ok dL_isAct_14 rfl ?_
  refine z_iconst ok dL_isAct_15 ?_
  refine z_iadd ok dL_isAct_16 ?_
  refine z_aload_n ok dL_isAct_17 rfl ?_
  refine z_iconst ok dL_isAct_18 ?_
  refine o_count (v := N 4 * N 5) ok h1I hw (by decide) (v_c1) qm_RL_8 dL_isAct_19 (by decide) ⟨by decide, by decide⟩ (Nat.le_of_ble_eq_true rfl) (fun h3 h3I => ?_)
  refine l_cell ok hnx hsc (by omega) (by omega) qm_RL_60 dL_isAct_22 (by decide) ⟨by decide, by decide⟩ (Nat.le_of_ble_eq_true rfl) (fun v4 v4l v4u => ?_)
  refine z_istore (lv' := [(4, .int (iI v4)), (3, .int (iI v2)), (0, .ref (obX ad)), (1, .ref bs), (2, .int (iI at_))]) ok dL_isAct_25 (by decide) rfl ?_
  refine z_aload_n ok dL_isAct_27 rfl ?_
  refine z_iload_n ok dL_isAct_28 rfl ?_
  refine z_bipush ok dL_isAct_29 (by decide) ?_
  refine l_cell ok hnx hsc (by omega) (by decide) qm_RL_60 dL_isAct_31 (by decide) ⟨by decide, by decide⟩ (Nat.le_of_ble_eq_true rfl) (fun v5 v5l v5u => ?_)
  have hb1 : isB N v2 := by unfold isB; omega
  have hb2 : isB N v4 := by unfold isB; omega
  rcases (show v5 < 0 ∨ 6 < v5 ∨ v5 = 0 ∨ v5 = 1 ∨ v5 = 2 ∨ v5 = 3 ∨ v5 = 4 ∨ v5 = 5 ∨ v5 = 6 by omega) with c34 | c34 | c34 | c34 | c34 | c34 | c34 | c34 | c34
  · -- switch
    omega
  · -- switch
    refine z_tableOut (tgt := 201) ok dL_isAct_34 (by omega) (by omega) (by decide) ?_
    refine z_aload_n ok dL_isAct_201 rfl ?_
    refine l_isTick ok h3I hV (by omega) qm_RL_75 dL_isAct_202 (by decide) ⟨by decide, by decide⟩ (Nat.le_of_ble_eq_true rfl) (fun M7 h6 h6I h6V => ?_)
    refine z_eq (ws' := obW Z ad M7 h6) (List.append_nil _) ?_
    exact fin 1 (M7, h6) 205 _ _ _ dL_isAct_205 (by decide) ⟨rfl, h6I, h6V⟩ (by decide) (by decide)
  · -- switch
    refine z_tableIn (off := 42) (tgt := 76) ok dL_isAct_34 (by omega) (by omega) (by omega) (by rw [c34]; rfl) (by decide) ?_
    refine z_aload_n ok dL_isAct_76 rfl ?_
    refine z_iload_n ok dL_isAct_77 rfl ?_
    refine z_iload ok dL_isAct_78 rfl ?_
    refine l_isSent ok h3I hV (by omega) hb1 hb2 qm_RL_64 dL_isAct_80 (by decide) ⟨by decide, by decide⟩ (Nat.le_of_ble_eq_true rfl) (fun M9 h8 h8I h8V => ?_)
    refine z_eq (ws' := obW Z ad M9 h8) (List.append_nil _) ?_
    exact fin 1 (M9, h8) 83 _ _ _ dL_isAct_83 (by decide) ⟨rfl, h8I, INV_le h8V (by omega)⟩ (by decide) (by decide)
  · -- switch
    refine z_tableIn (off := 42) (tgt := 76) ok dL_isAct_34 (by omega) (by omega) (by omega) (by rw [c34]; rfl) (by decide) ?_
    refine z_aload_n ok dL_isAct_76 rfl ?_
    refine z_iload_n ok dL_isAct_77 rfl ?_
    refine z_iload ok dL_isAct_78 rfl ?_
    refine l_isSent ok h3I hV (by omega) hb1 hb2 qm_RL_64 dL_isAct_80 (by decide) ⟨by decide, by decide⟩ (Nat.le_of_ble_eq_true rfl) (fun M11 h10 h10I h10V => ?_)
    refine z_eq (ws' := obW Z ad M11 h10) (List.append_nil _) ?_
    exact fin 1 (M11, h10) 83 _ _ _ dL_isAct_83 (by decide) ⟨rfl, h10I, INV_le h10V (by omega)⟩ (by decide) (by decide)
  · -- switch
    refine z_tableIn (off := 42) (tgt := 76) ok dL_isAct_34 (by omega) (by omega) (by omega) (by rw [c34]; rfl) (by decide) ?_
    refine z_aload_n ok dL_isAct_76 rfl ?_
    refine z_iload_n ok dL_isAct_77 rfl ?_
    refine z_iload ok dL_isAct_78 rfl ?_
    refine l_isSent ok h3I hV (by omega) hb1 hb2 qm_RL_64 dL_isAct_80 (by decide) ⟨by decide, by decide⟩ (Nat.le_of_ble_eq_true rfl) (fun M13 h12 h12I h12V => ?_)
    refine z_eq (ws' := obW Z ad M13 h12) (List.append_nil _) ?_
    exact fin 1 (M13, h12) 83 _ _ _ dL_isAct_83 (by decide) ⟨rfl, h12I, INV_le h12V (by omega)⟩ (by decide) (by decide)
  · -- switch
    refine z_tableIn (off := 42) (tgt := 76) ok dL_isAct_34 (by omega) (by omega) (by omega) (by rw [c34]; rfl) (by decide) ?_
    refine z_aload_n ok dL_isAct_76 rfl ?_
    refine z_iload_n ok dL_isAct_77 rfl ?_
    refine z_iload ok dL_isAct_78 rfl ?_
    refine l_isSent ok h3I hV (by omega) hb1 hb2 qm_RL_64 dL_isAct_80 (by decide) ⟨by decide, by decide⟩ (Nat.le_of_ble_eq_true rfl) (fun M15 h14 h14I h14V => ?_)
    refine z_eq (ws' := obW Z ad M15 h14) (List.append_nil _) ?_
    exact fin 1 (M15, h14) 83 _ _ _ dL_isAct_83 (by decide) ⟨rfl, h14I, INV_le h14V (by omega)⟩ (by decide) (by decide)
  · -- switch
    refine z_tableIn (off := 50) (tgt := 84) ok dL_isAct_34 (by omega) (by omega) (by omega) (by rw [c34]; rfl) (by decide) ?_
    refine z_aload_n ok dL_isAct_84 rfl ?_
    refine z_iload_n ok dL_isAct_85 rfl ?_
    refine z_aload_n ok dL_isAct_86 rfl ?_
    refine z_iload_n ok dL_isAct_87 rfl ?_
    refine z_iconst ok dL_isAct_88 ?_
    refine z_iadd ok dL_isAct_89 ?_
    refine z_iconst ok dL_isAct_90 ?_
    refine l_cell ok hnx hsc (by omega) (by decide) qm_RL_60 dL_isAct_91 (by decide) ⟨by decide, by decide⟩ (Nat.le_of_ble_eq_true rfl) (fun v16 v16l v16u => ?_)
    refine z_aload_n ok dL_isAct_94 rfl ?_
    refine z_iload_n ok dL_isAct_95 rfl ?_
    refine z_iconst ok dL_isAct_96 ?_
    refine z_iadd ok dL_isAct_97 ?_
    refine z_iconst ok dL_isAct_98 ?_
    refine l_cell ok hnx hsc (by omega) (by decide) qm_RL_60 dL_isAct_99 (by decide) ⟨by decide, by decide⟩ (Nat.le_of_ble_eq_true rfl) (fun v17 v17l v17u => ?_)
    refine z_if_ne (tgt := 109) ok dL_isAct_102 (by decide) (by omega) (fun c102 => ?_) (fun c102 => ?_)
    · -- t
      refine z_iconst ok dL_isAct_109 ?_
      refine l_isLink ok h3I hV (by omega) hb1 (by omega) (by omega) qm_RL_68 dL_isAct_110 (by decide) ⟨by decide, by decide⟩ (Nat.le_of_ble_eq_true rfl) (fun M19 h18 h18I h18V => ?_)
      refine z_eq (ws' := obW Z ad M19 h18) (List.append_nil _) ?_
      exact fin 1 (M19, h18) 113 _ _ _ dL_isAct_113 (by decide) ⟨rfl, h18I, INV_le h18V.1 (by omega)⟩ (by decide) (by decide)
    · -- f
      refine z_iconst ok dL_isAct_105 ?_
      refine z_goto (tgt := 110) ok dL_isAct_106 (by decide) ?_
      refine l_isLink ok h3I hV (by omega) hb1 (by omega) (by omega) qm_RL_68 dL_isAct_110 (by decide) ⟨by decide, by decide⟩ (Nat.le_of_ble_eq_true rfl) (fun M21 h20 h20I h20V => ?_)
      refine z_eq (ws' := obW Z ad M21 h20) (List.append_nil _) ?_
      exact fin 1 (M21, h20) 113 _ _ _ dL_isAct_113 (by decide) ⟨rfl, h20I, INV_le h20V.1 (by omega)⟩ (by decide) (by decide)
  · -- switch
    refine z_tableIn (off := 80) (tgt := 114) ok dL_isAct_34 (by omega) (by omega) (by omega) (by rw [c34]; rfl) (by decide) ?_
    refine z_aload_n ok dL_isAct_114 rfl ?_
    refine z_iload_n ok dL_isAct_115 rfl ?_
    refine z_iload ok dL_isAct_116 rfl ?_
    refine l_isAlone ok hnx hsc h3I hV hb1 hb2 qm_RL_72 dL_isAct_118 (by decide) ⟨by decide, by decide⟩ (Nat.le_of_ble_eq_true rfl) (fun h22 h22I => ?_)
    refine z_eq (ws' := obW Z ad N h22) (List.append_nil _) ?_
    exact fin 1 (N, h22) 121 _ _ _ dL_isAct_121 (by decide) ⟨rfl, h22I, INV_le hV (by omega)⟩ (by decide) (by decide)
  · -- switch
    refine z_tableIn (off := 88) (tgt := 122) ok dL_isAct_34 (by omega) (by omega) (by omega) (by rw [c34]; rfl) (by decide) ?_
    refine z_aload_n ok dL_isAct_122 rfl ?_
    refine z_iload_n ok dL_isAct_123 rfl ?_
    refine z_iconst ok dL_isAct_124 ?_
    refine z_iadd ok dL_isAct_125 ?_
    refine z_iconst ok dL_isAct_126 ?_
    refine l_cell ok hnx hsc (by omega) (by decide) qm_RL_60 dL_isAct_127 (by decide) ⟨by decide, by decide⟩ (Nat.le_of_ble_eq_true rfl) (fun v23 v23l v23u => ?_)
    refine z_istore (lv' := [(5, .int (iI v23)), (4, .int (iI v4)), (3, .int (iI v2)), (0, .ref (obX ad)), (1, .ref bs), (2, .int (iI at_))]) ok dL_isAct_130 (by decide) rfl ?_
    rcases (show v23 = 0 ∨ v23 = 1 ∨ v23 = 2 by omega) with rfl | rfl | rfl
    · -- setting
      refine z_iload ok dL_isAct_132 rfl ?_
      refine z_iconst ok dL_isAct_134 ?_
      refine z_icmp_ne (tgt := 151) ok dL_isAct_135 (by decide) (by decide) (by decide) (fun c135 => ?_) (fun c => absurd c (by decide))
      refine z_aload_n ok dL_isAct_151 rfl ?_
      refine z_iload_n ok dL_isAct_152 rfl ?_
      refine z_iconst ok dL_isAct_153 ?_
      refine z_iadd ok dL_isAct_154 ?_
      refine z_iload ok dL_isAct_155 rfl ?_
      refine z_if_ne (tgt := 164) ok dL_isAct_157 (by decide) (by decide) (fun c => absurd c (by decide)) (fun c157 => ?_)
      refine z_iconst ok dL_isAct_160 ?_
      refine z_goto (tgt := 165) ok dL_isAct_161 (by decide) ?_
      refine l_cell ok hnx hsc (by omega) (by decide) qm_RL_60 dL_isAct_165 (by decide) ⟨by decide, by decide⟩ (Nat.le_of_ble_eq_true rfl) (fun v24 v24l v24u => ?_)
      refine z_istore (lv' := [(6, .int (iI v24)), (5, .int (iI 0)), (4, .int (iI v4)), (3, .int (iI v2)), (0, .ref (obX ad)), (1, .ref bs), (2, .int (iI at_))]) ok dL_isAct_168 (by decide) rfl ?_
      refine z_aload_n ok dL_isAct_170 rfl ?_
      refine z_iload ok dL_isAct_171 rfl ?_
      refine z_iload ok dL_isAct_173 rfl ?_
      refine o_set ok h3I hw (by decide) (by omega) qm_RL_37 dL_isAct_175 (by decide) ⟨by decide, by decide⟩ (Nat.le_of_ble_eq_true rfl) (fun r27 N26 h25 h25I h25c => ?_)
      have os : okS 0 v24 := by unfold okS; omega
      obtain ⟨q2, q3⟩ : r27 = N 0 ∧ N26 = zu N 0 v24 := by rcases h25c with ⟨a, _, _⟩ | ⟨_, a, b⟩; exact absurd os a; exact ⟨a, b⟩
      rw [q3] at h25I
      rw [q2, q3]
      have hV3 := INV_set hV os
      have hw3 := hV3.1.1
      have ez : (zu N 0 v24) 0 = v24 := zu_s
      refine z_if_lt (tgt := 199) ok dL_isAct_178 (by decide) (by omega) (fun c => (by omega : False).elim) (fun c178 => ?_)
      refine z_aload_n ok dL_isAct_181 rfl ?_
      refine z_bipush ok dL_isAct_182 (by decide) ?_
      refine z_iload ok dL_isAct_184 rfl ?_
      refine z_iadd ok dL_isAct_186 ?_
      refine o_count (v := (zu N 0 v24) 0) ok h25I hw3 (by decide) (v_c14) qm_RL_8 dL_isAct_187 (by decide) ⟨by decide, by decide⟩ (Nat.le_of_ble_eq_true rfl) (fun h28 h28I => ?_)
      refine z_iload ok dL_isAct_190 rfl ?_
      refine z_icmp_ne (tgt := 199) ok dL_isAct_192 (by decide) (by omega) (by omega) (fun c => (by omega : False).elim) (fun c192 => ?_)
      refine z_iconst ok dL_isAct_195 ?_
      refine z_goto (tgt := 200) ok dL_isAct_196 (by decide) ?_
      refine z_eq (ws' := obW Z ad (zu N 0 v24) h28) (List.append_nil _) ?_
      exact fin 1 ((zu N 0 v24), h28) 200 _ _ _ dL_isAct_200 (by decide) ⟨rfl, h28I, INV_le hV3 (by omega)⟩ (by decide) (by decide)
    · -- setting
      refine z_iload ok dL_isAct_132 rfl ?_
      refine z_iconst ok dL_isAct_134 ?_
      refine z_icmp_ne (tgt := 151) ok dL_isAct_135 (by decide) (by decide) (by decide) (fun c135 => ?_) (fun c => absurd c (by decide))
      refine z_aload_n ok dL_isAct_151 rfl ?_
      refine z_iload_n ok dL_isAct_152 rfl ?_
      refine z_iconst ok dL_isAct_153 ?_
      refine z_iadd ok dL_isAct_154 ?_
      refine z_iload ok dL_isAct_155 rfl ?_
      refine z_if_ne (tgt := 164) ok dL_isAct_157 (by decide) (by decide) (fun c157 => ?_) (fun c => absurd c (by decide))
      refine z_iconst ok dL_isAct_164 ?_
      refine l_cell ok hnx hsc (by omega) (by decide) qm_RL_60 dL_isAct_165 (by decide) ⟨by decide, by decide⟩ (Nat.le_of_ble_eq_true rfl) (fun v29 v29l v29u => ?_)
      refine z_istore (lv' := [(6, .int (iI v29)), (5, .int (iI 1)), (4, .int (iI v4)), (3, .int (iI v2)), (0, .ref (obX ad)), (1, .ref bs), (2, .int (iI at_))]) ok dL_isAct_168 (by decide) rfl ?_
      refine z_aload_n ok dL_isAct_170 rfl ?_
      refine z_iload ok dL_isAct_171 rfl ?_
      refine z_iload ok dL_isAct_173 rfl ?_
      refine o_set ok h3I hw (by decide) (by omega) qm_RL_37 dL_isAct_175 (by decide) ⟨by decide, by decide⟩ (Nat.le_of_ble_eq_true rfl) (fun r32 N31 h30 h30I h30c => ?_)
      have os : okS 1 v29 := by unfold okS; omega
      obtain ⟨q2, q3⟩ : r32 = N 1 ∧ N31 = zu N 1 v29 := by rcases h30c with ⟨a, _, _⟩ | ⟨_, a, b⟩; exact absurd os a; exact ⟨a, b⟩
      rw [q3] at h30I
      rw [q2, q3]
      have hV3 := INV_set hV os
      have hw3 := hV3.1.1
      have ez : (zu N 1 v29) 1 = v29 := zu_s
      refine z_if_lt (tgt := 199) ok dL_isAct_178 (by decide) (by omega) (fun c => (by omega : False).elim) (fun c178 => ?_)
      refine z_aload_n ok dL_isAct_181 rfl ?_
      refine z_bipush ok dL_isAct_182 (by decide) ?_
      refine z_iload ok dL_isAct_184 rfl ?_
      refine z_iadd ok dL_isAct_186 ?_
      refine o_count (v := (zu N 1 v29) 1) ok h30I hw3 (by decide) (v_c15) qm_RL_8 dL_isAct_187 (by decide) ⟨by decide, by decide⟩ (Nat.le_of_ble_eq_true rfl) (fun h33 h33I => ?_)
      refine z_iload ok dL_isAct_190 rfl ?_
      refine z_icmp_ne (tgt := 199) ok dL_isAct_192 (by decide) (by omega) (by omega) (fun c => (by omega : False).elim) (fun c192 => ?_)
      refine z_iconst ok dL_isAct_195 ?_
      refine z_goto (tgt := 200) ok dL_isAct_196 (by decide) ?_
      refine z_eq (ws' := obW Z ad (zu N 1 v29) h33) (List.append_nil _) ?_
      exact fin 1 ((zu N 1 v29), h33) 200 _ _ _ dL_isAct_200 (by decide) ⟨rfl, h33I, INV_le hV3 (by omega)⟩ (by decide) (by decide)
    · -- setting
      refine z_iload ok dL_isAct_132 rfl ?_
      refine z_iconst ok dL_isAct_134 ?_
      refine z_icmp_ne (tgt := 151) ok dL_isAct_135 (by decide) (by decide) (by decide) (fun c => absurd c (by decide)) (fun c135 => ?_)
      refine z_iconst ok dL_isAct_138 ?_
      refine z_aload_n ok dL_isAct_139 rfl ?_
      refine z_iload_n ok dL_isAct_140 rfl ?_
      refine z_iconst ok dL_isAct_141 ?_
      refine z_iadd ok dL_isAct_142 ?_
      refine z_iconst ok dL_isAct_143 ?_
      refine l_cell ok hnx hsc (by omega) (by decide) qm_RL_60 dL_isAct_144 (by decide) ⟨by decide, by decide⟩ (Nat.le_of_ble_eq_true rfl) (fun v34 v34l v34u => ?_)
      refine z_iadd ok dL_isAct_147 ?_
      refine z_goto (tgt := 168) ok dL_isAct_148 (by decide) ?_
      refine z_istore (lv' := [(6, .int (iI (1 + v34))), (5, .int (iI 2)), (4, .int (iI v4)), (3, .int (iI v2)), (0, .ref (obX ad)), (1, .ref bs), (2, .int (iI at_))]) ok dL_isAct_168 (by decide) rfl ?_
      refine z_aload_n ok dL_isAct_170 rfl ?_
      refine z_iload ok dL_isAct_171 rfl ?_
      refine z_iload ok dL_isAct_173 rfl ?_
      refine o_set ok h3I hw (by decide) (by omega) qm_RL_37 dL_isAct_175 (by decide) ⟨by decide, by decide⟩ (Nat.le_of_ble_eq_true rfl) (fun r37 N36 h35 h35I h35c => ?_)
      have os : okS 2 (1 + v34) := by unfold okS; omega
      obtain ⟨q2, q3⟩ : r37 = N 2 ∧ N36 = zu N 2 (1 + v34) := by rcases h35c with ⟨a, _, _⟩ | ⟨_, a, b⟩; exact absurd os a; exact ⟨a, b⟩
      rw [q3] at h35I
      rw [q2, q3]
      have hV3 := INV_set hV os
      have hw3 := hV3.1.1
      have ez : (zu N 2 (1 + v34)) 2 = 1 + v34 := zu_s
      refine z_if_lt (tgt := 199) ok dL_isAct_178 (by decide) (by omega) (fun c => (by omega : False).elim) (fun c178 => ?_)
      refine z_aload_n ok dL_isAct_181 rfl ?_
      refine z_bipush ok dL_isAct_182 (by decide) ?_
      refine z_iload ok dL_isAct_184 rfl ?_
      refine z_iadd ok dL_isAct_186 ?_
      refine o_count (v := (zu N 2 (1 + v34)) 2) ok h35I hw3 (by decide) (v_c16) qm_RL_8 dL_isAct_187 (by decide) ⟨by decide, by decide⟩ (Nat.le_of_ble_eq_true rfl) (fun h38 h38I => ?_)
      refine z_iload ok dL_isAct_190 rfl ?_
      refine z_icmp_ne (tgt := 199) ok dL_isAct_192 (by decide) (by omega) (by omega) (fun c => (by omega : False).elim) (fun c192 => ?_)
      refine z_iconst ok dL_isAct_195 ?_
      refine z_goto (tgt := 200) ok dL_isAct_196 (by decide) ?_
      refine z_eq (ws' := obW Z ad (zu N 2 (1 + v34)) h38) (List.append_nil _) ?_
      exact fin 1 ((zu N 2 (1 + v34)), h38) 200 _ _ _ dL_isAct_200 (by decide) ⟨rfl, h38I, INV_le hV3 (by omega)⟩ (by decide) (by decide)
theorem l_isAct {X : zX} {Z : zZ} {R : Room} {cc : ByteArray} {own : String} {nL k n : Nat} {wa wb : va_W} {ad : zAd} {N : Int → Int} {h : zHd} {pc idx : Nat} {lv : List (Nat × Value)} {rest : List Value} {bs L : Nat} {xs : Nat → Int32} {B at_ : Int} (ok : zOK X Z R cc own nL) (hnx : zNX X) (hsc : zSC X bs L xs) (hI : obI N h) (hV : INV B N) (hB : B ≤ 999) (hat : 0 ≤ at_ ∧ at_ ≤ 1000) (hlk : Cond.methodLink own idx yL_isAct ∈ wsL_law) (d : decode cc pc = .ok (.invokestatic idx, 3)) (hR : 10 + 1 ≤ R.frames ∧ 8 + (7 + 11) + 251 ≤ R.locals) (hc : k + 181 ≤ R.cells ∧ n + 8621 ≤ R.slots) (hcat : (rest.map fun v => v.category).sum ≤ 8) (hk : ∀ (N' : Int → Int) (h' : zHd), obI N' h' → INV (B + 1) N' → zV X (k + 181) (n + 8621) (wa ++ (obW Z ad N' h' ++ wb)) (pc + 3) lv (.int (iI 1) :: rest)) : zV X k n (wa ++ (obW Z ad N h ++ wb)) pc lv (.int (iI at_) :: .ref bs :: .ref (obX ad) :: rest) := by
  refine z_callSj ok hnx hsc (fun l => c_L_isAct hI hV hB hat) zm_L_isAct qt_L_isAct hlk d hR hc rfl rfl hcat (List.perm_append_comm_assoc wa (obW Z ad N h) wb) (fun ρ u hp => ?_)
  obtain ⟨M, g⟩ := u
  obtain ⟨rfl, hI2, p1⟩ := hp
  exact z_perm (List.perm_append_comm_assoc (obW Z ad M g) wa wb) (hk M g hI2 p1)
