set_option maxHeartbeats 4000000 in
set_option maxRecDepth 20000 in
theorem c_X7_readOne {l : Launch} {Z : zZ} {q : Nat → Nat} {now kept hist : Int → Int} {und : Int} {sav isv pad : Int → Int} {sg it : Int} {far many laid sides stuck ord : Int → Int} {rd pl wr : Int} (hpd : padOK pad sg) (hpl : 0 ≤ pl ∧ pl ≤ 100) (hrd : 0 ≤ rd ∧ rd ≤ 70) : zN (T := (Int → Int) × Int × Int × Int) l yX7_readOne (Cond.code yX7_readOne cX7_readOne 3 none :: wsL_law) ({ frames := 2, cells := 0, slots := 0, locals := 43 } : Room) Z [.ref (q 0)] (mW Z q now kept hist und sav isv pad sg it far many laid sides stuck ord rd pl wr) (fun u => mW Z q now kept hist und sav isv pad sg it far many laid sides stuck u.1 u.2.2.2 u.2.1 u.2.2.1) (fun u => u.2.1 = ordE pad sg pl ∧ u.2.2.1 = zb (¬ ordOK pad sg pl) ∧ (ordOK pad sg pl → u.2.2.2 = rd + 1 ∧ u.1 (3 * rd) = sgn pad sg pl ∧ u.1 (3 * rd + 1) = numV pad sg (pl + 1) ∧ (sgn pad sg pl ≠ 116 → u.1 (3 * rd + 2) = ordS pad sg pl)) ∧ (∀ x : Int, x < 3 * rd → u.1 x = ord x) ∧ rd ≤ u.2.2.2 ∧ u.2.2.2 ≤ rd + 1) := by
  refine zN_of (C := RX7) (by decide +kernel) rfl (Nat.le_of_ble_eq_true rfl) (fun X ok fin => ?_)
  have hs0 := sgn_rng hpd hpl.1
  have hs1 := num_rng hpd (by omega : 0 ≤ pl + 1)
  have hs2 := num_rng hpd (by omega : 0 ≤ numP pad sg (pl + 1) + 1)
  have hs3 := sd_rng pad sg (numP pad sg (pl + 1))
  have hs4 := sgn_rng hpd (by omega : 0 ≤ numP pad sg (pl + 1))
  have hs5 := sd_rng pad sg (pl + 1)
  have hsg := hpd.1
  refine z_lsub ok (lv' := [(0, .ref (q 0))]) [0] rfl ?_
  refine z_iconst ok dX7_readOne_0 ?_
  refine z_aload_n ok dX7_readOne_1 rfl ?_
  refine z_get (v := .int (iI rd)) ok zc7 0 rfl 15 (by decide) qf_RX7_173 rfl rfl dX7_readOne_2 ?_
  refine z_imul ok dX7_readOne_5 ?_
  refine z_istore_n (lv' := [(1, .int (iI (3 * rd))), (0, .ref (q 0))]) ok dX7_readOne_6 (by decide) rfl ?_
  refine z_aload_n ok dX7_readOne_7 rfl ?_
  refine z_callVi0 ok (fun l => c_X7_sign  (by omega) (by omega)) zm_X7_sign zv_X7_sign qm_RX7_167 dX7_readOne_8 (by decide) (by decide) rfl rfl (Nat.le_of_ble_eq_true rfl) (q0 := 0) rfl rfl rfl (fun ρ _ hρ => ?_)
  subst hρ
  refine z_eq (ws' := mW Z q now kept hist und sav isv pad sg it far many laid sides stuck ord rd pl wr) rfl ?_
  refine z_istore_n (lv' := [(2, .int (iI (sgn pad sg pl))), (1, .int (iI (3 * rd))), (0, .ref (q 0))]) ok dX7_readOne_11 (by decide) rfl ?_
  refine z_aload_n ok dX7_readOne_12 rfl ?_
  refine z_get (v := .ref (q 12)) ok zc7 0 rfl 14 (by decide) qf_RX7_44 rfl rfl dX7_readOne_13 ?_
  refine z_iload_n ok dX7_readOne_16 rfl ?_
  refine z_iload_n ok dX7_readOne_17 rfl ?_
  refine z_iast (f := ord) (v := sgn pad sg pl) (ws' := mW Z q now kept hist und sav isv pad sg it far many laid sides stuck (zu ord (3 * rd) (sgn pad sg pl)) rd pl wr) ok 12 rfl dX7_readOne_18 (by omega) (by decide) rfl ?_
  refine z_aload_n ok dX7_readOne_19 rfl ?_
  refine z_iload_n ok dX7_readOne_20 rfl ?_
  refine z_bipush ok dX7_readOne_21 (by decide) ?_
  refine z_icmp_eq (tgt := 48) ok dX7_readOne_23 (by decide) (by omega) (by omega) (fun c23 => ?_) (fun c23 => ?_)
  · -- t
    have hk : knd pad sg pl := by unfold knd; omega
    refine z_iconst ok dX7_readOne_48 ?_
    refine z_put (ws' := mW Z q now kept hist und sav isv pad sg it far many laid sides stuck (zu ord (3 * rd) (sgn pad sg pl)) rd pl 0) ok zc7 0 rfl 17 (by decide) qf_RX7_170 rfl rfl (znZ _ (by first | decide | exact zb_01 _ | omega)) (zfZ _ (by first | decide | exact zb_01 _ | omega)) (Nat.le_of_ble_eq_true rfl) dX7_readOne_49 rfl ?_
    refine z_aload_n ok dX7_readOne_52 rfl ?_
    refine z_get (v := .int (iI 0)) ok zc7 0 rfl 17 (by decide) qf_RX7_170 rfl rfl dX7_readOne_53 ?_
    refine z_if_eq (tgt := 60) ok dX7_readOne_56 (by decide) (by omega) (fun c56 => ?_) (fun c56 => ?_)
    · -- t
      refine z_aload_n ok dX7_readOne_60 rfl ?_
      refine z_dup ok dX7_readOne_61 rfl ?_
      refine z_get (v := .int (iI pl)) ok zc7 0 rfl 16 (by decide) qf_RX7_164 rfl rfl dX7_readOne_62 ?_
      refine z_iconst ok dX7_readOne_65 ?_
      refine z_iadd ok dX7_readOne_66 ?_
      refine z_put (ws' := mW Z q now kept hist und sav isv pad sg it far many laid sides stuck (zu ord (3 * rd) (sgn pad sg pl)) rd (pl + 1) 0) ok zc7 0 rfl 16 (by decide) qf_RX7_164 rfl rfl rfl rfl (Nat.le_of_ble_eq_true rfl) dX7_readOne_67 rfl ?_
      refine z_aload_n ok dX7_readOne_70 rfl ?_
      refine z_get (v := .ref (q 12)) ok zc7 0 rfl 14 (by decide) qf_RX7_44 rfl rfl dX7_readOne_71 ?_
      refine z_iload_n ok dX7_readOne_74 rfl ?_
      refine z_iconst ok dX7_readOne_75 ?_
      refine z_iadd ok dX7_readOne_76 ?_
      refine z_aload_n ok dX7_readOne_77 rfl ?_
      refine z_callVi0 ok (fun l => c_X7_number  (hpd) (by omega) (by omega)) zm_X7_number zv_X7_number qm_RX7_176 dX7_readOne_78 (by decide) (by decide) rfl rfl (Nat.le_of_ble_eq_true rfl) (q0 := 0) rfl rfl rfl (fun ρ _ hρ => ?_)
      subst hρ
      refine z_eq (ws' := mW Z q now kept hist und sav isv pad sg it far many laid sides stuck (zu ord (3 * rd) (sgn pad sg pl)) rd (if (¬ 0 = 0 ∨ numV pad sg (pl + 1) < 0) then (pl + 1) else numP pad sg (pl + 1)) (if (¬ 0 = 0 ∨ numV pad sg (pl + 1) < 0) then 1 else 0)) rfl ?_
      by_cases hn : numV pad sg (pl + 1) < 0
      · -- split
        refine z_eq (ws' := mW Z q now kept hist und sav isv pad sg it far many laid sides stuck (zu ord (3 * rd) (sgn pad sg pl)) rd (pl + 1) 1) (by rw [if_pos (show (¬ (0 : Int) = 0 ∨ numV pad sg (pl + 1) < 0) from Or.inr hn), if_pos (show (¬ (0 : Int) = 0 ∨ numV pad sg (pl + 1) < 0) from Or.inr hn)]) ?_
        refine z_st (st' := [.int (iI 0), .int (iI ((3 * rd) + 1)), .ref (q 12)]) (by rw [if_pos (show (¬ (0 : Int) = 0 ∨ numV pad sg (pl + 1) < 0) from Or.inr hn)]) ?_
        refine z_iast (f := zu ord (3 * rd) (sgn pad sg pl)) (v := 0) (ws' := mW Z q now kept hist und sav isv pad sg it far many laid sides stuck (zu (zu ord (3 * rd) (sgn pad sg pl)) ((3 * rd) + 1) 0) rd (pl + 1) 1) ok 12 rfl dX7_readOne_81 (by omega) (by decide) rfl ?_
        refine z_iload_n ok dX7_readOne_82 rfl ?_
        refine z_bipush ok dX7_readOne_83 (by decide) ?_
        refine z_icmp_ne (tgt := 149) ok dX7_readOne_85 (by decide) (by omega) (by omega) (fun c85 => ?_) (fun c85 => ?_)
        · -- t
          refine z_iload_n ok dX7_readOne_149 rfl ?_
          refine z_bipush ok dX7_readOne_150 (by decide) ?_
          refine z_icmp_eq (tgt := 167) ok dX7_readOne_152 (by decide) (by omega) (by omega) (fun c152 => ?_) (fun c152 => ?_)
          · -- t
            refine z_aload_n ok dX7_readOne_167 rfl ?_
            refine z_dup ok dX7_readOne_168 rfl ?_
            refine z_get (v := .int (iI rd)) ok zc7 0 rfl 15 (by decide) qf_RX7_173 rfl rfl dX7_readOne_169 ?_
            refine z_iconst ok dX7_readOne_172 ?_
            refine z_iadd ok dX7_readOne_173 ?_
            refine z_put (ws' := mW Z q now kept hist und sav isv pad sg it far many laid sides stuck (zu (zu ord (3 * rd) (sgn pad sg pl)) ((3 * rd) + 1) 0) (rd + 1) (pl + 1) 1) ok zc7 0 rfl 15 (by decide) qf_RX7_173 rfl rfl rfl rfl (Nat.le_of_ble_eq_true rfl) dX7_readOne_174 rfl ?_
            have hE : (pl + 1) = ordE pad sg pl := by first | (unfold ordE; rw [zif_f hkn]; done) | (unfold ordE; rw [zif_t hk]; first | omega | ((repeat' split) <;> omega))
            have hW : 1 = zb (¬ ordOK pad sg pl) := by first | exact (zb_t (fun z => hkn z.1)).symm | exact (zb_t (fun z => by obtain ⟨o1, o2, o3, o4⟩ := z; first | omega | (have := o3 (by omega); omega) | (have := o4 (by omega); omega))).symm | exact (zb_f (fun z => z ⟨hk, by omega, fun e => by first | (exfalso; omega) | exact ⟨by omega, by omega⟩, fun e => by first | (exfalso; omega) | omega⟩)).symm
            have hO : ordOK pad sg pl → (rd + 1) = rd + 1 ∧ (zu (zu ord (3 * rd) (sgn pad sg pl)) ((3 * rd) + 1) 0) (3 * rd) = sgn pad sg pl ∧ (zu (zu ord (3 * rd) (sgn pad sg pl)) ((3 * rd) + 1) 0) (3 * rd + 1) = numV pad sg (pl + 1) ∧ (sgn pad sg pl ≠ 116 → (zu (zu ord (3 * rd) (sgn pad sg pl)) ((3 * rd) + 1) 0) (3 * rd + 2) = ordS pad sg pl) := by first | exact fun ho => absurd ho.1 hkn | (intro ho; obtain ⟨o1, o2, o3, o4⟩ := ho; first | (exfalso; omega) | (exfalso; have := o3 (by omega); omega) | (exfalso; have := o4 (by omega); omega) | exact ⟨rfl, by rw [zu_n (by omega), zu_n (by omega), zu_s], by rw [zu_n (by omega), zu_s], fun _ => by rw [zu_s]; unfold ordS; first | rw [if_pos (by omega)] | rw [if_neg (by omega)]⟩ | exact ⟨rfl, by rw [zu_n (by omega), zu_s], by rw [zu_s], fun z => absurd (by omega) z⟩)
            have hX : ∀ x : Int, x < 3 * rd → (zu (zu ord (3 * rd) (sgn pad sg pl)) ((3 * rd) + 1) 0) x = ord x := by intro x hx; first | (rw [zu_n (by omega), zu_n (by omega), zu_n (by omega)]; done) | (rw [zu_n (by omega), zu_n (by omega)]; done) | (rw [zu_n (by omega)])
            have hR : rd ≤ (rd + 1) ∧ (rd + 1) ≤ rd + 1 := by omega
            exact fin (zu (zu ord (3 * rd) (sgn pad sg pl)) ((3 * rd) + 1) 0, pl + 1, 1, rd + 1) 177 _ _ _ dX7_readOne_177 (⟨hE, hW, hO, hX, hR.1, hR.2⟩) (by decide) (by decide)
          · -- f
            refine z_aload_n ok dX7_readOne_155 rfl ?_
            refine z_get (v := .ref (q 12)) ok zc7 0 rfl 14 (by decide) qf_RX7_44 rfl rfl dX7_readOne_156 ?_
            refine z_iload_n ok dX7_readOne_159 rfl ?_
            refine z_iconst ok dX7_readOne_160 ?_
            refine z_iadd ok dX7_readOne_161 ?_
            refine z_aload_n ok dX7_readOne_162 rfl ?_
            refine z_callVi0 ok (fun l => c_X7_side  (hpd) (by omega) (by omega)) zm_X7_side zv_X7_side qm_RX7_179 dX7_readOne_163 (by decide) (by decide) rfl rfl (Nat.le_of_ble_eq_true rfl) (q0 := 0) rfl rfl rfl (fun ρ _ hρ => ?_)
            subst hρ
            refine z_eq (ws' := mW Z q now kept hist und sav isv pad sg it far many laid sides stuck (zu (zu ord (3 * rd) (sgn pad sg pl)) ((3 * rd) + 1) 0) rd (if (¬ 1 = 0 ∨ sdV pad sg (pl + 1) < 0) then (pl + 1) else (pl + 1) + 1) (if (¬ 1 = 0 ∨ sdV pad sg (pl + 1) < 0) then 1 else 0)) rfl ?_
            refine z_eq (ws' := mW Z q now kept hist und sav isv pad sg it far many laid sides stuck (zu (zu ord (3 * rd) (sgn pad sg pl)) ((3 * rd) + 1) 0) rd (pl + 1) 1) (by rw [if_pos (show (¬ (1 : Int) = 0 ∨ sdV pad sg (pl + 1) < 0) from Or.inl (by decide)), if_pos (show (¬ (1 : Int) = 0 ∨ sdV pad sg (pl + 1) < 0) from Or.inl (by decide))]) ?_
            refine z_iast (f := zu (zu ord (3 * rd) (sgn pad sg pl)) ((3 * rd) + 1) 0) (v := (if sdV pad sg (pl + 1) < 0 then -6 else sdV pad sg (pl + 1))) (ws' := mW Z q now kept hist und sav isv pad sg it far many laid sides stuck (zu (zu (zu ord (3 * rd) (sgn pad sg pl)) ((3 * rd) + 1) 0) ((3 * rd) + 2) (if sdV pad sg (pl + 1) < 0 then -6 else sdV pad sg (pl + 1))) rd (pl + 1) 1) ok 12 rfl dX7_readOne_166 (by omega) (by decide) rfl ?_
            refine z_aload_n ok dX7_readOne_167 rfl ?_
            refine z_dup ok dX7_readOne_168 rfl ?_
            refine z_get (v := .int (iI rd)) ok zc7 0 rfl 15 (by decide) qf_RX7_173 rfl rfl dX7_readOne_169 ?_
            refine z_iconst ok dX7_readOne_172 ?_
            refine z_iadd ok dX7_readOne_173 ?_
            refine z_put (ws' := mW Z q now kept hist und sav isv pad sg it far many laid sides stuck (zu (zu (zu ord (3 * rd) (sgn pad sg pl)) ((3 * rd) + 1) 0) ((3 * rd) + 2) (if sdV pad sg (pl + 1) < 0 then -6 else sdV pad sg (pl + 1))) (rd + 1) (pl + 1) 1) ok zc7 0 rfl 15 (by decide) qf_RX7_173 rfl rfl rfl rfl (Nat.le_of_ble_eq_true rfl) dX7_readOne_174 rfl ?_
            have hE : (pl + 1) = ordE pad sg pl := by first | (unfold ordE; rw [zif_f hkn]; done) | (unfold ordE; rw [zif_t hk]; first | omega | ((repeat' split) <;> omega))
            have hW : 1 = zb (¬ ordOK pad sg pl) := by first | exact (zb_t (fun z => hkn z.1)).symm | exact (zb_t (fun z => by obtain ⟨o1, o2, o3, o4⟩ := z; first | omega | (have := o3 (by omega); omega) | (have := o4 (by omega); omega))).symm | exact (zb_f (fun z => z ⟨hk, by omega, fun e => by first | (exfalso; omega) | exact ⟨by omega, by omega⟩, fun e => by first | (exfalso; omega) | omega⟩)).symm
            have hO : ordOK pad sg pl → (rd + 1) = rd + 1 ∧ (zu (zu (zu ord (3 * rd) (sgn pad sg pl)) ((3 * rd) + 1) 0) ((3 * rd) + 2) (if sdV pad sg (pl + 1) < 0 then -6 else sdV pad sg (pl + 1))) (3 * rd) = sgn pad sg pl ∧ (zu (zu (zu ord (3 * rd) (sgn pad sg pl)) ((3 * rd) + 1) 0) ((3 * rd) + 2) (if sdV pad sg (pl + 1) < 0 then -6 else sdV pad sg (pl + 1))) (3 * rd + 1) = numV pad sg (pl + 1) ∧ (sgn pad sg pl ≠ 116 → (zu (zu (zu ord (3 * rd) (sgn pad sg pl)) ((3 * rd) + 1) 0) ((3 * rd) + 2) (if sdV pad sg (pl + 1) < 0 then -6 else sdV pad sg (pl + 1))) (3 * rd + 2) = ordS pad sg pl) := by first | exact fun ho => absurd ho.1 hkn | (intro ho; obtain ⟨o1, o2, o3, o4⟩ := ho; first | (exfalso; omega) | (exfalso; have := o3 (by omega); omega) | (exfalso; have := o4 (by omega); omega) | exact ⟨rfl, by rw [zu_n (by omega), zu_n (by omega), zu_s], by rw [zu_n (by omega), zu_s], fun _ => by rw [zu_s]; unfold ordS; first | rw [if_pos (by omega)] | rw [if_neg (by omega)]⟩ | exact ⟨rfl, by rw [zu_n (by omega), zu_s], by rw [zu_s], fun z => absurd (by omega) z⟩)
            have hX : ∀ x : Int, x < 3 * rd → (zu (zu (zu ord (3 * rd) (sgn pad sg pl)) ((3 * rd) + 1) 0) ((3 * rd) + 2) (if sdV pad sg (pl + 1) < 0 then -6 else sdV pad sg (pl + 1))) x = ord x := by intro x hx; first | (rw [zu_n (by omega), zu_n (by omega), zu_n (by omega)]; done) | (rw [zu_n (by omega), zu_n (by omega)]; done) | (rw [zu_n (by omega)])
            have hR : rd ≤ (rd + 1) ∧ (rd + 1) ≤ rd + 1 := by omega
            exact fin (zu (zu (zu ord (3 * rd) (sgn pad sg pl)) ((3 * rd) + 1) 0) ((3 * rd) + 2) (if sdV pad sg (pl + 1) < 0 then -6 else sdV pad sg (pl + 1)), pl + 1, 1, rd + 1) 177 _ _ _ dX7_readOne_177 (⟨hE, hW, hO, hX, hR.1, hR.2⟩) (by decide) (by decide)
        · -- f
          refine z_aload_n ok dX7_readOne_88 rfl ?_
          refine z_aload_n ok dX7_readOne_89 rfl ?_
          refine z_get (v := .int (iI 1)) ok zc7 0 rfl 17 (by decide) qf_RX7_170 rfl rfl dX7_readOne_90 ?_
          refine z_if_ne (tgt := 105) ok dX7_readOne_93 (by decide) (by omega) (fun c93 => ?_) (fun c93 => ?_)
          · -- t
            refine z_iconst ok dX7_readOne_105 ?_
            refine z_goto (tgt := 110) ok dX7_readOne_106 (by decide) ?_
            refine z_put (ws' := mW Z q now kept hist und sav isv pad sg it far many laid sides stuck (zu (zu ord (3 * rd) (sgn pad sg pl)) ((3 * rd) + 1) 0) rd (pl + 1) 1) ok zc7 0 rfl 17 (by decide) qf_RX7_170 rfl rfl (znZ _ (by first | decide | exact zb_01 _ | omega)) (zfZ _ (by first | decide | exact zb_01 _ | omega)) (Nat.le_of_ble_eq_true rfl) dX7_readOne_110 rfl ?_
            refine z_aload_n ok dX7_readOne_113 rfl ?_
            refine z_dup ok dX7_readOne_114 rfl ?_
            refine z_get (v := .int (iI (pl + 1))) ok zc7 0 rfl 16 (by decide) qf_RX7_164 rfl rfl dX7_readOne_115 ?_
            refine z_aload_n ok dX7_readOne_118 rfl ?_
            refine z_get (v := .int (iI 1)) ok zc7 0 rfl 17 (by decide) qf_RX7_170 rfl rfl dX7_readOne_119 ?_
            refine z_if_eq (tgt := 129) ok dX7_readOne_122 (by decide) (by omega) (fun c122 => ?_) (fun c122 => ?_)
            · -- t
              exact absurd c122 (by decide)
            · -- f
              refine z_iconst ok dX7_readOne_125 ?_
              refine z_goto (tgt := 130) ok dX7_readOne_126 (by decide) ?_
              refine z_iadd ok dX7_readOne_130 ?_
              refine z_put (ws' := mW Z q now kept hist und sav isv pad sg it far many laid sides stuck (zu (zu ord (3 * rd) (sgn pad sg pl)) ((3 * rd) + 1) 0) rd ((pl + 1) + 0) 1) ok zc7 0 rfl 16 (by decide) qf_RX7_164 rfl rfl rfl rfl (Nat.le_of_ble_eq_true rfl) dX7_readOne_131 rfl ?_
              refine z_aload_n ok dX7_readOne_134 rfl ?_
              refine z_get (v := .ref (q 12)) ok zc7 0 rfl 14 (by decide) qf_RX7_44 rfl rfl dX7_readOne_135 ?_
              refine z_iload_n ok dX7_readOne_138 rfl ?_
              refine z_iconst ok dX7_readOne_139 ?_
              refine z_iadd ok dX7_readOne_140 ?_
              refine z_aload_n ok dX7_readOne_141 rfl ?_
              refine z_callVi0 ok (fun l => c_X7_number  (hpd) (by omega) (by omega)) zm_X7_number zv_X7_number qm_RX7_176 dX7_readOne_142 (by decide) (by decide) rfl rfl (Nat.le_of_ble_eq_true rfl) (q0 := 0) rfl rfl rfl (fun ρ _ hρ => ?_)
              subst hρ
              refine z_eq (ws' := mW Z q now kept hist und sav isv pad sg it far many laid sides stuck (zu (zu ord (3 * rd) (sgn pad sg pl)) ((3 * rd) + 1) 0) rd (if (¬ 1 = 0 ∨ numV pad sg ((pl + 1) + 0) < 0) then ((pl + 1) + 0) else numP pad sg ((pl + 1) + 0)) (if (¬ 1 = 0 ∨ numV pad sg ((pl + 1) + 0) < 0) then 1 else 0)) rfl ?_
              refine z_eq (ws' := mW Z q now kept hist und sav isv pad sg it far many laid sides stuck (zu (zu ord (3 * rd) (sgn pad sg pl)) ((3 * rd) + 1) 0) rd ((pl + 1) + 0) 1) (by rw [if_pos (show (¬ (1 : Int) = 0 ∨ numV pad sg ((pl + 1) + 0) < 0) from Or.inl (by decide)), if_pos (show (¬ (1 : Int) = 0 ∨ numV pad sg ((pl + 1) + 0) < 0) from Or.inl (by decide))]) ?_
              refine z_st (st' := [.int (iI 0), .int (iI ((3 * rd) + 2)), .ref (q 12)]) (by rw [if_pos (show (¬ (1 : Int) = 0 ∨ numV pad sg ((pl + 1) + 0) < 0) from Or.inl (by decide))]) ?_
              refine z_iast (f := zu (zu ord (3 * rd) (sgn pad sg pl)) ((3 * rd) + 1) 0) (v := 0) (ws' := mW Z q now kept hist und sav isv pad sg it far many laid sides stuck (zu (zu (zu ord (3 * rd) (sgn pad sg pl)) ((3 * rd) + 1) 0) ((3 * rd) + 2) 0) rd ((pl + 1) + 0) 1) ok 12 rfl dX7_readOne_145 (by omega) (by decide) rfl ?_
              refine z_goto (tgt := 167) ok dX7_readOne_146 (by decide) ?_
              refine z_aload_n ok dX7_readOne_167 rfl ?_
              refine z_dup ok dX7_readOne_168 rfl ?_
              refine z_get (v := .int (iI rd)) ok zc7 0 rfl 15 (by decide) qf_RX7_173 rfl rfl dX7_readOne_169 ?_
              refine z_iconst ok dX7_readOne_172 ?_
              refine z_iadd ok dX7_readOne_173 ?_
              refine z_put (ws' := mW Z q now kept hist und sav isv pad sg it far many laid sides stuck (zu (zu (zu ord (3 * rd) (sgn pad sg pl)) ((3 * rd) + 1) 0) ((3 * rd) + 2) 0) (rd + 1) ((pl + 1) + 0) 1) ok zc7 0 rfl 15 (by decide) qf_RX7_173 rfl rfl rfl rfl (Nat.le_of_ble_eq_true rfl) dX7_readOne_174 rfl ?_
              have hE : ((pl + 1) + 0) = ordE pad sg pl := by first | (unfold ordE; rw [zif_f hkn]; done) | (unfold ordE; rw [zif_t hk]; first | omega | ((repeat' split) <;> omega))
              have hW : 1 = zb (¬ ordOK pad sg pl) := by first | exact (zb_t (fun z => hkn z.1)).symm | exact (zb_t (fun z => by obtain ⟨o1, o2, o3, o4⟩ := z; first | omega | (have := o3 (by omega); omega) | (have := o4 (by omega); omega))).symm | exact (zb_f (fun z => z ⟨hk, by omega, fun e => by first | (exfalso; omega) | exact ⟨by omega, by omega⟩, fun e => by first | (exfalso; omega) | omega⟩)).symm
              have hO : ordOK pad sg pl → (rd + 1) = rd + 1 ∧ (zu (zu (zu ord (3 * rd) (sgn pad sg pl)) ((3 * rd) + 1) 0) ((3 * rd) + 2) 0) (3 * rd) = sgn pad sg pl ∧ (zu (zu (zu ord (3 * rd) (sgn pad sg pl)) ((3 * rd) + 1) 0) ((3 * rd) + 2) 0) (3 * rd + 1) = numV pad sg (pl + 1) ∧ (sgn pad sg pl ≠ 116 → (zu (zu (zu ord (3 * rd) (sgn pad sg pl)) ((3 * rd) + 1) 0) ((3 * rd) + 2) 0) (3 * rd + 2) = ordS pad sg pl) := by first | exact fun ho => absurd ho.1 hkn | (intro ho; obtain ⟨o1, o2, o3, o4⟩ := ho; first | (exfalso; omega) | (exfalso; have := o3 (by omega); omega) | (exfalso; have := o4 (by omega); omega) | exact ⟨rfl, by rw [zu_n (by omega), zu_n (by omega), zu_s], by rw [zu_n (by omega), zu_s], fun _ => by rw [zu_s]; unfold ordS; first | rw [if_pos (by omega)] | rw [if_neg (by omega)]⟩ | exact ⟨rfl, by rw [zu_n (by omega), zu_s], by rw [zu_s], fun z => absurd (by omega) z⟩)
              have hX : ∀ x : Int, x < 3 * rd → (zu (zu (zu ord (3 * rd) (sgn pad sg pl)) ((3 * rd) + 1) 0) ((3 * rd) + 2) 0) x = ord x := by intro x hx; first | (rw [zu_n (by omega), zu_n (by omega), zu_n (by omega)]; done) | (rw [zu_n (by omega), zu_n (by omega)]; done) | (rw [zu_n (by omega)])
              have hR : rd ≤ (rd + 1) ∧ (rd + 1) ≤ rd + 1 := by omega
              exact fin (zu (zu (zu ord (3 * rd) (sgn pad sg pl)) ((3 * rd) + 1) 0) ((3 * rd) + 2) 0, ((pl + 1) + 0), 1, rd + 1) 177 _ _ _ dX7_readOne_177 (⟨hE, hW, hO, hX, hR.1, hR.2⟩) (by decide) (by decide)
          · -- f
            exact absurd c93 (by decide)
      · -- split
        refine z_eq (ws' := mW Z q now kept hist und sav isv pad sg it far many laid sides stuck (zu ord (3 * rd) (sgn pad sg pl)) rd (numP pad sg (pl + 1)) 0) (by rw [if_neg (show ¬ (¬ (0 : Int) = 0 ∨ numV pad sg (pl + 1) < 0) from fun z => z.elim (fun y => y rfl) hn), if_neg (show ¬ (¬ (0 : Int) = 0 ∨ numV pad sg (pl + 1) < 0) from fun z => z.elim (fun y => y rfl) hn)]) ?_
        refine z_st (st' := [.int (iI (numV pad sg (pl + 1))), .int (iI ((3 * rd) + 1)), .ref (q 12)]) (by rw [if_neg (show ¬ (¬ (0 : Int) = 0 ∨ numV pad sg (pl + 1) < 0) from fun z => z.elim (fun y => y rfl) hn)]) ?_
        refine z_iast (f := zu ord (3 * rd) (sgn pad sg pl)) (v := numV pad sg (pl + 1)) (ws' := mW Z q now kept hist und sav isv pad sg it far many laid sides stuck (zu (zu ord (3 * rd) (sgn pad sg pl)) ((3 * rd) + 1) (numV pad sg (pl + 1))) rd (numP pad sg (pl + 1)) 0) ok 12 rfl dX7_readOne_81 (by omega) (by decide) rfl ?_
        refine z_iload_n ok dX7_readOne_82 rfl ?_
        refine z_bipush ok dX7_readOne_83 (by decide) ?_
        refine z_icmp_ne (tgt := 149) ok dX7_readOne_85 (by decide) (by omega) (by omega) (fun c85 => ?_) (fun c85 => ?_)
        · -- t
          refine z_iload_n ok dX7_readOne_149 rfl ?_
          refine z_bipush ok dX7_readOne_150 (by decide) ?_
          refine z_icmp_eq (tgt := 167) ok dX7_readOne_152 (by decide) (by omega) (by omega) (fun c152 => ?_) (fun c152 => ?_)
          · -- t
            refine z_aload_n ok dX7_readOne_167 rfl ?_
            refine z_dup ok dX7_readOne_168 rfl ?_
            refine z_get (v := .int (iI rd)) ok zc7 0 rfl 15 (by decide) qf_RX7_173 rfl rfl dX7_readOne_169 ?_
            refine z_iconst ok dX7_readOne_172 ?_
            refine z_iadd ok dX7_readOne_173 ?_
            refine z_put (ws' := mW Z q now kept hist und sav isv pad sg it far many laid sides stuck (zu (zu ord (3 * rd) (sgn pad sg pl)) ((3 * rd) + 1) (numV pad sg (pl + 1))) (rd + 1) (numP pad sg (pl + 1)) 0) ok zc7 0 rfl 15 (by decide) qf_RX7_173 rfl rfl rfl rfl (Nat.le_of_ble_eq_true rfl) dX7_readOne_174 rfl ?_
            have hE : (numP pad sg (pl + 1)) = ordE pad sg pl := by first | (unfold ordE; rw [zif_f hkn]; done) | (unfold ordE; rw [zif_t hk]; first | omega | ((repeat' split) <;> omega))
            have hW : 0 = zb (¬ ordOK pad sg pl) := by first | exact (zb_t (fun z => hkn z.1)).symm | exact (zb_t (fun z => by obtain ⟨o1, o2, o3, o4⟩ := z; first | omega | (have := o3 (by omega); omega) | (have := o4 (by omega); omega))).symm | exact (zb_f (fun z => z ⟨hk, by omega, fun e => by first | (exfalso; omega) | exact ⟨by omega, by omega⟩, fun e => by first | (exfalso; omega) | omega⟩)).symm
            have hO : ordOK pad sg pl → (rd + 1) = rd + 1 ∧ (zu (zu ord (3 * rd) (sgn pad sg pl)) ((3 * rd) + 1) (numV pad sg (pl + 1))) (3 * rd) = sgn pad sg pl ∧ (zu (zu ord (3 * rd) (sgn pad sg pl)) ((3 * rd) + 1) (numV pad sg (pl + 1))) (3 * rd + 1) = numV pad sg (pl + 1) ∧ (sgn pad sg pl ≠ 116 → (zu (zu ord (3 * rd) (sgn pad sg pl)) ((3 * rd) + 1) (numV pad sg (pl + 1))) (3 * rd + 2) = ordS pad sg pl) := by first | exact fun ho => absurd ho.1 hkn | (intro ho; obtain ⟨o1, o2, o3, o4⟩ := ho; first | (exfalso; omega) | (exfalso; have := o3 (by omega); omega) | (exfalso; have := o4 (by omega); omega) | exact ⟨rfl, by rw [zu_n (by omega), zu_n (by omega), zu_s], by rw [zu_n (by omega), zu_s], fun _ => by rw [zu_s]; unfold ordS; first | rw [if_pos (by omega)] | rw [if_neg (by omega)]⟩ | exact ⟨rfl, by rw [zu_n (by omega), zu_s], by rw [zu_s], fun z => absurd (by omega) z⟩)
            have hX : ∀ x : Int, x < 3 * rd → (zu (zu ord (3 * rd) (sgn pad sg pl)) ((3 * rd) + 1) (numV pad sg (pl + 1))) x = ord x := by intro x hx; first | (rw [zu_n (by omega), zu_n (by omega), zu_n (by omega)]; done) | (rw [zu_n (by omega), zu_n (by omega)]; done) | (rw [zu_n (by omega)])
            have hR : rd ≤ (rd + 1) ∧ (rd + 1) ≤ rd + 1 := by omega
            exact fin (zu (zu ord (3 * rd) (sgn pad sg pl)) ((3 * rd) + 1) (numV pad sg (pl + 1)), numP pad sg (pl + 1), 0, rd + 1) 177 _ _ _ dX7_readOne_177 (⟨hE, hW, hO, hX, hR.1, hR.2⟩) (by decide) (by decide)
          · -- f
            refine z_aload_n ok dX7_readOne_155 rfl ?_
            refine z_get (v := .ref (q 12)) ok zc7 0 rfl 14 (by decide) qf_RX7_44 rfl rfl dX7_readOne_156 ?_
            refine z_iload_n ok dX7_readOne_159 rfl ?_
            refine z_iconst ok dX7_readOne_160 ?_
            refine z_iadd ok dX7_readOne_161 ?_
            refine z_aload_n ok dX7_readOne_162 rfl ?_
            refine z_callVi0 ok (fun l => c_X7_side  (hpd) (by omega) (by omega)) zm_X7_side zv_X7_side qm_RX7_179 dX7_readOne_163 (by decide) (by decide) rfl rfl (Nat.le_of_ble_eq_true rfl) (q0 := 0) rfl rfl rfl (fun ρ _ hρ => ?_)
            subst hρ
            refine z_eq (ws' := mW Z q now kept hist und sav isv pad sg it far many laid sides stuck (zu (zu ord (3 * rd) (sgn pad sg pl)) ((3 * rd) + 1) (numV pad sg (pl + 1))) rd (if (¬ 0 = 0 ∨ sdV pad sg (numP pad sg (pl + 1)) < 0) then (numP pad sg (pl + 1)) else (numP pad sg (pl + 1)) + 1) (if (¬ 0 = 0 ∨ sdV pad sg (numP pad sg (pl + 1)) < 0) then 1 else 0)) rfl ?_
            by_cases hq : sdV pad sg (numP pad sg (pl + 1)) < 0
            · -- split
              refine z_eq (ws' := mW Z q now kept hist und sav isv pad sg it far many laid sides stuck (zu (zu ord (3 * rd) (sgn pad sg pl)) ((3 * rd) + 1) (numV pad sg (pl + 1))) rd (numP pad sg (pl + 1)) 1) (by rw [if_pos (show (¬ (0 : Int) = 0 ∨ sdV pad sg (numP pad sg (pl + 1)) < 0) from Or.inr hq), if_pos (show (¬ (0 : Int) = 0 ∨ sdV pad sg (numP pad sg (pl + 1)) < 0) from Or.inr hq)]) ?_
              refine z_iast (f := zu (zu ord (3 * rd) (sgn pad sg pl)) ((3 * rd) + 1) (numV pad sg (pl + 1))) (v := (if sdV pad sg (numP pad sg (pl + 1)) < 0 then -6 else sdV pad sg (numP pad sg (pl + 1)))) (ws' := mW Z q now kept hist und sav isv pad sg it far many laid sides stuck (zu (zu (zu ord (3 * rd) (sgn pad sg pl)) ((3 * rd) + 1) (numV pad sg (pl + 1))) ((3 * rd) + 2) (if sdV pad sg (numP pad sg (pl + 1)) < 0 then -6 else sdV pad sg (numP pad sg (pl + 1)))) rd (numP pad sg (pl + 1)) 1) ok 12 rfl dX7_readOne_166 (by omega) (by decide) rfl ?_
              refine z_aload_n ok dX7_readOne_167 rfl ?_
              refine z_dup ok dX7_readOne_168 rfl ?_
              refine z_get (v := .int (iI rd)) ok zc7 0 rfl 15 (by decide) qf_RX7_173 rfl rfl dX7_readOne_169 ?_
              refine z_iconst ok dX7_readOne_172 ?_
              refine z_iadd ok dX7_readOne_173 ?_
              refine z_put (ws' := mW Z q now kept hist und sav isv pad sg it far many laid sides stuck (zu (zu (zu ord (3 * rd) (sgn pad sg pl)) ((3 * rd) + 1) (numV pad sg (pl + 1))) ((3 * rd) + 2) (if sdV pad sg (numP pad sg (pl + 1)) < 0 then -6 else sdV pad sg (numP pad sg (pl + 1)))) (rd + 1) (numP pad sg (pl + 1)) 1) ok zc7 0 rfl 15 (by decide) qf_RX7_173 rfl rfl rfl rfl (Nat.le_of_ble_eq_true rfl) dX7_readOne_174 rfl ?_
              have hE : (numP pad sg (pl + 1)) = ordE pad sg pl := by first | (unfold ordE; rw [zif_f hkn]; done) | (unfold ordE; rw [zif_t hk]; first | omega | ((repeat' split) <;> omega))
              have hW : 1 = zb (¬ ordOK pad sg pl) := by first | exact (zb_t (fun z => hkn z.1)).symm | exact (zb_t (fun z => by obtain ⟨o1, o2, o3, o4⟩ := z; first | omega | (have := o3 (by omega); omega) | (have := o4 (by omega); omega))).symm | exact (zb_f (fun z => z ⟨hk, by omega, fun e => by first | (exfalso; omega) | exact ⟨by omega, by omega⟩, fun e => by first | (exfalso; omega) | omega⟩)).symm
              have hO : ordOK pad sg pl → (rd + 1) = rd + 1 ∧ (zu (zu (zu ord (3 * rd) (sgn pad sg pl)) ((3 * rd) + 1) (numV pad sg (pl + 1))) ((3 * rd) + 2) (if sdV pad sg (numP pad sg (pl + 1)) < 0 then -6 else sdV pad sg (numP pad sg (pl + 1)))) (3 * rd) = sgn pad sg pl ∧ (zu (zu (zu ord (3 * rd) (sgn pad sg pl)) ((3 * rd) + 1) (numV pad sg (pl + 1))) ((3 * rd) + 2) (if sdV pad sg (numP pad sg (pl + 1)) < 0 then -6 else sdV pad sg (numP pad sg (pl + 1)))) (3 * rd + 1) = numV pad sg (pl + 1) ∧ (sgn pad sg pl ≠ 116 → (zu (zu (zu ord (3 * rd) (sgn pad sg pl)) ((3 * rd) + 1) (numV pad sg (pl + 1))) ((3 * rd) + 2) (if sdV pad sg (numP pad sg (pl + 1)) < 0 then -6 else sdV pad sg (numP pad sg (pl + 1)))) (3 * rd + 2) = ordS pad sg pl) := by first | exact fun ho => absurd ho.1 hkn | (intro ho; obtain ⟨o1, o2, o3, o4⟩ := ho; first | (exfalso; omega) | (exfalso; have := o3 (by omega); omega) | (exfalso; have := o4 (by omega); omega) | exact ⟨rfl, by rw [zu_n (by omega), zu_n (by omega), zu_s], by rw [zu_n (by omega), zu_s], fun _ => by rw [zu_s]; unfold ordS; first | rw [if_pos (by omega)] | rw [if_neg (by omega)]⟩ | exact ⟨rfl, by rw [zu_n (by omega), zu_s], by rw [zu_s], fun z => absurd (by omega) z⟩)
              have hX : ∀ x : Int, x < 3 * rd → (zu (zu (zu ord (3 * rd) (sgn pad sg pl)) ((3 * rd) + 1) (numV pad sg (pl + 1))) ((3 * rd) + 2) (if sdV pad sg (numP pad sg (pl + 1)) < 0 then -6 else sdV pad sg (numP pad sg (pl + 1)))) x = ord x := by intro x hx; first | (rw [zu_n (by omega), zu_n (by omega), zu_n (by omega)]; done) | (rw [zu_n (by omega), zu_n (by omega)]; done) | (rw [zu_n (by omega)])
              have hR : rd ≤ (rd + 1) ∧ (rd + 1) ≤ rd + 1 := by omega
              exact fin (zu (zu (zu ord (3 * rd) (sgn pad sg pl)) ((3 * rd) + 1) (numV pad sg (pl + 1))) ((3 * rd) + 2) (if sdV pad sg (numP pad sg (pl + 1)) < 0 then -6 else sdV pad sg (numP pad sg (pl + 1))), numP pad sg (pl + 1), 1, rd + 1) 177 _ _ _ dX7_readOne_177 (⟨hE, hW, hO, hX, hR.1, hR.2⟩) (by decide) (by decide)
            · -- split
              refine z_eq (ws' := mW Z q now kept hist und sav isv pad sg it far many laid sides stuck (zu (zu ord (3 * rd) (sgn pad sg pl)) ((3 * rd) + 1) (numV pad sg (pl + 1))) rd (numP pad sg (pl + 1) + 1) 0) (by rw [if_neg (show ¬ (¬ (0 : Int) = 0 ∨ sdV pad sg (numP pad sg (pl + 1)) < 0) from fun z => z.elim (fun y => y rfl) hq), if_neg (show ¬ (¬ (0 : Int) = 0 ∨ sdV pad sg (numP pad sg (pl + 1)) < 0) from fun z => z.elim (fun y => y rfl) hq)]) ?_
              refine z_st (st' := [.int (iI (sdV pad sg (numP pad sg (pl + 1)))), .int (iI ((3 * rd) + 2)), .ref (q 12)]) (by rw [if_neg hq]) ?_
              refine z_iast (f := zu (zu ord (3 * rd) (sgn pad sg pl)) ((3 * rd) + 1) (numV pad sg (pl + 1))) (v := sdV pad sg (numP pad sg (pl + 1))) (ws' := mW Z q now kept hist und sav isv pad sg it far many laid sides stuck (zu (zu (zu ord (3 * rd) (sgn pad sg pl)) ((3 * rd) + 1) (numV pad sg (pl + 1))) ((3 * rd) + 2) (sdV pad sg (numP pad sg (pl + 1)))) rd (numP pad sg (pl + 1) + 1) 0) ok 12 rfl dX7_readOne_166 (by omega) (by decide) rfl ?_
              refine z_aload_n ok dX7_readOne_167 rfl ?_
              refine z_dup ok dX7_readOne_168 rfl ?_
              refine z_get (v := .int (iI rd)) ok zc7 0 rfl 15 (by decide) qf_RX7_173 rfl rfl dX7_readOne_169 ?_
              refine z_iconst ok dX7_readOne_172 ?_
              refine z_iadd ok dX7_readOne_173 ?_
              refine z_put (ws' := mW Z q now kept hist und sav isv pad sg it far many laid sides stuck (zu (zu (zu ord (3 * rd) (sgn pad sg pl)) ((3 * rd) + 1) (numV pad sg (pl + 1))) ((3 * rd) + 2) (sdV pad sg (numP pad sg (pl + 1)))) (rd + 1) (numP pad sg (pl + 1) + 1) 0) ok zc7 0 rfl 15 (by decide) qf_RX7_173 rfl rfl rfl rfl (Nat.le_of_ble_eq_true rfl) dX7_readOne_174 rfl ?_
              have hE : (numP pad sg (pl + 1) + 1) = ordE pad sg pl := by first | (unfold ordE; rw [zif_f hkn]; done) | (unfold ordE; rw [zif_t hk]; first | omega | ((repeat' split) <;> omega))
              have hW : 0 = zb (¬ ordOK pad sg pl) := by first | exact (zb_t (fun z => hkn z.1)).symm | exact (zb_t (fun z => by obtain ⟨o1, o2, o3, o4⟩ := z; first | omega | (have := o3 (by omega); omega) | (have := o4 (by omega); omega))).symm | exact (zb_f (fun z => z ⟨hk, by omega, fun e => by first | (exfalso; omega) | exact ⟨by omega, by omega⟩, fun e => by first | (exfalso; omega) | omega⟩)).symm
              have hO : ordOK pad sg pl → (rd + 1) = rd + 1 ∧ (zu (zu (zu ord (3 * rd) (sgn pad sg pl)) ((3 * rd) + 1) (numV pad sg (pl + 1))) ((3 * rd) + 2) (sdV pad sg (numP pad sg (pl + 1)))) (3 * rd) = sgn pad sg pl ∧ (zu (zu (zu ord (3 * rd) (sgn pad sg pl)) ((3 * rd) + 1) (numV pad sg (pl + 1))) ((3 * rd) + 2) (sdV pad sg (numP pad sg (pl + 1)))) (3 * rd + 1) = numV pad sg (pl + 1) ∧ (sgn pad sg pl ≠ 116 → (zu (zu (zu ord (3 * rd) (sgn pad sg pl)) ((3 * rd) + 1) (numV pad sg (pl + 1))) ((3 * rd) + 2) (sdV pad sg (numP pad sg (pl + 1)))) (3 * rd + 2) = ordS pad sg pl) := by first | exact fun ho => absurd ho.1 hkn | (intro ho; obtain ⟨o1, o2, o3, o4⟩ := ho; first | (exfalso; omega) | (exfalso; have := o3 (by omega); omega) | (exfalso; have := o4 (by omega); omega) | exact ⟨rfl, by rw [zu_n (by omega), zu_n (by omega), zu_s], by rw [zu_n (by omega), zu_s], fun _ => by rw [zu_s]; unfold ordS; first | rw [if_pos (by omega)] | rw [if_neg (by omega)]⟩ | exact ⟨rfl, by rw [zu_n (by omega), zu_s], by rw [zu_s], fun z => absurd (by omega) z⟩)
              have hX : ∀ x : Int, x < 3 * rd → (zu (zu (zu ord (3 * rd) (sgn pad sg pl)) ((3 * rd) + 1) (numV pad sg (pl + 1))) ((3 * rd) + 2) (sdV pad sg (numP pad sg (pl + 1)))) x = ord x := by intro x hx; first | (rw [zu_n (by omega), zu_n (by omega), zu_n (by omega)]; done) | (rw [zu_n (by omega), zu_n (by omega)]; done) | (rw [zu_n (by omega)])
              have hR : rd ≤ (rd + 1) ∧ (rd + 1) ≤ rd + 1 := by omega
              exact fin (zu (zu (zu ord (3 * rd) (sgn pad sg pl)) ((3 * rd) + 1) (numV pad sg (pl + 1))) ((3 * rd) + 2) (sdV pad sg (numP pad sg (pl + 1))), numP pad sg (pl + 1) + 1, 0, rd + 1) 177 _ _ _ dX7_readOne_177 (⟨hE, hW, hO, hX, hR.1, hR.2⟩) (by decide) (by decide)
        · -- f
          refine z_aload_n ok dX7_readOne_88 rfl ?_
          refine z_aload_n ok dX7_readOne_89 rfl ?_
          refine z_get (v := .int (iI 0)) ok zc7 0 rfl 17 (by decide) qf_RX7_170 rfl rfl dX7_readOne_90 ?_
          refine z_if_ne (tgt := 105) ok dX7_readOne_93 (by decide) (by omega) (fun c93 => ?_) (fun c93 => ?_)
          · -- t
            exact absurd c93 (by decide)
          · -- f
            refine z_aload_n ok dX7_readOne_96 rfl ?_
            refine z_callVi0 ok (fun l => c_X7_sign  (by omega) (by omega)) zm_X7_sign zv_X7_sign qm_RX7_167 dX7_readOne_97 (by decide) (by decide) rfl rfl (Nat.le_of_ble_eq_true rfl) (q0 := 0) rfl rfl rfl (fun ρ _ hρ => ?_)
            subst hρ
            refine z_eq (ws' := mW Z q now kept hist und sav isv pad sg it far many laid sides stuck (zu (zu ord (3 * rd) (sgn pad sg pl)) ((3 * rd) + 1) (numV pad sg (pl + 1))) rd (numP pad sg (pl + 1)) 0) rfl ?_
            refine z_bipush ok dX7_readOne_100 (by decide) ?_
            refine z_icmp_eq (tgt := 109) ok dX7_readOne_102 (by decide) (by omega) (by omega) (fun c102 => ?_) (fun c102 => ?_)
            · -- t
              refine z_iconst ok dX7_readOne_109 ?_
              refine z_put (ws' := mW Z q now kept hist und sav isv pad sg it far many laid sides stuck (zu (zu ord (3 * rd) (sgn pad sg pl)) ((3 * rd) + 1) (numV pad sg (pl + 1))) rd (numP pad sg (pl + 1)) 0) ok zc7 0 rfl 17 (by decide) qf_RX7_170 rfl rfl (znZ _ (by first | decide | exact zb_01 _ | omega)) (zfZ _ (by first | decide | exact zb_01 _ | omega)) (Nat.le_of_ble_eq_true rfl) dX7_readOne_110 rfl ?_
              refine z_aload_n ok dX7_readOne_113 rfl ?_
              refine z_dup ok dX7_readOne_114 rfl ?_
              refine z_get (v := .int (iI (numP pad sg (pl + 1)))) ok zc7 0 rfl 16 (by decide) qf_RX7_164 rfl rfl dX7_readOne_115 ?_
              refine z_aload_n ok dX7_readOne_118 rfl ?_
              refine z_get (v := .int (iI 0)) ok zc7 0 rfl 17 (by decide) qf_RX7_170 rfl rfl dX7_readOne_119 ?_
              refine z_if_eq (tgt := 129) ok dX7_readOne_122 (by decide) (by omega) (fun c122 => ?_) (fun c122 => ?_)
              · -- t
                refine z_iconst ok dX7_readOne_129 ?_
                refine z_iadd ok dX7_readOne_130 ?_
                refine z_put (ws' := mW Z q now kept hist und sav isv pad sg it far many laid sides stuck (zu (zu ord (3 * rd) (sgn pad sg pl)) ((3 * rd) + 1) (numV pad sg (pl + 1))) rd ((numP pad sg (pl + 1)) + 1) 0) ok zc7 0 rfl 16 (by decide) qf_RX7_164 rfl rfl rfl rfl (Nat.le_of_ble_eq_true rfl) dX7_readOne_131 rfl ?_
                refine z_aload_n ok dX7_readOne_134 rfl ?_
                refine z_get (v := .ref (q 12)) ok zc7 0 rfl 14 (by decide) qf_RX7_44 rfl rfl dX7_readOne_135 ?_
                refine z_iload_n ok dX7_readOne_138 rfl ?_
                refine z_iconst ok dX7_readOne_139 ?_
                refine z_iadd ok dX7_readOne_140 ?_
                refine z_aload_n ok dX7_readOne_141 rfl ?_
                refine z_callVi0 ok (fun l => c_X7_number  (hpd) (by omega) (by omega)) zm_X7_number zv_X7_number qm_RX7_176 dX7_readOne_142 (by decide) (by decide) rfl rfl (Nat.le_of_ble_eq_true rfl) (q0 := 0) rfl rfl rfl (fun ρ _ hρ => ?_)
                subst hρ
                refine z_eq (ws' := mW Z q now kept hist und sav isv pad sg it far many laid sides stuck (zu (zu ord (3 * rd) (sgn pad sg pl)) ((3 * rd) + 1) (numV pad sg (pl + 1))) rd (if (¬ 0 = 0 ∨ numV pad sg ((numP pad sg (pl + 1)) + 1) < 0) then ((numP pad sg (pl + 1)) + 1) else numP pad sg ((numP pad sg (pl + 1)) + 1)) (if (¬ 0 = 0 ∨ numV pad sg ((numP pad sg (pl + 1)) + 1) < 0) then 1 else 0)) rfl ?_
                by_cases hm : numV pad sg (numP pad sg (pl + 1) + 1) < 0
                · -- split
                  refine z_eq (ws' := mW Z q now kept hist und sav isv pad sg it far many laid sides stuck (zu (zu ord (3 * rd) (sgn pad sg pl)) ((3 * rd) + 1) (numV pad sg (pl + 1))) rd (numP pad sg (pl + 1) + 1) 1) (by rw [if_pos (show (¬ (0 : Int) = 0 ∨ numV pad sg (numP pad sg (pl + 1) + 1) < 0) from Or.inr hm), if_pos (show (¬ (0 : Int) = 0 ∨ numV pad sg (numP pad sg (pl + 1) + 1) < 0) from Or.inr hm)]) ?_
                  refine z_st (st' := [.int (iI 0), .int (iI ((3 * rd) + 2)), .ref (q 12)]) (by rw [if_pos (show (¬ (0 : Int) = 0 ∨ numV pad sg (numP pad sg (pl + 1) + 1) < 0) from Or.inr hm)]) ?_
                  refine z_iast (f := zu (zu ord (3 * rd) (sgn pad sg pl)) ((3 * rd) + 1) (numV pad sg (pl + 1))) (v := 0) (ws' := mW Z q now kept hist und sav isv pad sg it far many laid sides stuck (zu (zu (zu ord (3 * rd) (sgn pad sg pl)) ((3 * rd) + 1) (numV pad sg (pl + 1))) ((3 * rd) + 2) 0) rd (numP pad sg (pl + 1) + 1) 1) ok 12 rfl dX7_readOne_145 (by omega) (by decide) rfl ?_
                  refine z_goto (tgt := 167) ok dX7_readOne_146 (by decide) ?_
                  refine z_aload_n ok dX7_readOne_167 rfl ?_
                  refine z_dup ok dX7_readOne_168 rfl ?_
                  refine z_get (v := .int (iI rd)) ok zc7 0 rfl 15 (by decide) qf_RX7_173 rfl rfl dX7_readOne_169 ?_
                  refine z_iconst ok dX7_readOne_172 ?_
                  refine z_iadd ok dX7_readOne_173 ?_
                  refine z_put (ws' := mW Z q now kept hist und sav isv pad sg it far many laid sides stuck (zu (zu (zu ord (3 * rd) (sgn pad sg pl)) ((3 * rd) + 1) (numV pad sg (pl + 1))) ((3 * rd) + 2) 0) (rd + 1) (numP pad sg (pl + 1) + 1) 1) ok zc7 0 rfl 15 (by decide) qf_RX7_173 rfl rfl rfl rfl (Nat.le_of_ble_eq_true rfl) dX7_readOne_174 rfl ?_
                  have hE : (numP pad sg (pl + 1) + 1) = ordE pad sg pl := by first | (unfold ordE; rw [zif_f hkn]; done) | (unfold ordE; rw [zif_t hk]; first | omega | ((repeat' split) <;> omega))
                  have hW : 1 = zb (¬ ordOK pad sg pl) := by first | exact (zb_t (fun z => hkn z.1)).symm | exact (zb_t (fun z => by obtain ⟨o1, o2, o3, o4⟩ := z; first | omega | (have := o3 (by omega); omega) | (have := o4 (by omega); omega))).symm | exact (zb_f (fun z => z ⟨hk, by omega, fun e => by first | (exfalso; omega) | exact ⟨by omega, by omega⟩, fun e => by first | (exfalso; omega) | omega⟩)).symm
                  have hO : ordOK pad sg pl → (rd + 1) = rd + 1 ∧ (zu (zu (zu ord (3 * rd) (sgn pad sg pl)) ((3 * rd) + 1) (numV pad sg (pl + 1))) ((3 * rd) + 2) 0) (3 * rd) = sgn pad sg pl ∧ (zu (zu (zu ord (3 * rd) (sgn pad sg pl)) ((3 * rd) + 1) (numV pad sg (pl + 1))) ((3 * rd) + 2) 0) (3 * rd + 1) = numV pad sg (pl + 1) ∧ (sgn pad sg pl ≠ 116 → (zu (zu (zu ord (3 * rd) (sgn pad sg pl)) ((3 * rd) + 1) (numV pad sg (pl + 1))) ((3 * rd) + 2) 0) (3 * rd + 2) = ordS pad sg pl) := by first | exact fun ho => absurd ho.1 hkn | (intro ho; obtain ⟨o1, o2, o3, o4⟩ := ho; first | (exfalso; omega) | (exfalso; have := o3 (by omega); omega) | (exfalso; have := o4 (by omega); omega) | exact ⟨rfl, by rw [zu_n (by omega), zu_n (by omega), zu_s], by rw [zu_n (by omega), zu_s], fun _ => by rw [zu_s]; unfold ordS; first | rw [if_pos (by omega)] | rw [if_neg (by omega)]⟩ | exact ⟨rfl, by rw [zu_n (by omega), zu_s], by rw [zu_s], fun z => absurd (by omega) z⟩)
                  have hX : ∀ x : Int, x < 3 * rd → (zu (zu (zu ord (3 * rd) (sgn pad sg pl)) ((3 * rd) + 1) (numV pad sg (pl + 1))) ((3 * rd) + 2) 0) x = ord x := by intro x hx; first | (rw [zu_n (by omega), zu_n (by omega), zu_n (by omega)]; done) | (rw [zu_n (by omega), zu_n (by omega)]; done) | (rw [zu_n (by omega)])
                  have hR : rd ≤ (rd + 1) ∧ (rd + 1) ≤ rd + 1 := by omega
                  exact fin (zu (zu (zu ord (3 * rd) (sgn pad sg pl)) ((3 * rd) + 1) (numV pad sg (pl + 1))) ((3 * rd) + 2) 0, numP pad sg (pl + 1) + 1, 1, rd + 1) 177 _ _ _ dX7_readOne_177 (⟨hE, hW, hO, hX, hR.1, hR.2⟩) (by decide) (by decide)
                · -- split
                  refine z_eq (ws' := mW Z q now kept hist und sav isv pad sg it far many laid sides stuck (zu (zu ord (3 * rd) (sgn pad sg pl)) ((3 * rd) + 1) (numV pad sg (pl + 1))) rd (numP pad sg (numP pad sg (pl + 1) + 1)) 0) (by rw [if_neg (show ¬ (¬ (0 : Int) = 0 ∨ numV pad sg (numP pad sg (pl + 1) + 1) < 0) from fun z => z.elim (fun y => y rfl) hm), if_neg (show ¬ (¬ (0 : Int) = 0 ∨ numV pad sg (numP pad sg (pl + 1) + 1) < 0) from fun z => z.elim (fun y => y rfl) hm)]) ?_
                  refine z_st (st' := [.int (iI (numV pad sg (numP pad sg (pl + 1) + 1))), .int (iI ((3 * rd) + 2)), .ref (q 12)]) (by rw [if_neg (show ¬ (¬ (0 : Int) = 0 ∨ numV pad sg (numP pad sg (pl + 1) + 1) < 0) from fun z => z.elim (fun y => y rfl) hm)]) ?_
                  refine z_iast (f := zu (zu ord (3 * rd) (sgn pad sg pl)) ((3 * rd) + 1) (numV pad sg (pl + 1))) (v := numV pad sg (numP pad sg (pl + 1) + 1)) (ws' := mW Z q now kept hist und sav isv pad sg it far many laid sides stuck (zu (zu (zu ord (3 * rd) (sgn pad sg pl)) ((3 * rd) + 1) (numV pad sg (pl + 1))) ((3 * rd) + 2) (numV pad sg (numP pad sg (pl + 1) + 1))) rd (numP pad sg (numP pad sg (pl + 1) + 1)) 0) ok 12 rfl dX7_readOne_145 (by omega) (by decide) rfl ?_
                  refine z_goto (tgt := 167) ok dX7_readOne_146 (by decide) ?_
                  refine z_aload_n ok dX7_readOne_167 rfl ?_
                  refine z_dup ok dX7_readOne_168 rfl ?_
                  refine z_get (v := .int (iI rd)) ok zc7 0 rfl 15 (by decide) qf_RX7_173 rfl rfl dX7_readOne_169 ?_
                  refine z_iconst ok dX7_readOne_172 ?_
                  refine z_iadd ok dX7_readOne_173 ?_
                  refine z_put (ws' := mW Z q now kept hist und sav isv pad sg it far many laid sides stuck (zu (zu (zu ord (3 * rd) (sgn pad sg pl)) ((3 * rd) + 1) (numV pad sg (pl + 1))) ((3 * rd) + 2) (numV pad sg (numP pad sg (pl + 1) + 1))) (rd + 1) (numP pad sg (numP pad sg (pl + 1) + 1)) 0) ok zc7 0 rfl 15 (by decide) qf_RX7_173 rfl rfl rfl rfl (Nat.le_of_ble_eq_true rfl) dX7_readOne_174 rfl ?_
                  have hE : (numP pad sg (numP pad sg (pl + 1) + 1)) = ordE pad sg pl := by first | (unfold ordE; rw [zif_f hkn]; done) | (unfold ordE; rw [zif_t hk]; first | omega | ((repeat' split) <;> omega))
                  have hW : 0 = zb (¬ ordOK pad sg pl) := by first | exact (zb_t (fun z => hkn z.1)).symm | exact (zb_t (fun z => by obtain ⟨o1, o2, o3, o4⟩ := z; first | omega | (have := o3 (by omega); omega) | (have := o4 (by omega); omega))).symm | exact (zb_f (fun z => z ⟨hk, by omega, fun e => by first | (exfalso; omega) | exact ⟨by omega, by omega⟩, fun e => by first | (exfalso; omega) | omega⟩)).symm
                  have hO : ordOK pad sg pl → (rd + 1) = rd + 1 ∧ (zu (zu (zu ord (3 * rd) (sgn pad sg pl)) ((3 * rd) + 1) (numV pad sg (pl + 1))) ((3 * rd) + 2) (numV pad sg (numP pad sg (pl + 1) + 1))) (3 * rd) = sgn pad sg pl ∧ (zu (zu (zu ord (3 * rd) (sgn pad sg pl)) ((3 * rd) + 1) (numV pad sg (pl + 1))) ((3 * rd) + 2) (numV pad sg (numP pad sg (pl + 1) + 1))) (3 * rd + 1) = numV pad sg (pl + 1) ∧ (sgn pad sg pl ≠ 116 → (zu (zu (zu ord (3 * rd) (sgn pad sg pl)) ((3 * rd) + 1) (numV pad sg (pl + 1))) ((3 * rd) + 2) (numV pad sg (numP pad sg (pl + 1) + 1))) (3 * rd + 2) = ordS pad sg pl) := by first | exact fun ho => absurd ho.1 hkn | (intro ho; obtain ⟨o1, o2, o3, o4⟩ := ho; first | (exfalso; omega) | (exfalso; have := o3 (by omega); omega) | (exfalso; have := o4 (by omega); omega) | exact ⟨rfl, by rw [zu_n (by omega), zu_n (by omega), zu_s], by rw [zu_n (by omega), zu_s], fun _ => by rw [zu_s]; unfold ordS; first | rw [if_pos (by omega)] | rw [if_neg (by omega)]⟩ | exact ⟨rfl, by rw [zu_n (by omega), zu_s], by rw [zu_s], fun z => absurd (by omega) z⟩)
                  have hX : ∀ x : Int, x < 3 * rd → (zu (zu (zu ord (3 * rd) (sgn pad sg pl)) ((3 * rd) + 1) (numV pad sg (pl + 1))) ((3 * rd) + 2) (numV pad sg (numP pad sg (pl + 1) + 1))) x = ord x := by intro x hx; first | (rw [zu_n (by omega), zu_n (by omega), zu_n (by omega)]; done) | (rw [zu_n (by omega), zu_n (by omega)]; done) | (rw [zu_n (by omega)])
                  have hR : rd ≤ (rd + 1) ∧ (rd + 1) ≤ rd + 1 := by omega
                  exact fin (zu (zu (zu ord (3 * rd) (sgn pad sg pl)) ((3 * rd) + 1) (numV pad sg (pl + 1))) ((3 * rd) + 2) (numV pad sg (numP pad sg (pl + 1) + 1)), numP pad sg (numP pad sg (pl + 1) + 1), 0, rd + 1) 177 _ _ _ dX7_readOne_177 (⟨hE, hW, hO, hX, hR.1, hR.2⟩) (by decide) (by decide)
              · -- f
                exact absurd c122 (by decide)
            · -- f
              refine z_iconst ok dX7_readOne_105 ?_
              refine z_goto (tgt := 110) ok dX7_readOne_106 (by decide) ?_
              refine z_put (ws' := mW Z q now kept hist und sav isv pad sg it far many laid sides stuck (zu (zu ord (3 * rd) (sgn pad sg pl)) ((3 * rd) + 1) (numV pad sg (pl + 1))) rd (numP pad sg (pl + 1)) 1) ok zc7 0 rfl 17 (by decide) qf_RX7_170 rfl rfl (znZ _ (by first | decide | exact zb_01 _ | omega)) (zfZ _ (by first | decide | exact zb_01 _ | omega)) (Nat.le_of_ble_eq_true rfl) dX7_readOne_110 rfl ?_
              refine z_aload_n ok dX7_readOne_113 rfl ?_
              refine z_dup ok dX7_readOne_114 rfl ?_
              refine z_get (v := .int (iI (numP pad sg (pl + 1)))) ok zc7 0 rfl 16 (by decide) qf_RX7_164 rfl rfl dX7_readOne_115 ?_
              refine z_aload_n ok dX7_readOne_118 rfl ?_
              refine z_get (v := .int (iI 1)) ok zc7 0 rfl 17 (by decide) qf_RX7_170 rfl rfl dX7_readOne_119 ?_
              refine z_if_eq (tgt := 129) ok dX7_readOne_122 (by decide) (by omega) (fun c122 => ?_) (fun c122 => ?_)
              · -- t
                exact absurd c122 (by decide)
              · -- f
                refine z_iconst ok dX7_readOne_125 ?_
                refine z_goto (tgt := 130) ok dX7_readOne_126 (by decide) ?_
                refine z_iadd ok dX7_readOne_130 ?_
                refine z_put (ws' := mW Z q now kept hist und sav isv pad sg it far many laid sides stuck (zu (zu ord (3 * rd) (sgn pad sg pl)) ((3 * rd) + 1) (numV pad sg (pl + 1))) rd ((numP pad sg (pl + 1)) + 0) 1) ok zc7 0 rfl 16 (by decide) qf_RX7_164 rfl rfl rfl rfl (Nat.le_of_ble_eq_true rfl) dX7_readOne_131 rfl ?_
                refine z_aload_n ok dX7_readOne_134 rfl ?_
                refine z_get (v := .ref (q 12)) ok zc7 0 rfl 14 (by decide) qf_RX7_44 rfl rfl dX7_readOne_135 ?_
                refine z_iload_n ok dX7_readOne_138 rfl ?_
                refine z_iconst ok dX7_readOne_139 ?_
                refine z_iadd ok dX7_readOne_140 ?_
                refine z_aload_n ok dX7_readOne_141 rfl ?_
                refine z_callVi0 ok (fun l => c_X7_number  (hpd) (by omega) (by omega)) zm_X7_number zv_X7_number qm_RX7_176 dX7_readOne_142 (by decide) (by decide) rfl rfl (Nat.le_of_ble_eq_true rfl) (q0 := 0) rfl rfl rfl (fun ρ _ hρ => ?_)
                subst hρ
                refine z_eq (ws' := mW Z q now kept hist und sav isv pad sg it far many laid sides stuck (zu (zu ord (3 * rd) (sgn pad sg pl)) ((3 * rd) + 1) (numV pad sg (pl + 1))) rd (if (¬ 1 = 0 ∨ numV pad sg ((numP pad sg (pl + 1)) + 0) < 0) then ((numP pad sg (pl + 1)) + 0) else numP pad sg ((numP pad sg (pl + 1)) + 0)) (if (¬ 1 = 0 ∨ numV pad sg ((numP pad sg (pl + 1)) + 0) < 0) then 1 else 0)) rfl ?_
                refine z_eq (ws' := mW Z q now kept hist und sav isv pad sg it far many laid sides stuck (zu (zu ord (3 * rd) (sgn pad sg pl)) ((3 * rd) + 1) (numV pad sg (pl + 1))) rd ((numP pad sg (pl + 1)) + 0) 1) (by rw [if_pos (show (¬ (1 : Int) = 0 ∨ numV pad sg ((numP pad sg (pl + 1)) + 0) < 0) from Or.inl (by decide)), if_pos (show (¬ (1 : Int) = 0 ∨ numV pad sg ((numP pad sg (pl + 1)) + 0) < 0) from Or.inl (by decide))]) ?_
                refine z_st (st' := [.int (iI 0), .int (iI ((3 * rd) + 2)), .ref (q 12)]) (by rw [if_pos (show (¬ (1 : Int) = 0 ∨ numV pad sg ((numP pad sg (pl + 1)) + 0) < 0) from Or.inl (by decide))]) ?_
                refine z_iast (f := zu (zu ord (3 * rd) (sgn pad sg pl)) ((3 * rd) + 1) (numV pad sg (pl + 1))) (v := 0) (ws' := mW Z q now kept hist und sav isv pad sg it far many laid sides stuck (zu (zu (zu ord (3 * rd) (sgn pad sg pl)) ((3 * rd) + 1) (numV pad sg (pl + 1))) ((3 * rd) + 2) 0) rd ((numP pad sg (pl + 1)) + 0) 1) ok 12 rfl dX7_readOne_145 (by omega) (by decide) rfl ?_
                refine z_goto (tgt := 167) ok dX7_readOne_146 (by decide) ?_
                refine z_aload_n ok dX7_readOne_167 rfl ?_
                refine z_dup ok dX7_readOne_168 rfl ?_
                refine z_get (v := .int (iI rd)) ok zc7 0 rfl 15 (by decide) qf_RX7_173 rfl rfl dX7_readOne_169 ?_
                refine z_iconst ok dX7_readOne_172 ?_
                refine z_iadd ok dX7_readOne_173 ?_
                refine z_put (ws' := mW Z q now kept hist und sav isv pad sg it far many laid sides stuck (zu (zu (zu ord (3 * rd) (sgn pad sg pl)) ((3 * rd) + 1) (numV pad sg (pl + 1))) ((3 * rd) + 2) 0) (rd + 1) ((numP pad sg (pl + 1)) + 0) 1) ok zc7 0 rfl 15 (by decide) qf_RX7_173 rfl rfl rfl rfl (Nat.le_of_ble_eq_true rfl) dX7_readOne_174 rfl ?_
                have hE : ((numP pad sg (pl + 1)) + 0) = ordE pad sg pl := by first | (unfold ordE; rw [zif_f hkn]; done) | (unfold ordE; rw [zif_t hk]; first | omega | ((repeat' split) <;> omega))
                have hW : 1 = zb (¬ ordOK pad sg pl) := by first | exact (zb_t (fun z => hkn z.1)).symm | exact (zb_t (fun z => by obtain ⟨o1, o2, o3, o4⟩ := z; first | omega | (have := o3 (by omega); omega) | (have := o4 (by omega); omega))).symm | exact (zb_f (fun z => z ⟨hk, by omega, fun e => by first | (exfalso; omega) | exact ⟨by omega, by omega⟩, fun e => by first | (exfalso; omega) | omega⟩)).symm
                have hO : ordOK pad sg pl → (rd + 1) = rd + 1 ∧ (zu (zu (zu ord (3 * rd) (sgn pad sg pl)) ((3 * rd) + 1) (numV pad sg (pl + 1))) ((3 * rd) + 2) 0) (3 * rd) = sgn pad sg pl ∧ (zu (zu (zu ord (3 * rd) (sgn pad sg pl)) ((3 * rd) + 1) (numV pad sg (pl + 1))) ((3 * rd) + 2) 0) (3 * rd + 1) = numV pad sg (pl + 1) ∧ (sgn pad sg pl ≠ 116 → (zu (zu (zu ord (3 * rd) (sgn pad sg pl)) ((3 * rd) + 1) (numV pad sg (pl + 1))) ((3 * rd) + 2) 0) (3 * rd + 2) = ordS pad sg pl) := by first | exact fun ho => absurd ho.1 hkn | (intro ho; obtain ⟨o1, o2, o3, o4⟩ := ho; first | (exfalso; omega) | (exfalso; have := o3 (by omega); omega) | (exfalso; have := o4 (by omega); omega) | exact ⟨rfl, by rw [zu_n (by omega), zu_n (by omega), zu_s], by rw [zu_n (by omega), zu_s], fun _ => by rw [zu_s]; unfold ordS; first | rw [if_pos (by omega)] | rw [if_neg (by omega)]⟩ | exact ⟨rfl, by rw [zu_n (by omega), zu_s], by rw [zu_s], fun z => absurd (by omega) z⟩)
                have hX : ∀ x : Int, x < 3 * rd → (zu (zu (zu ord (3 * rd) (sgn pad sg pl)) ((3 * rd) + 1) (numV pad sg (pl + 1))) ((3 * rd) + 2) 0) x = ord x := by intro x hx; first | (rw [zu_n (by omega), zu_n (by omega), zu_n (by omega)]; done) | (rw [zu_n (by omega), zu_n (by omega)]; done) | (rw [zu_n (by omega)])
                have hR : rd ≤ (rd + 1) ∧ (rd + 1) ≤ rd + 1 := by omega
                exact fin (zu (zu (zu ord (3 * rd) (sgn pad sg pl)) ((3 * rd) + 1) (numV pad sg (pl + 1))) ((3 * rd) + 2) 0, ((numP pad sg (pl + 1)) + 0), 1, rd + 1) 177 _ _ _ dX7_readOne_177 (⟨hE, hW, hO, hX, hR.1, hR.2⟩) (by decide) (by decide)
    · -- f
      exact absurd c56 (by decide)
  · -- f
    refine z_iload_n ok dX7_readOne_26 rfl ?_
    refine z_bipush ok dX7_readOne_27 (by decide) ?_
    refine z_icmp_eq (tgt := 48) ok dX7_readOne_29 (by decide) (by omega) (by omega) (fun c29 => ?_) (fun c29 => ?_)
    · -- t
      have hk : knd pad sg pl := by unfold knd; omega
      refine z_iconst ok dX7_readOne_48 ?_
      refine z_put (ws' := mW Z q now kept hist und sav isv pad sg it far many laid sides stuck (zu ord (3 * rd) (sgn pad sg pl)) rd pl 0) ok zc7 0 rfl 17 (by decide) qf_RX7_170 rfl rfl (znZ _ (by first | decide | exact zb_01 _ | omega)) (zfZ _ (by first | decide | exact zb_01 _ | omega)) (Nat.le_of_ble_eq_true rfl) dX7_readOne_49 rfl ?_
      refine z_aload_n ok dX7_readOne_52 rfl ?_
      refine z_get (v := .int (iI 0)) ok zc7 0 rfl 17 (by decide) qf_RX7_170 rfl rfl dX7_readOne_53 ?_
      refine z_if_eq (tgt := 60) ok dX7_readOne_56 (by decide) (by omega) (fun c56 => ?_) (fun c56 => ?_)
      · -- t
        refine z_aload_n ok dX7_readOne_60 rfl ?_
        refine z_dup ok dX7_readOne_61 rfl ?_
        refine z_get (v := .int (iI pl)) ok zc7 0 rfl 16 (by decide) qf_RX7_164 rfl rfl dX7_readOne_62 ?_
        refine z_iconst ok dX7_readOne_65 ?_
        refine z_iadd ok dX7_readOne_66 ?_
        refine z_put (ws' := mW Z q now kept hist und sav isv pad sg it far many laid sides stuck (zu ord (3 * rd) (sgn pad sg pl)) rd (pl + 1) 0) ok zc7 0 rfl 16 (by decide) qf_RX7_164 rfl rfl rfl rfl (Nat.le_of_ble_eq_true rfl) dX7_readOne_67 rfl ?_
        refine z_aload_n ok dX7_readOne_70 rfl ?_
        refine z_get (v := .ref (q 12)) ok zc7 0 rfl 14 (by decide) qf_RX7_44 rfl rfl dX7_readOne_71 ?_
        refine z_iload_n ok dX7_readOne_74 rfl ?_
        refine z_iconst ok dX7_readOne_75 ?_
        refine z_iadd ok dX7_readOne_76 ?_
        refine z_aload_n ok dX7_readOne_77 rfl ?_
        refine z_callVi0 ok (fun l => c_X7_number  (hpd) (by omega) (by omega)) zm_X7_number zv_X7_number qm_RX7_176 dX7_readOne_78 (by decide) (by decide) rfl rfl (Nat.le_of_ble_eq_true rfl) (q0 := 0) rfl rfl rfl (fun ρ _ hρ => ?_)
        subst hρ
        refine z_eq (ws' := mW Z q now kept hist und sav isv pad sg it far many laid sides stuck (zu ord (3 * rd) (sgn pad sg pl)) rd (if (¬ 0 = 0 ∨ numV pad sg (pl + 1) < 0) then (pl + 1) else numP pad sg (pl + 1)) (if (¬ 0 = 0 ∨ numV pad sg (pl + 1) < 0) then 1 else 0)) rfl ?_
        by_cases hn : numV pad sg (pl + 1) < 0
        · -- split
          refine z_eq (ws' := mW Z q now kept hist und sav isv pad sg it far many laid sides stuck (zu ord (3 * rd) (sgn pad sg pl)) rd (pl + 1) 1) (by rw [if_pos (show (¬ (0 : Int) = 0 ∨ numV pad sg (pl + 1) < 0) from Or.inr hn), if_pos (show (¬ (0 : Int) = 0 ∨ numV pad sg (pl + 1) < 0) from Or.inr hn)]) ?_
          refine z_st (st' := [.int (iI 0), .int (iI ((3 * rd) + 1)), .ref (q 12)]) (by rw [if_pos (show (¬ (0 : Int) = 0 ∨ numV pad sg (pl + 1) < 0) from Or.inr hn)]) ?_
          refine z_iast (f := zu ord (3 * rd) (sgn pad sg pl)) (v := 0) (ws' := mW Z q now kept hist und sav isv pad sg it far many laid sides stuck (zu (zu ord (3 * rd) (sgn pad sg pl)) ((3 * rd) + 1) 0) rd (pl + 1) 1) ok 12 rfl dX7_readOne_81 (by omega) (by decide) rfl ?_
          refine z_iload_n ok dX7_readOne_82 rfl ?_
          refine z_bipush ok dX7_readOne_83 (by decide) ?_
          refine z_icmp_ne (tgt := 149) ok dX7_readOne_85 (by decide) (by omega) (by omega) (fun c85 => ?_) (fun c85 => ?_)
          · -- t
            refine z_iload_n ok dX7_readOne_149 rfl ?_
            refine z_bipush ok dX7_readOne_150 (by decide) ?_
            refine z_icmp_eq (tgt := 167) ok dX7_readOne_152 (by decide) (by omega) (by omega) (fun c152 => ?_) (fun c152 => ?_)
            · -- t
              refine z_aload_n ok dX7_readOne_167 rfl ?_
              refine z_dup ok dX7_readOne_168 rfl ?_
              refine z_get (v := .int (iI rd)) ok zc7 0 rfl 15 (by decide) qf_RX7_173 rfl rfl dX7_readOne_169 ?_
              refine z_iconst ok dX7_readOne_172 ?_
              refine z_iadd ok dX7_readOne_173 ?_
              refine z_put (ws' := mW Z q now kept hist und sav isv pad sg it far many laid sides stuck (zu (zu ord (3 * rd) (sgn pad sg pl)) ((3 * rd) + 1) 0) (rd + 1) (pl + 1) 1) ok zc7 0 rfl 15 (by decide) qf_RX7_173 rfl rfl rfl rfl (Nat.le_of_ble_eq_true rfl) dX7_readOne_174 rfl ?_
              have hE : (pl + 1) = ordE pad sg pl := by first | (unfold ordE; rw [zif_f hkn]; done) | (unfold ordE; rw [zif_t hk]; first | omega | ((repeat' split) <;> omega))
              have hW : 1 = zb (¬ ordOK pad sg pl) := by first | exact (zb_t (fun z => hkn z.1)).symm | exact (zb_t (fun z => by obtain ⟨o1, o2, o3, o4⟩ := z; first | omega | (have := o3 (by omega); omega) | (have := o4 (by omega); omega))).symm | exact (zb_f (fun z => z ⟨hk, by omega, fun e => by first | (exfalso; omega) | exact ⟨by omega, by omega⟩, fun e => by first | (exfalso; omega) | omega⟩)).symm
              have hO : ordOK pad sg pl → (rd + 1) = rd + 1 ∧ (zu (zu ord (3 * rd) (sgn pad sg pl)) ((3 * rd) + 1) 0) (3 * rd) = sgn pad sg pl ∧ (zu (zu ord (3 * rd) (sgn pad sg pl)) ((3 * rd) + 1) 0) (3 * rd + 1) = numV pad sg (pl + 1) ∧ (sgn pad sg pl ≠ 116 → (zu (zu ord (3 * rd) (sgn pad sg pl)) ((3 * rd) + 1) 0) (3 * rd + 2) = ordS pad sg pl) := by first | exact fun ho => absurd ho.1 hkn | (intro ho; obtain ⟨o1, o2, o3, o4⟩ := ho; first | (exfalso; omega) | (exfalso; have := o3 (by omega); omega) | (exfalso; have := o4 (by omega); omega) | exact ⟨rfl, by rw [zu_n (by omega), zu_n (by omega), zu_s], by rw [zu_n (by omega), zu_s], fun _ => by rw [zu_s]; unfold ordS; first | rw [if_pos (by omega)] | rw [if_neg (by omega)]⟩ | exact ⟨rfl, by rw [zu_n (by omega), zu_s], by rw [zu_s], fun z => absurd (by omega) z⟩)
              have hX : ∀ x : Int, x < 3 * rd → (zu (zu ord (3 * rd) (sgn pad sg pl)) ((3 * rd) + 1) 0) x = ord x := by intro x hx; first | (rw [zu_n (by omega), zu_n (by omega), zu_n (by omega)]; done) | (rw [zu_n (by omega), zu_n (by omega)]; done) | (rw [zu_n (by omega)])
              have hR : rd ≤ (rd + 1) ∧ (rd + 1) ≤ rd + 1 := by omega
              exact fin (zu (zu ord (3 * rd) (sgn pad sg pl)) ((3 * rd) + 1) 0, pl + 1, 1, rd + 1) 177 _ _ _ dX7_readOne_177 (⟨hE, hW, hO, hX, hR.1, hR.2⟩) (by decide) (by decide)
            · -- f
              refine z_aload_n ok dX7_readOne_155 rfl ?_
              refine z_get (v := .ref (q 12)) ok zc7 0 rfl 14 (by decide) qf_RX7_44 rfl rfl dX7_readOne_156 ?_
              refine z_iload_n ok dX7_readOne_159 rfl ?_
              refine z_iconst ok dX7_readOne_160 ?_
              refine z_iadd ok dX7_readOne_161 ?_
              refine z_aload_n ok dX7_readOne_162 rfl ?_
              refine z_callVi0 ok (fun l => c_X7_side  (hpd) (by omega) (by omega)) zm_X7_side zv_X7_side qm_RX7_179 dX7_readOne_163 (by decide) (by decide) rfl rfl (Nat.le_of_ble_eq_true rfl) (q0 := 0) rfl rfl rfl (fun ρ _ hρ => ?_)
              subst hρ
              refine z_eq (ws' := mW Z q now kept hist und sav isv pad sg it far many laid sides stuck (zu (zu ord (3 * rd) (sgn pad sg pl)) ((3 * rd) + 1) 0) rd (if (¬ 1 = 0 ∨ sdV pad sg (pl + 1) < 0) then (pl + 1) else (pl + 1) + 1) (if (¬ 1 = 0 ∨ sdV pad sg (pl + 1) < 0) then 1 else 0)) rfl ?_
              refine z_eq (ws' := mW Z q now kept hist und sav isv pad sg it far many laid sides stuck (zu (zu ord (3 * rd) (sgn pad sg pl)) ((3 * rd) + 1) 0) rd (pl + 1) 1) (by rw [if_pos (show (¬ (1 : Int) = 0 ∨ sdV pad sg (pl + 1) < 0) from Or.inl (by decide)), if_pos (show (¬ (1 : Int) = 0 ∨ sdV pad sg (pl + 1) < 0) from Or.inl (by decide))]) ?_
              refine z_iast (f := zu (zu ord (3 * rd) (sgn pad sg pl)) ((3 * rd) + 1) 0) (v := (if sdV pad sg (pl + 1) < 0 then -6 else sdV pad sg (pl + 1))) (ws' := mW Z q now kept hist und sav isv pad sg it far many laid sides stuck (zu (zu (zu ord (3 * rd) (sgn pad sg pl)) ((3 * rd) + 1) 0) ((3 * rd) + 2) (if sdV pad sg (pl + 1) < 0 then -6 else sdV pad sg (pl + 1))) rd (pl + 1) 1) ok 12 rfl dX7_readOne_166 (by omega) (by decide) rfl ?_
              refine z_aload_n ok dX7_readOne_167 rfl ?_
              refine z_dup ok dX7_readOne_168 rfl ?_
              refine z_get (v := .int (iI rd)) ok zc7 0 rfl 15 (by decide) qf_RX7_173 rfl rfl dX7_readOne_169 ?_
              refine z_iconst ok dX7_readOne_172 ?_
              refine z_iadd ok dX7_readOne_173 ?_
              refine z_put (ws' := mW Z q now kept hist und sav isv pad sg it far many laid sides stuck (zu (zu (zu ord (3 * rd) (sgn pad sg pl)) ((3 * rd) + 1) 0) ((3 * rd) + 2) (if sdV pad sg (pl + 1) < 0 then -6 else sdV pad sg (pl + 1))) (rd + 1) (pl + 1) 1) ok zc7 0 rfl 15 (by decide) qf_RX7_173 rfl rfl rfl rfl (Nat.le_of_ble_eq_true rfl) dX7_readOne_174 rfl ?_
              have hE : (pl + 1) = ordE pad sg pl := by first | (unfold ordE; rw [zif_f hkn]; done) | (unfold ordE; rw [zif_t hk]; first | omega | ((repeat' split) <;> omega))
              have hW : 1 = zb (¬ ordOK pad sg pl) := by first | exact (zb_t (fun z => hkn z.1)).symm | exact (zb_t (fun z => by obtain ⟨o1, o2, o3, o4⟩ := z; first | omega | (have := o3 (by omega); omega) | (have := o4 (by omega); omega))).symm | exact (zb_f (fun z => z ⟨hk, by omega, fun e => by first | (exfalso; omega) | exact ⟨by omega, by omega⟩, fun e => by first | (exfalso; omega) | omega⟩)).symm
              have hO : ordOK pad sg pl → (rd + 1) = rd + 1 ∧ (zu (zu (zu ord (3 * rd) (sgn pad sg pl)) ((3 * rd) + 1) 0) ((3 * rd) + 2) (if sdV pad sg (pl + 1) < 0 then -6 else sdV pad sg (pl + 1))) (3 * rd) = sgn pad sg pl ∧ (zu (zu (zu ord (3 * rd) (sgn pad sg pl)) ((3 * rd) + 1) 0) ((3 * rd) + 2) (if sdV pad sg (pl + 1) < 0 then -6 else sdV pad sg (pl + 1))) (3 * rd + 1) = numV pad sg (pl + 1) ∧ (sgn pad sg pl ≠ 116 → (zu (zu (zu ord (3 * rd) (sgn pad sg pl)) ((3 * rd) + 1) 0) ((3 * rd) + 2) (if sdV pad sg (pl + 1) < 0 then -6 else sdV pad sg (pl + 1))) (3 * rd + 2) = ordS pad sg pl) := by first | exact fun ho => absurd ho.1 hkn | (intro ho; obtain ⟨o1, o2, o3, o4⟩ := ho; first | (exfalso; omega) | (exfalso; have := o3 (by omega); omega) | (exfalso; have := o4 (by omega); omega) | exact ⟨rfl, by rw [zu_n (by omega), zu_n (by omega), zu_s], by rw [zu_n (by omega), zu_s], fun _ => by rw [zu_s]; unfold ordS; first | rw [if_pos (by omega)] | rw [if_neg (by omega)]⟩ | exact ⟨rfl, by rw [zu_n (by omega), zu_s], by rw [zu_s], fun z => absurd (by omega) z⟩)
              have hX : ∀ x : Int, x < 3 * rd → (zu (zu (zu ord (3 * rd) (sgn pad sg pl)) ((3 * rd) + 1) 0) ((3 * rd) + 2) (if sdV pad sg (pl + 1) < 0 then -6 else sdV pad sg (pl + 1))) x = ord x := by intro x hx; first | (rw [zu_n (by omega), zu_n (by omega), zu_n (by omega)]; done) | (rw [zu_n (by omega), zu_n (by omega)]; done) | (rw [zu_n (by omega)])
              have hR : rd ≤ (rd + 1) ∧ (rd + 1) ≤ rd + 1 := by omega
              exact fin (zu (zu (zu ord (3 * rd) (sgn pad sg pl)) ((3 * rd) + 1) 0) ((3 * rd) + 2) (if sdV pad sg (pl + 1) < 0 then -6 else sdV pad sg (pl + 1)), pl + 1, 1, rd + 1) 177 _ _ _ dX7_readOne_177 (⟨hE, hW, hO, hX, hR.1, hR.2⟩) (by decide) (by decide)
          · -- f
            refine z_aload_n ok dX7_readOne_88 rfl ?_
            refine z_aload_n ok dX7_readOne_89 rfl ?_
            refine z_get (v := .int (iI 1)) ok zc7 0 rfl 17 (by decide) qf_RX7_170 rfl rfl dX7_readOne_90 ?_
            refine z_if_ne (tgt := 105) ok dX7_readOne_93 (by decide) (by omega) (fun c93 => ?_) (fun c93 => ?_)
            · -- t
              refine z_iconst ok dX7_readOne_105 ?_
              refine z_goto (tgt := 110) ok dX7_readOne_106 (by decide) ?_
              refine z_put (ws' := mW Z q now kept hist und sav isv pad sg it far many laid sides stuck (zu (zu ord (3 * rd) (sgn pad sg pl)) ((3 * rd) + 1) 0) rd (pl + 1) 1) ok zc7 0 rfl 17 (by decide) qf_RX7_170 rfl rfl (znZ _ (by first | decide | exact zb_01 _ | omega)) (zfZ _ (by first | decide | exact zb_01 _ | omega)) (Nat.le_of_ble_eq_true rfl) dX7_readOne_110 rfl ?_
              refine z_aload_n ok dX7_readOne_113 rfl ?_
              refine z_dup ok dX7_readOne_114 rfl ?_
              refine z_get (v := .int (iI (pl + 1))) ok zc7 0 rfl 16 (by decide) qf_RX7_164 rfl rfl dX7_readOne_115 ?_
              refine z_aload_n ok dX7_readOne_118 rfl ?_
              refine z_get (v := .int (iI 1)) ok zc7 0 rfl 17 (by decide) qf_RX7_170 rfl rfl dX7_readOne_119 ?_
              refine z_if_eq (tgt := 129) ok dX7_readOne_122 (by decide) (by omega) (fun c122 => ?_) (fun c122 => ?_)
              · -- t
                exact absurd c122 (by decide)
              · -- f
                refine z_iconst ok dX7_readOne_125 ?_
                refine z_goto (tgt := 130) ok dX7_readOne_126 (by decide) ?_
                refine z_iadd ok dX7_readOne_130 ?_
                refine z_put (ws' := mW Z q now kept hist und sav isv pad sg it far many laid sides stuck (zu (zu ord (3 * rd) (sgn pad sg pl)) ((3 * rd) + 1) 0) rd ((pl + 1) + 0) 1) ok zc7 0 rfl 16 (by decide) qf_RX7_164 rfl rfl rfl rfl (Nat.le_of_ble_eq_true rfl) dX7_readOne_131 rfl ?_
                refine z_aload_n ok dX7_readOne_134 rfl ?_
                refine z_get (v := .ref (q 12)) ok zc7 0 rfl 14 (by decide) qf_RX7_44 rfl rfl dX7_readOne_135 ?_
                refine z_iload_n ok dX7_readOne_138 rfl ?_
                refine z_iconst ok dX7_readOne_139 ?_
                refine z_iadd ok dX7_readOne_140 ?_
                refine z_aload_n ok dX7_readOne_141 rfl ?_
                refine z_callVi0 ok (fun l => c_X7_number  (hpd) (by omega) (by omega)) zm_X7_number zv_X7_number qm_RX7_176 dX7_readOne_142 (by decide) (by decide) rfl rfl (Nat.le_of_ble_eq_true rfl) (q0 := 0) rfl rfl rfl (fun ρ _ hρ => ?_)
                subst hρ
                refine z_eq (ws' := mW Z q now kept hist und sav isv pad sg it far many laid sides stuck (zu (zu ord (3 * rd) (sgn pad sg pl)) ((3 * rd) + 1) 0) rd (if (¬ 1 = 0 ∨ numV pad sg ((pl + 1) + 0) < 0) then ((pl + 1) + 0) else numP pad sg ((pl + 1) + 0)) (if (¬ 1 = 0 ∨ numV pad sg ((pl + 1) + 0) < 0) then 1 else 0)) rfl ?_
                refine z_eq (ws' := mW Z q now kept hist und sav isv pad sg it far many laid sides stuck (zu (zu ord (3 * rd) (sgn pad sg pl)) ((3 * rd) + 1) 0) rd ((pl + 1) + 0) 1) (by rw [if_pos (show (¬ (1 : Int) = 0 ∨ numV pad sg ((pl + 1) + 0) < 0) from Or.inl (by decide)), if_pos (show (¬ (1 : Int) = 0 ∨ numV pad sg ((pl + 1) + 0) < 0) from Or.inl (by decide))]) ?_
                refine z_st (st' := [.int (iI 0), .int (iI ((3 * rd) + 2)), .ref (q 12)]) (by rw [if_pos (show (¬ (1 : Int) = 0 ∨ numV pad sg ((pl + 1) + 0) < 0) from Or.inl (by decide))]) ?_
                refine z_iast (f := zu (zu ord (3 * rd) (sgn pad sg pl)) ((3 * rd) + 1) 0) (v := 0) (ws' := mW Z q now kept hist und sav isv pad sg it far many laid sides stuck (zu (zu (zu ord (3 * rd) (sgn pad sg pl)) ((3 * rd) + 1) 0) ((3 * rd) + 2) 0) rd ((pl + 1) + 0) 1) ok 12 rfl dX7_readOne_145 (by omega) (by decide) rfl ?_
                refine z_goto (tgt := 167) ok dX7_readOne_146 (by decide) ?_
                refine z_aload_n ok dX7_readOne_167 rfl ?_
                refine z_dup ok dX7_readOne_168 rfl ?_
                refine z_get (v := .int (iI rd)) ok zc7 0 rfl 15 (by decide) qf_RX7_173 rfl rfl dX7_readOne_169 ?_
                refine z_iconst ok dX7_readOne_172 ?_
                refine z_iadd ok dX7_readOne_173 ?_
                refine z_put (ws' := mW Z q now kept hist und sav isv pad sg it far many laid sides stuck (zu (zu (zu ord (3 * rd) (sgn pad sg pl)) ((3 * rd) + 1) 0) ((3 * rd) + 2) 0) (rd + 1) ((pl + 1) + 0) 1) ok zc7 0 rfl 15 (by decide) qf_RX7_173 rfl rfl rfl rfl (Nat.le_of_ble_eq_true rfl) dX7_readOne_174 rfl ?_
                have hE : ((pl + 1) + 0) = ordE pad sg pl := by first | (unfold ordE; rw [zif_f hkn]; done) | (unfold ordE; rw [zif_t hk]; first | omega | ((repeat' split) <;> omega))
                have hW : 1 = zb (¬ ordOK pad sg pl) := by first | exact (zb_t (fun z => hkn z.1)).symm | exact (zb_t (fun z => by obtain ⟨o1, o2, o3, o4⟩ := z; first | omega | (have := o3 (by omega); omega) | (have := o4 (by omega); omega))).symm | exact (zb_f (fun z => z ⟨hk, by omega, fun e => by first | (exfalso; omega) | exact ⟨by omega, by omega⟩, fun e => by first | (exfalso; omega) | omega⟩)).symm
                have hO : ordOK pad sg pl → (rd + 1) = rd + 1 ∧ (zu (zu (zu ord (3 * rd) (sgn pad sg pl)) ((3 * rd) + 1) 0) ((3 * rd) + 2) 0) (3 * rd) = sgn pad sg pl ∧ (zu (zu (zu ord (3 * rd) (sgn pad sg pl)) ((3 * rd) + 1) 0) ((3 * rd) + 2) 0) (3 * rd + 1) = numV pad sg (pl + 1) ∧ (sgn pad sg pl ≠ 116 → (zu (zu (zu ord (3 * rd) (sgn pad sg pl)) ((3 * rd) + 1) 0) ((3 * rd) + 2) 0) (3 * rd + 2) = ordS pad sg pl) := by first | exact fun ho => absurd ho.1 hkn | (intro ho; obtain ⟨o1, o2, o3, o4⟩ := ho; first | (exfalso; omega) | (exfalso; have := o3 (by omega); omega) | (exfalso; have := o4 (by omega); omega) | exact ⟨rfl, by rw [zu_n (by omega), zu_n (by omega), zu_s], by rw [zu_n (by omega), zu_s], fun _ => by rw [zu_s]; unfold ordS; first | rw [if_pos (by omega)] | rw [if_neg (by omega)]⟩ | exact ⟨rfl, by rw [zu_n (by omega), zu_s], by rw [zu_s], fun z => absurd (by omega) z⟩)
                have hX : ∀ x : Int, x < 3 * rd → (zu (zu (zu ord (3 * rd) (sgn pad sg pl)) ((3 * rd) + 1) 0) ((3 * rd) + 2) 0) x = ord x := by intro x hx; first | (rw [zu_n (by omega), zu_n (by omega), zu_n (by omega)]; done) | (rw [zu_n (by omega), zu_n (by omega)]; done) | (rw [zu_n (by omega)])
                have hR : rd ≤ (rd + 1) ∧ (rd + 1) ≤ rd + 1 := by omega
                exact fin (zu (zu (zu ord (3 * rd) (sgn pad sg pl)) ((3 * rd) + 1) 0) ((3 * rd) + 2) 0, ((pl + 1) + 0), 1, rd + 1) 177 _ _ _ dX7_readOne_177 (⟨hE, hW, hO, hX, hR.1, hR.2⟩) (by decide) (by decide)
            · -- f
              exact absurd c93 (by decide)
        · -- split
          refine z_eq (ws' := mW Z q now kept hist und sav isv pad sg it far many laid sides stuck (zu ord (3 * rd) (sgn pad sg pl)) rd (numP pad sg (pl + 1)) 0) (by rw [if_neg (show ¬ (¬ (0 : Int) = 0 ∨ numV pad sg (pl + 1) < 0) from fun z => z.elim (fun y => y rfl) hn), if_neg (show ¬ (¬ (0 : Int) = 0 ∨ numV pad sg (pl + 1) < 0) from fun z => z.elim (fun y => y rfl) hn)]) ?_
          refine z_st (st' := [.int (iI (numV pad sg (pl + 1))), .int (iI ((3 * rd) + 1)), .ref (q 12)]) (by rw [if_neg (show ¬ (¬ (0 : Int) = 0 ∨ numV pad sg (pl + 1) < 0) from fun z => z.elim (fun y => y rfl) hn)]) ?_
          refine z_iast (f := zu ord (3 * rd) (sgn pad sg pl)) (v := numV pad sg (pl + 1)) (ws' := mW Z q now kept hist und sav isv pad sg it far many laid sides stuck (zu (zu ord (3 * rd) (sgn pad sg pl)) ((3 * rd) + 1) (numV pad sg (pl + 1))) rd (numP pad sg (pl + 1)) 0) ok 12 rfl dX7_readOne_81 (by omega) (by decide) rfl ?_
          refine z_iload_n ok dX7_readOne_82 rfl ?_
          refine z_bipush ok dX7_readOne_83 (by decide) ?_
          refine z_icmp_ne (tgt := 149) ok dX7_readOne_85 (by decide) (by omega) (by omega) (fun c85 => ?_) (fun c85 => ?_)
          · -- t
            refine z_iload_n ok dX7_readOne_149 rfl ?_
            refine z_bipush ok dX7_readOne_150 (by decide) ?_
            refine z_icmp_eq (tgt := 167) ok dX7_readOne_152 (by decide) (by omega) (by omega) (fun c152 => ?_) (fun c152 => ?_)
            · -- t
              refine z_aload_n ok dX7_readOne_167 rfl ?_
              refine z_dup ok dX7_readOne_168 rfl ?_
              refine z_get (v := .int (iI rd)) ok zc7 0 rfl 15 (by decide) qf_RX7_173 rfl rfl dX7_readOne_169 ?_
              refine z_iconst ok dX7_readOne_172 ?_
              refine z_iadd ok dX7_readOne_173 ?_
              refine z_put (ws' := mW Z q now kept hist und sav isv pad sg it far many laid sides stuck (zu (zu ord (3 * rd) (sgn pad sg pl)) ((3 * rd) + 1) (numV pad sg (pl + 1))) (rd + 1) (numP pad sg (pl + 1)) 0) ok zc7 0 rfl 15 (by decide) qf_RX7_173 rfl rfl rfl rfl (Nat.le_of_ble_eq_true rfl) dX7_readOne_174 rfl ?_
              have hE : (numP pad sg (pl + 1)) = ordE pad sg pl := by first | (unfold ordE; rw [zif_f hkn]; done) | (unfold ordE; rw [zif_t hk]; first | omega | ((repeat' split) <;> omega))
              have hW : 0 = zb (¬ ordOK pad sg pl) := by first | exact (zb_t (fun z => hkn z.1)).symm | exact (zb_t (fun z => by obtain ⟨o1, o2, o3, o4⟩ := z; first | omega | (have := o3 (by omega); omega) | (have := o4 (by omega); omega))).symm | exact (zb_f (fun z => z ⟨hk, by omega, fun e => by first | (exfalso; omega) | exact ⟨by omega, by omega⟩, fun e => by first | (exfalso; omega) | omega⟩)).symm
              have hO : ordOK pad sg pl → (rd + 1) = rd + 1 ∧ (zu (zu ord (3 * rd) (sgn pad sg pl)) ((3 * rd) + 1) (numV pad sg (pl + 1))) (3 * rd) = sgn pad sg pl ∧ (zu (zu ord (3 * rd) (sgn pad sg pl)) ((3 * rd) + 1) (numV pad sg (pl + 1))) (3 * rd + 1) = numV pad sg (pl + 1) ∧ (sgn pad sg pl ≠ 116 → (zu (zu ord (3 * rd) (sgn pad sg pl)) ((3 * rd) + 1) (numV pad sg (pl + 1))) (3 * rd + 2) = ordS pad sg pl) := by first | exact fun ho => absurd ho.1 hkn | (intro ho; obtain ⟨o1, o2, o3, o4⟩ := ho; first | (exfalso; omega) | (exfalso; have := o3 (by omega); omega) | (exfalso; have := o4 (by omega); omega) | exact ⟨rfl, by rw [zu_n (by omega), zu_n (by omega), zu_s], by rw [zu_n (by omega), zu_s], fun _ => by rw [zu_s]; unfold ordS; first | rw [if_pos (by omega)] | rw [if_neg (by omega)]⟩ | exact ⟨rfl, by rw [zu_n (by omega), zu_s], by rw [zu_s], fun z => absurd (by omega) z⟩)
              have hX : ∀ x : Int, x < 3 * rd → (zu (zu ord (3 * rd) (sgn pad sg pl)) ((3 * rd) + 1) (numV pad sg (pl + 1))) x = ord x := by intro x hx; first | (rw [zu_n (by omega), zu_n (by omega), zu_n (by omega)]; done) | (rw [zu_n (by omega), zu_n (by omega)]; done) | (rw [zu_n (by omega)])
              have hR : rd ≤ (rd + 1) ∧ (rd + 1) ≤ rd + 1 := by omega
              exact fin (zu (zu ord (3 * rd) (sgn pad sg pl)) ((3 * rd) + 1) (numV pad sg (pl + 1)), numP pad sg (pl + 1), 0, rd + 1) 177 _ _ _ dX7_readOne_177 (⟨hE, hW, hO, hX, hR.1, hR.2⟩) (by decide) (by decide)
            · -- f
              refine z_aload_n ok dX7_readOne_155 rfl ?_
              refine z_get (v := .ref (q 12)) ok zc7 0 rfl 14 (by decide) qf_RX7_44 rfl rfl dX7_readOne_156 ?_
              refine z_iload_n ok dX7_readOne_159 rfl ?_
              refine z_iconst ok dX7_readOne_160 ?_
              refine z_iadd ok dX7_readOne_161 ?_
              refine z_aload_n ok dX7_readOne_162 rfl ?_
              refine z_callVi0 ok (fun l => c_X7_side  (hpd) (by omega) (by omega)) zm_X7_side zv_X7_side qm_RX7_179 dX7_readOne_163 (by decide) (by decide) rfl rfl (Nat.le_of_ble_eq_true rfl) (q0 := 0) rfl rfl rfl (fun ρ _ hρ => ?_)
              subst hρ
              refine z_eq (ws' := mW Z q now kept hist und sav isv pad sg it far many laid sides stuck (zu (zu ord (3 * rd) (sgn pad sg pl)) ((3 * rd) + 1) (numV pad sg (pl + 1))) rd (if (¬ 0 = 0 ∨ sdV pad sg (numP pad sg (pl + 1)) < 0) then (numP pad sg (pl + 1)) else (numP pad sg (pl + 1)) + 1) (if (¬ 0 = 0 ∨ sdV pad sg (numP pad sg (pl + 1)) < 0) then 1 else 0)) rfl ?_
              by_cases hq : sdV pad sg (numP pad sg (pl + 1)) < 0
              · -- split
                refine z_eq (ws' := mW Z q now kept hist und sav isv pad sg it far many laid sides stuck (zu (zu ord (3 * rd) (sgn pad sg pl)) ((3 * rd) + 1) (numV pad sg (pl + 1))) rd (numP pad sg (pl + 1)) 1) (by rw [if_pos (show (¬ (0 : Int) = 0 ∨ sdV pad sg (numP pad sg (pl + 1)) < 0) from Or.inr hq), if_pos (show (¬ (0 : Int) = 0 ∨ sdV pad sg (numP pad sg (pl + 1)) < 0) from Or.inr hq)]) ?_
                refine z_iast (f := zu (zu ord (3 * rd) (sgn pad sg pl)) ((3 * rd) + 1) (numV pad sg (pl + 1))) (v := (if sdV pad sg (numP pad sg (pl + 1)) < 0 then -6 else sdV pad sg (numP pad sg (pl + 1)))) (ws' := mW Z q now kept hist und sav isv pad sg it far many laid sides stuck (zu (zu (zu ord (3 * rd) (sgn pad sg pl)) ((3 * rd) + 1) (numV pad sg (pl + 1))) ((3 * rd) + 2) (if sdV pad sg (numP pad sg (pl + 1)) < 0 then -6 else sdV pad sg (numP pad sg (pl + 1)))) rd (numP pad sg (pl + 1)) 1) ok 12 rfl dX7_readOne_166 (by omega) (by decide) rfl ?_
                refine z_aload_n ok dX7_readOne_167 rfl ?_
                refine z_dup ok dX7_readOne_168 rfl ?_
                refine z_get (v := .int (iI rd)) ok zc7 0 rfl 15 (by decide) qf_RX7_173 rfl rfl dX7_readOne_169 ?_
                refine z_iconst ok dX7_readOne_172 ?_
                refine z_iadd ok dX7_readOne_173 ?_
                refine z_put (ws' := mW Z q now kept hist und sav isv pad sg it far many laid sides stuck (zu (zu (zu ord (3 * rd) (sgn pad sg pl)) ((3 * rd) + 1) (numV pad sg (pl + 1))) ((3 * rd) + 2) (if sdV pad sg (numP pad sg (pl + 1)) < 0 then -6 else sdV pad sg (numP pad sg (pl + 1)))) (rd + 1) (numP pad sg (pl + 1)) 1) ok zc7 0 rfl 15 (by decide) qf_RX7_173 rfl rfl rfl rfl (Nat.le_of_ble_eq_true rfl) dX7_readOne_174 rfl ?_
                have hE : (numP pad sg (pl + 1)) = ordE pad sg pl := by first | (unfold ordE; rw [zif_f hkn]; done) | (unfold ordE; rw [zif_t hk]; first | omega | ((repeat' split) <;> omega))
                have hW : 1 = zb (¬ ordOK pad sg pl) := by first | exact (zb_t (fun z => hkn z.1)).symm | exact (zb_t (fun z => by obtain ⟨o1, o2, o3, o4⟩ := z; first | omega | (have := o3 (by omega); omega) | (have := o4 (by omega); omega))).symm | exact (zb_f (fun z => z ⟨hk, by omega, fun e => by first | (exfalso; omega) | exact ⟨by omega, by omega⟩, fun e => by first | (exfalso; omega) | omega⟩)).symm
                have hO : ordOK pad sg pl → (rd + 1) = rd + 1 ∧ (zu (zu (zu ord (3 * rd) (sgn pad sg pl)) ((3 * rd) + 1) (numV pad sg (pl + 1))) ((3 * rd) + 2) (if sdV pad sg (numP pad sg (pl + 1)) < 0 then -6 else sdV pad sg (numP pad sg (pl + 1)))) (3 * rd) = sgn pad sg pl ∧ (zu (zu (zu ord (3 * rd) (sgn pad sg pl)) ((3 * rd) + 1) (numV pad sg (pl + 1))) ((3 * rd) + 2) (if sdV pad sg (numP pad sg (pl + 1)) < 0 then -6 else sdV pad sg (numP pad sg (pl + 1)))) (3 * rd + 1) = numV pad sg (pl + 1) ∧ (sgn pad sg pl ≠ 116 → (zu (zu (zu ord (3 * rd) (sgn pad sg pl)) ((3 * rd) + 1) (numV pad sg (pl + 1))) ((3 * rd) + 2) (if sdV pad sg (numP pad sg (pl + 1)) < 0 then -6 else sdV pad sg (numP pad sg (pl + 1)))) (3 * rd + 2) = ordS pad sg pl) := by first | exact fun ho => absurd ho.1 hkn | (intro ho; obtain ⟨o1, o2, o3, o4⟩ := ho; first | (exfalso; omega) | (exfalso; have := o3 (by omega); omega) | (exfalso; have := o4 (by omega); omega) | exact ⟨rfl, by rw [zu_n (by omega), zu_n (by omega), zu_s], by rw [zu_n (by omega), zu_s], fun _ => by rw [zu_s]; unfold ordS; first | rw [if_pos (by omega)] | rw [if_neg (by omega)]⟩ | exact ⟨rfl, by rw [zu_n (by omega), zu_s], by rw [zu_s], fun z => absurd (by omega) z⟩)
                have hX : ∀ x : Int, x < 3 * rd → (zu (zu (zu ord (3 * rd) (sgn pad sg pl)) ((3 * rd) + 1) (numV pad sg (pl + 1))) ((3 * rd) + 2) (if sdV pad sg (numP pad sg (pl + 1)) < 0 then -6 else sdV pad sg (numP pad sg (pl + 1)))) x = ord x := by intro x hx; first | (rw [zu_n (by omega), zu_n (by omega), zu_n (by omega)]; done) | (rw [zu_n (by omega), zu_n (by omega)]; done) | (rw [zu_n (by omega)])
                have hR : rd ≤ (rd + 1) ∧ (rd + 1) ≤ rd + 1 := by omega
                exact fin (zu (zu (zu ord (3 * rd) (sgn pad sg pl)) ((3 * rd) + 1) (numV pad sg (pl + 1))) ((3 * rd) + 2) (if sdV pad sg (numP pad sg (pl + 1)) < 0 then -6 else sdV pad sg (numP pad sg (pl + 1))), numP pad sg (pl + 1), 1, rd + 1) 177 _ _ _ dX7_readOne_177 (⟨hE, hW, hO, hX, hR.1, hR.2⟩) (by decide) (by decide)
              · -- split
                refine z_eq (ws' := mW Z q now kept hist und sav isv pad sg it far many laid sides stuck (zu (zu ord (3 * rd) (sgn pad sg pl)) ((3 * rd) + 1) (numV pad sg (pl + 1))) rd (numP pad sg (pl + 1) + 1) 0) (by rw [if_neg (show ¬ (¬ (0 : Int) = 0 ∨ sdV pad sg (numP pad sg (pl + 1)) < 0) from fun z => z.elim (fun y => y rfl) hq), if_neg (show ¬ (¬ (0 : Int) = 0 ∨ sdV pad sg (numP pad sg (pl + 1)) < 0) from fun z => z.elim (fun y => y rfl) hq)]) ?_
                refine z_st (st' := [.int (iI (sdV pad sg (numP pad sg (pl + 1)))), .int (iI ((3 * rd) + 2)), .ref (q 12)]) (by rw [if_neg hq]) ?_
                refine z_iast (f := zu (zu ord (3 * rd) (sgn pad sg pl)) ((3 * rd) + 1) (numV pad sg (pl + 1))) (v := sdV pad sg (numP pad sg (pl + 1))) (ws' := mW Z q now kept hist und sav isv pad sg it far many laid sides stuck (zu (zu (zu ord (3 * rd) (sgn pad sg pl)) ((3 * rd) + 1) (numV pad sg (pl + 1))) ((3 * rd) + 2) (sdV pad sg (numP pad sg (pl + 1)))) rd (numP pad sg (pl + 1) + 1) 0) ok 12 rfl dX7_readOne_166 (by omega) (by decide) rfl ?_
                refine z_aload_n ok dX7_readOne_167 rfl ?_
                refine z_dup ok dX7_readOne_168 rfl ?_
                refine z_get (v := .int (iI rd)) ok zc7 0 rfl 15 (by decide) qf_RX7_173 rfl rfl dX7_readOne_169 ?_
                refine z_iconst ok dX7_readOne_172 ?_
                refine z_iadd ok dX7_readOne_173 ?_
                refine z_put (ws' := mW Z q now kept hist und sav isv pad sg it far many laid sides stuck (zu (zu (zu ord (3 * rd) (sgn pad sg pl)) ((3 * rd) + 1) (numV pad sg (pl + 1))) ((3 * rd) + 2) (sdV pad sg (numP pad sg (pl + 1)))) (rd + 1) (numP pad sg (pl + 1) + 1) 0) ok zc7 0 rfl 15 (by decide) qf_RX7_173 rfl rfl rfl rfl (Nat.le_of_ble_eq_true rfl) dX7_readOne_174 rfl ?_
                have hE : (numP pad sg (pl + 1) + 1) = ordE pad sg pl := by first | (unfold ordE; rw [zif_f hkn]; done) | (unfold ordE; rw [zif_t hk]; first | omega | ((repeat' split) <;> omega))
                have hW : 0 = zb (¬ ordOK pad sg pl) := by first | exact (zb_t (fun z => hkn z.1)).symm | exact (zb_t (fun z => by obtain ⟨o1, o2, o3, o4⟩ := z; first | omega | (have := o3 (by omega); omega) | (have := o4 (by omega); omega))).symm | exact (zb_f (fun z => z ⟨hk, by omega, fun e => by first | (exfalso; omega) | exact ⟨by omega, by omega⟩, fun e => by first | (exfalso; omega) | omega⟩)).symm
                have hO : ordOK pad sg pl → (rd + 1) = rd + 1 ∧ (zu (zu (zu ord (3 * rd) (sgn pad sg pl)) ((3 * rd) + 1) (numV pad sg (pl + 1))) ((3 * rd) + 2) (sdV pad sg (numP pad sg (pl + 1)))) (3 * rd) = sgn pad sg pl ∧ (zu (zu (zu ord (3 * rd) (sgn pad sg pl)) ((3 * rd) + 1) (numV pad sg (pl + 1))) ((3 * rd) + 2) (sdV pad sg (numP pad sg (pl + 1)))) (3 * rd + 1) = numV pad sg (pl + 1) ∧ (sgn pad sg pl ≠ 116 → (zu (zu (zu ord (3 * rd) (sgn pad sg pl)) ((3 * rd) + 1) (numV pad sg (pl + 1))) ((3 * rd) + 2) (sdV pad sg (numP pad sg (pl + 1)))) (3 * rd + 2) = ordS pad sg pl) := by first | exact fun ho => absurd ho.1 hkn | (intro ho; obtain ⟨o1, o2, o3, o4⟩ := ho; first | (exfalso; omega) | (exfalso; have := o3 (by omega); omega) | (exfalso; have := o4 (by omega); omega) | exact ⟨rfl, by rw [zu_n (by omega), zu_n (by omega), zu_s], by rw [zu_n (by omega), zu_s], fun _ => by rw [zu_s]; unfold ordS; first | rw [if_pos (by omega)] | rw [if_neg (by omega)]⟩ | exact ⟨rfl, by rw [zu_n (by omega), zu_s], by rw [zu_s], fun z => absurd (by omega) z⟩)
                have hX : ∀ x : Int, x < 3 * rd → (zu (zu (zu ord (3 * rd) (sgn pad sg pl)) ((3 * rd) + 1) (numV pad sg (pl + 1))) ((3 * rd) + 2) (sdV pad sg (numP pad sg (pl + 1)))) x = ord x := by intro x hx; first | (rw [zu_n (by omega), zu_n (by omega), zu_n (by omega)]; done) | (rw [zu_n (by omega), zu_n (by omega)]; done) | (rw [zu_n (by omega)])
                have hR : rd ≤ (rd + 1) ∧ (rd + 1) ≤ rd + 1 := by omega
                exact fin (zu (zu (zu ord (3 * rd) (sgn pad sg pl)) ((3 * rd) + 1) (numV pad sg (pl + 1))) ((3 * rd) + 2) (sdV pad sg (numP pad sg (pl + 1))), numP pad sg (pl + 1) + 1, 0, rd + 1) 177 _ _ _ dX7_readOne_177 (⟨hE, hW, hO, hX, hR.1, hR.2⟩) (by decide) (by decide)
          · -- f
            refine z_aload_n ok dX7_readOne_88 rfl ?_
            refine z_aload_n ok dX7_readOne_89 rfl ?_
            refine z_get (v := .int (iI 0)) ok zc7 0 rfl 17 (by decide) qf_RX7_170 rfl rfl dX7_readOne_90 ?_
            refine z_if_ne (tgt := 105) ok dX7_readOne_93 (by decide) (by omega) (fun c93 => ?_) (fun c93 => ?_)
            · -- t
              exact absurd c93 (by decide)
            · -- f
              refine z_aload_n ok dX7_readOne_96 rfl ?_
              refine z_callVi0 ok (fun l => c_X7_sign  (by omega) (by omega)) zm_X7_sign zv_X7_sign qm_RX7_167 dX7_readOne_97 (by decide) (by decide) rfl rfl (Nat.le_of_ble_eq_true rfl) (q0 := 0) rfl rfl rfl (fun ρ _ hρ => ?_)
              subst hρ
              refine z_eq (ws' := mW Z q now kept hist und sav isv pad sg it far many laid sides stuck (zu (zu ord (3 * rd) (sgn pad sg pl)) ((3 * rd) + 1) (numV pad sg (pl + 1))) rd (numP pad sg (pl + 1)) 0) rfl ?_
              refine z_bipush ok dX7_readOne_100 (by decide) ?_
              refine z_icmp_eq (tgt := 109) ok dX7_readOne_102 (by decide) (by omega) (by omega) (fun c102 => ?_) (fun c102 => ?_)
              · -- t
                refine z_iconst ok dX7_readOne_109 ?_
                refine z_put (ws' := mW Z q now kept hist und sav isv pad sg it far many laid sides stuck (zu (zu ord (3 * rd) (sgn pad sg pl)) ((3 * rd) + 1) (numV pad sg (pl + 1))) rd (numP pad sg (pl + 1)) 0) ok zc7 0 rfl 17 (by decide) qf_RX7_170 rfl rfl (znZ _ (by first | decide | exact zb_01 _ | omega)) (zfZ _ (by first | decide | exact zb_01 _ | omega)) (Nat.le_of_ble_eq_true rfl) dX7_readOne_110 rfl ?_
                refine z_aload_n ok dX7_readOne_113 rfl ?_
                refine z_dup ok dX7_readOne_114 rfl ?_
                refine z_get (v := .int (iI (numP pad sg (pl + 1)))) ok zc7 0 rfl 16 (by decide) qf_RX7_164 rfl rfl dX7_readOne_115 ?_
                refine z_aload_n ok dX7_readOne_118 rfl ?_
                refine z_get (v := .int (iI 0)) ok zc7 0 rfl 17 (by decide) qf_RX7_170 rfl rfl dX7_readOne_119 ?_
                refine z_if_eq (tgt := 129) ok dX7_readOne_122 (by decide) (by omega) (fun c122 => ?_) (fun c122 => ?_)
                · -- t
                  refine z_iconst ok dX7_readOne_129 ?_
                  refine z_iadd ok dX7_readOne_130 ?_
                  refine z_put (ws' := mW Z q now kept hist und sav isv pad sg it far many laid sides stuck (zu (zu ord (3 * rd) (sgn pad sg pl)) ((3 * rd) + 1) (numV pad sg (pl + 1))) rd ((numP pad sg (pl + 1)) + 1) 0) ok zc7 0 rfl 16 (by decide) qf_RX7_164 rfl rfl rfl rfl (Nat.le_of_ble_eq_true rfl) dX7_readOne_131 rfl ?_
                  refine z_aload_n ok dX7_readOne_134 rfl ?_
                  refine z_get (v := .ref (q 12)) ok zc7 0 rfl 14 (by decide) qf_RX7_44 rfl rfl dX7_readOne_135 ?_
                  refine z_iload_n ok dX7_readOne_138 rfl ?_
                  refine z_iconst ok dX7_readOne_139 ?_
                  refine z_iadd ok dX7_readOne_140 ?_
                  refine z_aload_n ok dX7_readOne_141 rfl ?_
                  refine z_callVi0 ok (fun l => c_X7_number  (hpd) (by omega) (by omega)) zm_X7_number zv_X7_number qm_RX7_176 dX7_readOne_142 (by decide) (by decide) rfl rfl (Nat.le_of_ble_eq_true rfl) (q0 := 0) rfl rfl rfl (fun ρ _ hρ => ?_)
                  subst hρ
                  refine z_eq (ws' := mW Z q now kept hist und sav isv pad sg it far many laid sides stuck (zu (zu ord (3 * rd) (sgn pad sg pl)) ((3 * rd) + 1) (numV pad sg (pl + 1))) rd (if (¬ 0 = 0 ∨ numV pad sg ((numP pad sg (pl + 1)) + 1) < 0) then ((numP pad sg (pl + 1)) + 1) else numP pad sg ((numP pad sg (pl + 1)) + 1)) (if (¬ 0 = 0 ∨ numV pad sg ((numP pad sg (pl + 1)) + 1) < 0) then 1 else 0)) rfl ?_
                  by_cases hm : numV pad sg (numP pad sg (pl + 1) + 1) < 0
                  · -- split
                    refine z_eq (ws' := mW Z q now kept hist und sav isv pad sg it far many laid sides stuck (zu (zu ord (3 * rd) (sgn pad sg pl)) ((3 * rd) + 1) (numV pad sg (pl + 1))) rd (numP pad sg (pl + 1) + 1) 1) (by rw [if_pos (show (¬ (0 : Int) = 0 ∨ numV pad sg (numP pad sg (pl + 1) + 1) < 0) from Or.inr hm), if_pos (show (¬ (0 : Int) = 0 ∨ numV pad sg (numP pad sg (pl + 1) + 1) < 0) from Or.inr hm)]) ?_
                    refine z_st (st' := [.int (iI 0), .int (iI ((3 * rd) + 2)), .ref (q 12)]) (by rw [if_pos (show (¬ (0 : Int) = 0 ∨ numV pad sg (numP pad sg (pl + 1) + 1) < 0) from Or.inr hm)]) ?_
                    refine z_iast (f := zu (zu ord (3 * rd) (sgn pad sg pl)) ((3 * rd) + 1) (numV pad sg (pl + 1))) (v := 0) (ws' := mW Z q now kept hist und sav isv pad sg it far many laid sides stuck (zu (zu (zu ord (3 * rd) (sgn pad sg pl)) ((3 * rd) + 1) (numV pad sg (pl + 1))) ((3 * rd) + 2) 0) rd (numP pad sg (pl + 1) + 1) 1) ok 12 rfl dX7_readOne_145 (by omega) (by decide) rfl ?_
                    refine z_goto (tgt := 167) ok dX7_readOne_146 (by decide) ?_
                    refine z_aload_n ok dX7_readOne_167 rfl ?_
                    refine z_dup ok dX7_readOne_168 rfl ?_
                    refine z_get (v := .int (iI rd)) ok zc7 0 rfl 15 (by decide) qf_RX7_173 rfl rfl dX7_readOne_169 ?_
                    refine z_iconst ok dX7_readOne_172 ?_
                    refine z_iadd ok dX7_readOne_173 ?_
                    refine z_put (ws' := mW Z q now kept hist und sav isv pad sg it far many laid sides stuck (zu (zu (zu ord (3 * rd) (sgn pad sg pl)) ((3 * rd) + 1) (numV pad sg (pl + 1))) ((3 * rd) + 2) 0) (rd + 1) (numP pad sg (pl + 1) + 1) 1) ok zc7 0 rfl 15 (by decide) qf_RX7_173 rfl rfl rfl rfl (Nat.le_of_ble_eq_true rfl) dX7_readOne_174 rfl ?_
                    have hE : (numP pad sg (pl + 1) + 1) = ordE pad sg pl := by first | (unfold ordE; rw [zif_f hkn]; done) | (unfold ordE; rw [zif_t hk]; first | omega | ((repeat' split) <;> omega))
                    have hW : 1 = zb (¬ ordOK pad sg pl) := by first | exact (zb_t (fun z => hkn z.1)).symm | exact (zb_t (fun z => by obtain ⟨o1, o2, o3, o4⟩ := z; first | omega | (have := o3 (by omega); omega) | (have := o4 (by omega); omega))).symm | exact (zb_f (fun z => z ⟨hk, by omega, fun e => by first | (exfalso; omega) | exact ⟨by omega, by omega⟩, fun e => by first | (exfalso; omega) | omega⟩)).symm
                    have hO : ordOK pad sg pl → (rd + 1) = rd + 1 ∧ (zu (zu (zu ord (3 * rd) (sgn pad sg pl)) ((3 * rd) + 1) (numV pad sg (pl + 1))) ((3 * rd) + 2) 0) (3 * rd) = sgn pad sg pl ∧ (zu (zu (zu ord (3 * rd) (sgn pad sg pl)) ((3 * rd) + 1) (numV pad sg (pl + 1))) ((3 * rd) + 2) 0) (3 * rd + 1) = numV pad sg (pl + 1) ∧ (sgn pad sg pl ≠ 116 → (zu (zu (zu ord (3 * rd) (sgn pad sg pl)) ((3 * rd) + 1) (numV pad sg (pl + 1))) ((3 * rd) + 2) 0) (3 * rd + 2) = ordS pad sg pl) := by first | exact fun ho => absurd ho.1 hkn | (intro ho; obtain ⟨o1, o2, o3, o4⟩ := ho; first | (exfalso; omega) | (exfalso; have := o3 (by omega); omega) | (exfalso; have := o4 (by omega); omega) | exact ⟨rfl, by rw [zu_n (by omega), zu_n (by omega), zu_s], by rw [zu_n (by omega), zu_s], fun _ => by rw [zu_s]; unfold ordS; first | rw [if_pos (by omega)] | rw [if_neg (by omega)]⟩ | exact ⟨rfl, by rw [zu_n (by omega), zu_s], by rw [zu_s], fun z => absurd (by omega) z⟩)
                    have hX : ∀ x : Int, x < 3 * rd → (zu (zu (zu ord (3 * rd) (sgn pad sg pl)) ((3 * rd) + 1) (numV pad sg (pl + 1))) ((3 * rd) + 2) 0) x = ord x := by intro x hx; first | (rw [zu_n (by omega), zu_n (by omega), zu_n (by omega)]; done) | (rw [zu_n (by omega), zu_n (by omega)]; done) | (rw [zu_n (by omega)])
                    have hR : rd ≤ (rd + 1) ∧ (rd + 1) ≤ rd + 1 := by omega
                    exact fin (zu (zu (zu ord (3 * rd) (sgn pad sg pl)) ((3 * rd) + 1) (numV pad sg (pl + 1))) ((3 * rd) + 2) 0, numP pad sg (pl + 1) + 1, 1, rd + 1) 177 _ _ _ dX7_readOne_177 (⟨hE, hW, hO, hX, hR.1, hR.2⟩) (by decide) (by decide)
                  · -- split
                    refine z_eq (ws' := mW Z q now kept hist und sav isv pad sg it far many laid sides stuck (zu (zu ord (3 * rd) (sgn pad sg pl)) ((3 * rd) + 1) (numV pad sg (pl + 1))) rd (numP pad sg (numP pad sg (pl + 1) + 1)) 0) (by rw [if_neg (show ¬ (¬ (0 : Int) = 0 ∨ numV pad sg (numP pad sg (pl + 1) + 1) < 0) from fun z => z.elim (fun y => y rfl) hm), if_neg (show ¬ (¬ (0 : Int) = 0 ∨ numV pad sg (numP pad sg (pl + 1) + 1) < 0) from fun z => z.elim (fun y => y rfl) hm)]) ?_
                    refine z_st (st' := [.int (iI (numV pad sg (numP pad sg (pl + 1) + 1))), .int (iI ((3 * rd) + 2)), .ref (q 12)]) (by rw [if_neg (show ¬ (¬ (0 : Int) = 0 ∨ numV pad sg (numP pad sg (pl + 1) + 1) < 0) from fun z => z.elim (fun y => y rfl) hm)]) ?_
                    refine z_iast (f := zu (zu ord (3 * rd) (sgn pad sg pl)) ((3 * rd) + 1) (numV pad sg (pl + 1))) (v := numV pad sg (numP pad sg (pl + 1) + 1)) (ws' := mW Z q now kept hist und sav isv pad sg it far many laid sides stuck (zu (zu (zu ord (3 * rd) (sgn pad sg pl)) ((3 * rd) + 1) (numV pad sg (pl + 1))) ((3 * rd) + 2) (numV pad sg (numP pad sg (pl + 1) + 1))) rd (numP pad sg (numP pad sg (pl + 1) + 1)) 0) ok 12 rfl dX7_readOne_145 (by omega) (by decide) rfl ?_
                    refine z_goto (tgt := 167) ok dX7_readOne_146 (by decide) ?_
                    refine z_aload_n ok dX7_readOne_167 rfl ?_
                    refine z_dup ok dX7_readOne_168 rfl ?_
                    refine z_get (v := .int (iI rd)) ok zc7 0 rfl 15 (by decide) qf_RX7_173 rfl rfl dX7_readOne_169 ?_
                    refine z_iconst ok dX7_readOne_172 ?_
                    refine z_iadd ok dX7_readOne_173 ?_
                    refine z_put (ws' := mW Z q now kept hist und sav isv pad sg it far many laid sides stuck (zu (zu (zu ord (3 * rd) (sgn pad sg pl)) ((3 * rd) + 1) (numV pad sg (pl + 1))) ((3 * rd) + 2) (numV pad sg (numP pad sg (pl + 1) + 1))) (rd + 1) (numP pad sg (numP pad sg (pl + 1) + 1)) 0) ok zc7 0 rfl 15 (by decide) qf_RX7_173 rfl rfl rfl rfl (Nat.le_of_ble_eq_true rfl) dX7_readOne_174 rfl ?_
                    have hE : (numP pad sg (numP pad sg (pl + 1) + 1)) = ordE pad sg pl := by first | (unfold ordE; rw [zif_f hkn]; done) | (unfold ordE; rw [zif_t hk]; first | omega | ((repeat' split) <;> omega))
                    have hW : 0 = zb (¬ ordOK pad sg pl) := by first | exact (zb_t (fun z => hkn z.1)).symm | exact (zb_t (fun z => by obtain ⟨o1, o2, o3, o4⟩ := z; first | omega | (have := o3 (by omega); omega) | (have := o4 (by omega); omega))).symm | exact (zb_f (fun z => z ⟨hk, by omega, fun e => by first | (exfalso; omega) | exact ⟨by omega, by omega⟩, fun e => by first | (exfalso; omega) | omega⟩)).symm
                    have hO : ordOK pad sg pl → (rd + 1) = rd + 1 ∧ (zu (zu (zu ord (3 * rd) (sgn pad sg pl)) ((3 * rd) + 1) (numV pad sg (pl + 1))) ((3 * rd) + 2) (numV pad sg (numP pad sg (pl + 1) + 1))) (3 * rd) = sgn pad sg pl ∧ (zu (zu (zu ord (3 * rd) (sgn pad sg pl)) ((3 * rd) + 1) (numV pad sg (pl + 1))) ((3 * rd) + 2) (numV pad sg (numP pad sg (pl + 1) + 1))) (3 * rd + 1) = numV pad sg (pl + 1) ∧ (sgn pad sg pl ≠ 116 → (zu (zu (zu ord (3 * rd) (sgn pad sg pl)) ((3 * rd) + 1) (numV pad sg (pl + 1))) ((3 * rd) + 2) (numV pad sg (numP pad sg (pl + 1) + 1))) (3 * rd + 2) = ordS pad sg pl) := by first | exact fun ho => absurd ho.1 hkn | (intro ho; obtain ⟨o1, o2, o3, o4⟩ := ho; first | (exfalso; omega) | (exfalso; have := o3 (by omega); omega) | (exfalso; have := o4 (by omega); omega) | exact ⟨rfl, by rw [zu_n (by omega), zu_n (by omega), zu_s], by rw [zu_n (by omega), zu_s], fun _ => by rw [zu_s]; unfold ordS; first | rw [if_pos (by omega)] | rw [if_neg (by omega)]⟩ | exact ⟨rfl, by rw [zu_n (by omega), zu_s], by rw [zu_s], fun z => absurd (by omega) z⟩)
                    have hX : ∀ x : Int, x < 3 * rd → (zu (zu (zu ord (3 * rd) (sgn pad sg pl)) ((3 * rd) + 1) (numV pad sg (pl + 1))) ((3 * rd) + 2) (numV pad sg (numP pad sg (pl + 1) + 1))) x = ord x := by intro x hx; first | (rw [zu_n (by omega), zu_n (by omega), zu_n (by omega)]; done) | (rw [zu_n (by omega), zu_n (by omega)]; done) | (rw [zu_n (by omega)])
                    have hR : rd ≤ (rd + 1) ∧ (rd + 1) ≤ rd + 1 := by omega
                    exact fin (zu (zu (zu ord (3 * rd) (sgn pad sg pl)) ((3 * rd) + 1) (numV pad sg (pl + 1))) ((3 * rd) + 2) (numV pad sg (numP pad sg (pl + 1) + 1)), numP pad sg (numP pad sg (pl + 1) + 1), 0, rd + 1) 177 _ _ _ dX7_readOne_177 (⟨hE, hW, hO, hX, hR.1, hR.2⟩) (by decide) (by decide)
                · -- f
                  exact absurd c122 (by decide)
              · -- f
                refine z_iconst ok dX7_readOne_105 ?_
                refine z_goto (tgt := 110) ok dX7_readOne_106 (by decide) ?_
                refine z_put (ws' := mW Z q now kept hist und sav isv pad sg it far many laid sides stuck (zu (zu ord (3 * rd) (sgn pad sg pl)) ((3 * rd) + 1) (numV pad sg (pl + 1))) rd (numP pad sg (pl + 1)) 1) ok zc7 0 rfl 17 (by decide) qf_RX7_170 rfl rfl (znZ _ (by first | decide | exact zb_01 _ | omega)) (zfZ _ (by first | decide | exact zb_01 _ | omega)) (Nat.le_of_ble_eq_true rfl) dX7_readOne_110 rfl ?_
                refine z_aload_n ok dX7_readOne_113 rfl ?_
                refine z_dup ok dX7_readOne_114 rfl ?_
                refine z_get (v := .int (iI (numP pad sg (pl + 1)))) ok zc7 0 rfl 16 (by decide) qf_RX7_164 rfl rfl dX7_readOne_115 ?_
                refine z_aload_n ok dX7_readOne_118 rfl ?_
                refine z_get (v := .int (iI 1)) ok zc7 0 rfl 17 (by decide) qf_RX7_170 rfl rfl dX7_readOne_119 ?_
                refine z_if_eq (tgt := 129) ok dX7_readOne_122 (by decide) (by omega) (fun c122 => ?_) (fun c122 => ?_)
                · -- t
                  exact absurd c122 (by decide)
                · -- f
                  refine z_iconst ok dX7_readOne_125 ?_
                  refine z_goto (tgt := 130) ok dX7_readOne_126 (by decide) ?_
                  refine z_iadd ok dX7_readOne_130 ?_
                  refine z_put (ws' := mW Z q now kept hist und sav isv pad sg it far many laid sides stuck (zu (zu ord (3 * rd) (sgn pad sg pl)) ((3 * rd) + 1) (numV pad sg (pl + 1))) rd ((numP pad sg (pl + 1)) + 0) 1) ok zc7 0 rfl 16 (by decide) qf_RX7_164 rfl rfl rfl rfl (Nat.le_of_ble_eq_true rfl) dX7_readOne_131 rfl ?_
                  refine z_aload_n ok dX7_readOne_134 rfl ?_
                  refine z_get (v := .ref (q 12)) ok zc7 0 rfl 14 (by decide) qf_RX7_44 rfl rfl dX7_readOne_135 ?_
                  refine z_iload_n ok dX7_readOne_138 rfl ?_
                  refine z_iconst ok dX7_readOne_139 ?_
                  refine z_iadd ok dX7_readOne_140 ?_
                  refine z_aload_n ok dX7_readOne_141 rfl ?_
                  refine z_callVi0 ok (fun l => c_X7_number  (hpd) (by omega) (by omega)) zm_X7_number zv_X7_number qm_RX7_176 dX7_readOne_142 (by decide) (by decide) rfl rfl (Nat.le_of_ble_eq_true rfl) (q0 := 0) rfl rfl rfl (fun ρ _ hρ => ?_)
                  subst hρ
                  refine z_eq (ws' := mW Z q now kept hist und sav isv pad sg it far many laid sides stuck (zu (zu ord (3 * rd) (sgn pad sg pl)) ((3 * rd) + 1) (numV pad sg (pl + 1))) rd (if (¬ 1 = 0 ∨ numV pad sg ((numP pad sg (pl + 1)) + 0) < 0) then ((numP pad sg (pl + 1)) + 0) else numP pad sg ((numP pad sg (pl + 1)) + 0)) (if (¬ 1 = 0 ∨ numV pad sg ((numP pad sg (pl + 1)) + 0) < 0) then 1 else 0)) rfl ?_
                  refine z_eq (ws' := mW Z q now kept hist und sav isv pad sg it far many laid sides stuck (zu (zu ord (3 * rd) (sgn pad sg pl)) ((3 * rd) + 1) (numV pad sg (pl + 1))) rd ((numP pad sg (pl + 1)) + 0) 1) (by rw [if_pos (show (¬ (1 : Int) = 0 ∨ numV pad sg ((numP pad sg (pl + 1)) + 0) < 0) from Or.inl (by decide)), if_pos (show (¬ (1 : Int) = 0 ∨ numV pad sg ((numP pad sg (pl + 1)) + 0) < 0) from Or.inl (by decide))]) ?_
                  refine z_st (st' := [.int (iI 0), .int (iI ((3 * rd) + 2)), .ref (q 12)]) (by rw [if_pos (show (¬ (1 : Int) = 0 ∨ numV pad sg ((numP pad sg (pl + 1)) + 0) < 0) from Or.inl (by decide))]) ?_
                  refine z_iast (f := zu (zu ord (3 * rd) (sgn pad sg pl)) ((3 * rd) + 1) (numV pad sg (pl + 1))) (v := 0) (ws' := mW Z q now kept hist und sav isv pad sg it far many laid sides stuck (zu (zu (zu ord (3 * rd) (sgn pad sg pl)) ((3 * rd) + 1) (numV pad sg (pl + 1))) ((3 * rd) + 2) 0) rd ((numP pad sg (pl + 1)) + 0) 1) ok 12 rfl dX7_readOne_145 (by omega) (by decide) rfl ?_
                  refine z_goto (tgt := 167) ok dX7_readOne_146 (by decide) ?_
                  refine z_aload_n ok dX7_readOne_167 rfl ?_
                  refine z_dup ok dX7_readOne_168 rfl ?_
                  refine z_get (v := .int (iI rd)) ok zc7 0 rfl 15 (by decide) qf_RX7_173 rfl rfl dX7_readOne_169 ?_
                  refine z_iconst ok dX7_readOne_172 ?_
                  refine z_iadd ok dX7_readOne_173 ?_
                  refine z_put (ws' := mW Z q now kept hist und sav isv pad sg it far many laid sides stuck (zu (zu (zu ord (3 * rd) (sgn pad sg pl)) ((3 * rd) + 1) (numV pad sg (pl + 1))) ((3 * rd) + 2) 0) (rd + 1) ((numP pad sg (pl + 1)) + 0) 1) ok zc7 0 rfl 15 (by decide) qf_RX7_173 rfl rfl rfl rfl (Nat.le_of_ble_eq_true rfl) dX7_readOne_174 rfl ?_
                  have hE : ((numP pad sg (pl + 1)) + 0) = ordE pad sg pl := by first | (unfold ordE; rw [zif_f hkn]; done) | (unfold ordE; rw [zif_t hk]; first | omega | ((repeat' split) <;> omega))
                  have hW : 1 = zb (¬ ordOK pad sg pl) := by first | exact (zb_t (fun z => hkn z.1)).symm | exact (zb_t (fun z => by obtain ⟨o1, o2, o3, o4⟩ := z; first | omega | (have := o3 (by omega); omega) | (have := o4 (by omega); omega))).symm | exact (zb_f (fun z => z ⟨hk, by omega, fun e => by first | (exfalso; omega) | exact ⟨by omega, by omega⟩, fun e => by first | (exfalso; omega) | omega⟩)).symm
                  have hO : ordOK pad sg pl → (rd + 1) = rd + 1 ∧ (zu (zu (zu ord (3 * rd) (sgn pad sg pl)) ((3 * rd) + 1) (numV pad sg (pl + 1))) ((3 * rd) + 2) 0) (3 * rd) = sgn pad sg pl ∧ (zu (zu (zu ord (3 * rd) (sgn pad sg pl)) ((3 * rd) + 1) (numV pad sg (pl + 1))) ((3 * rd) + 2) 0) (3 * rd + 1) = numV pad sg (pl + 1) ∧ (sgn pad sg pl ≠ 116 → (zu (zu (zu ord (3 * rd) (sgn pad sg pl)) ((3 * rd) + 1) (numV pad sg (pl + 1))) ((3 * rd) + 2) 0) (3 * rd + 2) = ordS pad sg pl) := by first | exact fun ho => absurd ho.1 hkn | (intro ho; obtain ⟨o1, o2, o3, o4⟩ := ho; first | (exfalso; omega) | (exfalso; have := o3 (by omega); omega) | (exfalso; have := o4 (by omega); omega) | exact ⟨rfl, by rw [zu_n (by omega), zu_n (by omega), zu_s], by rw [zu_n (by omega), zu_s], fun _ => by rw [zu_s]; unfold ordS; first | rw [if_pos (by omega)] | rw [if_neg (by omega)]⟩ | exact ⟨rfl, by rw [zu_n (by omega), zu_s], by rw [zu_s], fun z => absurd (by omega) z⟩)
                  have hX : ∀ x : Int, x < 3 * rd → (zu (zu (zu ord (3 * rd) (sgn pad sg pl)) ((3 * rd) + 1) (numV pad sg (pl + 1))) ((3 * rd) + 2) 0) x = ord x := by intro x hx; first | (rw [zu_n (by omega), zu_n (by omega), zu_n (by omega)]; done) | (rw [zu_n (by omega), zu_n (by omega)]; done) | (rw [zu_n (by omega)])
                  have hR : rd ≤ (rd + 1) ∧ (rd + 1) ≤ rd + 1 := by omega
                  exact fin (zu (zu (zu ord (3 * rd) (sgn pad sg pl)) ((3 * rd) + 1) (numV pad sg (pl + 1))) ((3 * rd) + 2) 0, ((numP pad sg (pl + 1)) + 0), 1, rd + 1) 177 _ _ _ dX7_readOne_177 (⟨hE, hW, hO, hX, hR.1, hR.2⟩) (by decide) (by decide)
      · -- f
        exact absurd c56 (by decide)
    · -- f
      refine z_iload_n ok dX7_readOne_32 rfl ?_
      refine z_bipush ok dX7_readOne_33 (by decide) ?_
      refine z_icmp_eq (tgt := 48) ok dX7_readOne_35 (by decide) (by omega) (by omega) (fun c35 => ?_) (fun c35 => ?_)
      · -- t
        have hk : knd pad sg pl := by unfold knd; omega
        refine z_iconst ok dX7_readOne_48 ?_
        refine z_put (ws' := mW Z q now kept hist und sav isv pad sg it far many laid sides stuck (zu ord (3 * rd) (sgn pad sg pl)) rd pl 0) ok zc7 0 rfl 17 (by decide) qf_RX7_170 rfl rfl (znZ _ (by first | decide | exact zb_01 _ | omega)) (zfZ _ (by first | decide | exact zb_01 _ | omega)) (Nat.le_of_ble_eq_true rfl) dX7_readOne_49 rfl ?_
        refine z_aload_n ok dX7_readOne_52 rfl ?_
        refine z_get (v := .int (iI 0)) ok zc7 0 rfl 17 (by decide) qf_RX7_170 rfl rfl dX7_readOne_53 ?_
        refine z_if_eq (tgt := 60) ok dX7_readOne_56 (by decide) (by omega) (fun c56 => ?_) (fun c56 => ?_)
        · -- t
          refine z_aload_n ok dX7_readOne_60 rfl ?_
          refine z_dup ok dX7_readOne_61 rfl ?_
          refine z_get (v := .int (iI pl)) ok zc7 0 rfl 16 (by decide) qf_RX7_164 rfl rfl dX7_readOne_62 ?_
          refine z_iconst ok dX7_readOne_65 ?_
          refine z_iadd ok dX7_readOne_66 ?_
          refine z_put (ws' := mW Z q now kept hist und sav isv pad sg it far many laid sides stuck (zu ord (3 * rd) (sgn pad sg pl)) rd (pl + 1) 0) ok zc7 0 rfl 16 (by decide) qf_RX7_164 rfl rfl rfl rfl (Nat.le_of_ble_eq_true rfl) dX7_readOne_67 rfl ?_
          refine z_aload_n ok dX7_readOne_70 rfl ?_
          refine z_get (v := .ref (q 12)) ok zc7 0 rfl 14 (by decide) qf_RX7_44 rfl rfl dX7_readOne_71 ?_
          refine z_iload_n ok dX7_readOne_74 rfl ?_
          refine z_iconst ok dX7_readOne_75 ?_
          refine z_iadd ok dX7_readOne_76 ?_
          refine z_aload_n ok dX7_readOne_77 rfl ?_
          refine z_callVi0 ok (fun l => c_X7_number  (hpd) (by omega) (by omega)) zm_X7_number zv_X7_number qm_RX7_176 dX7_readOne_78 (by decide) (by decide) rfl rfl (Nat.le_of_ble_eq_true rfl) (q0 := 0) rfl rfl rfl (fun ρ _ hρ => ?_)
          subst hρ
          refine z_eq (ws' := mW Z q now kept hist und sav isv pad sg it far many laid sides stuck (zu ord (3 * rd) (sgn pad sg pl)) rd (if (¬ 0 = 0 ∨ numV pad sg (pl + 1) < 0) then (pl + 1) else numP pad sg (pl + 1)) (if (¬ 0 = 0 ∨ numV pad sg (pl + 1) < 0) then 1 else 0)) rfl ?_
          by_cases hn : numV pad sg (pl + 1) < 0
          · -- split
            refine z_eq (ws' := mW Z q now kept hist und sav isv pad sg it far many laid sides stuck (zu ord (3 * rd) (sgn pad sg pl)) rd (pl + 1) 1) (by rw [if_pos (show (¬ (0 : Int) = 0 ∨ numV pad sg (pl + 1) < 0) from Or.inr hn), if_pos (show (¬ (0 : Int) = 0 ∨ numV pad sg (pl + 1) < 0) from Or.inr hn)]) ?_
            refine z_st (st' := [.int (iI 0), .int (iI ((3 * rd) + 1)), .ref (q 12)]) (by rw [if_pos (show (¬ (0 : Int) = 0 ∨ numV pad sg (pl + 1) < 0) from Or.inr hn)]) ?_
            refine z_iast (f := zu ord (3 * rd) (sgn pad sg pl)) (v := 0) (ws' := mW Z q now kept hist und sav isv pad sg it far many laid sides stuck (zu (zu ord (3 * rd) (sgn pad sg pl)) ((3 * rd) + 1) 0) rd (pl + 1) 1) ok 12 rfl dX7_readOne_81 (by omega) (by decide) rfl ?_
            refine z_iload_n ok dX7_readOne_82 rfl ?_
            refine z_bipush ok dX7_readOne_83 (by decide) ?_
            refine z_icmp_ne (tgt := 149) ok dX7_readOne_85 (by decide) (by omega) (by omega) (fun c85 => ?_) (fun c85 => ?_)
            · -- t
              refine z_iload_n ok dX7_readOne_149 rfl ?_
              refine z_bipush ok dX7_readOne_150 (by decide) ?_
              refine z_icmp_eq (tgt := 167) ok dX7_readOne_152 (by decide) (by omega) (by omega) (fun c152 => ?_) (fun c152 => ?_)
              · -- t
                refine z_aload_n ok dX7_readOne_167 rfl ?_
                refine z_dup ok dX7_readOne_168 rfl ?_
                refine z_get (v := .int (iI rd)) ok zc7 0 rfl 15 (by decide) qf_RX7_173 rfl rfl dX7_readOne_169 ?_
                refine z_iconst ok dX7_readOne_172 ?_
                refine z_iadd ok dX7_readOne_173 ?_
                refine z_put (ws' := mW Z q now kept hist und sav isv pad sg it far many laid sides stuck (zu (zu ord (3 * rd) (sgn pad sg pl)) ((3 * rd) + 1) 0) (rd + 1) (pl + 1) 1) ok zc7 0 rfl 15 (by decide) qf_RX7_173 rfl rfl rfl rfl (Nat.le_of_ble_eq_true rfl) dX7_readOne_174 rfl ?_
                have hE : (pl + 1) = ordE pad sg pl := by first | (unfold ordE; rw [zif_f hkn]; done) | (unfold ordE; rw [zif_t hk]; first | omega | ((repeat' split) <;> omega))
                have hW : 1 = zb (¬ ordOK pad sg pl) := by first | exact (zb_t (fun z => hkn z.1)).symm | exact (zb_t (fun z => by obtain ⟨o1, o2, o3, o4⟩ := z; first | omega | (have := o3 (by omega); omega) | (have := o4 (by omega); omega))).symm | exact (zb_f (fun z => z ⟨hk, by omega, fun e => by first | (exfalso; omega) | exact ⟨by omega, by omega⟩, fun e => by first | (exfalso; omega) | omega⟩)).symm
                have hO : ordOK pad sg pl → (rd + 1) = rd + 1 ∧ (zu (zu ord (3 * rd) (sgn pad sg pl)) ((3 * rd) + 1) 0) (3 * rd) = sgn pad sg pl ∧ (zu (zu ord (3 * rd) (sgn pad sg pl)) ((3 * rd) + 1) 0) (3 * rd + 1) = numV pad sg (pl + 1) ∧ (sgn pad sg pl ≠ 116 → (zu (zu ord (3 * rd) (sgn pad sg pl)) ((3 * rd) + 1) 0) (3 * rd + 2) = ordS pad sg pl) := by first | exact fun ho => absurd ho.1 hkn | (intro ho; obtain ⟨o1, o2, o3, o4⟩ := ho; first | (exfalso; omega) | (exfalso; have := o3 (by omega); omega) | (exfalso; have := o4 (by omega); omega) | exact ⟨rfl, by rw [zu_n (by omega), zu_n (by omega), zu_s], by rw [zu_n (by omega), zu_s], fun _ => by rw [zu_s]; unfold ordS; first | rw [if_pos (by omega)] | rw [if_neg (by omega)]⟩ | exact ⟨rfl, by rw [zu_n (by omega), zu_s], by rw [zu_s], fun z => absurd (by omega) z⟩)
                have hX : ∀ x : Int, x < 3 * rd → (zu (zu ord (3 * rd) (sgn pad sg pl)) ((3 * rd) + 1) 0) x = ord x := by intro x hx; first | (rw [zu_n (by omega), zu_n (by omega), zu_n (by omega)]; done) | (rw [zu_n (by omega), zu_n (by omega)]; done) | (rw [zu_n (by omega)])
                have hR : rd ≤ (rd + 1) ∧ (rd + 1) ≤ rd + 1 := by omega
                exact fin (zu (zu ord (3 * rd) (sgn pad sg pl)) ((3 * rd) + 1) 0, pl + 1, 1, rd + 1) 177 _ _ _ dX7_readOne_177 (⟨hE, hW, hO, hX, hR.1, hR.2⟩) (by decide) (by decide)
              · -- f
                refine z_aload_n ok dX7_readOne_155 rfl ?_
                refine z_get (v := .ref (q 12)) ok zc7 0 rfl 14 (by decide) qf_RX7_44 rfl rfl dX7_readOne_156 ?_
                refine z_iload_n ok dX7_readOne_159 rfl ?_
                refine z_iconst ok dX7_readOne_160 ?_
                refine z_iadd ok dX7_readOne_161 ?_
                refine z_aload_n ok dX7_readOne_162 rfl ?_
                refine z_callVi0 ok (fun l => c_X7_side  (hpd) (by omega) (by omega)) zm_X7_side zv_X7_side qm_RX7_179 dX7_readOne_163 (by decide) (by decide) rfl rfl (Nat.le_of_ble_eq_true rfl) (q0 := 0) rfl rfl rfl (fun ρ _ hρ => ?_)
                subst hρ
                refine z_eq (ws' := mW Z q now kept hist und sav isv pad sg it far many laid sides stuck (zu (zu ord (3 * rd) (sgn pad sg pl)) ((3 * rd) + 1) 0) rd (if (¬ 1 = 0 ∨ sdV pad sg (pl + 1) < 0) then (pl + 1) else (pl + 1) + 1) (if (¬ 1 = 0 ∨ sdV pad sg (pl + 1) < 0) then 1 else 0)) rfl ?_
                refine z_eq (ws' := mW Z q now kept hist und sav isv pad sg it far many laid sides stuck (zu (zu ord (3 * rd) (sgn pad sg pl)) ((3 * rd) + 1) 0) rd (pl + 1) 1) (by rw [if_pos (show (¬ (1 : Int) = 0 ∨ sdV pad sg (pl + 1) < 0) from Or.inl (by decide)), if_pos (show (¬ (1 : Int) = 0 ∨ sdV pad sg (pl + 1) < 0) from Or.inl (by decide))]) ?_
                refine z_iast (f := zu (zu ord (3 * rd) (sgn pad sg pl)) ((3 * rd) + 1) 0) (v := (if sdV pad sg (pl + 1) < 0 then -6 else sdV pad sg (pl + 1))) (ws' := mW Z q now kept hist und sav isv pad sg it far many laid sides stuck (zu (zu (zu ord (3 * rd) (sgn pad sg pl)) ((3 * rd) + 1) 0) ((3 * rd) + 2) (if sdV pad sg (pl + 1) < 0 then -6 else sdV pad sg (pl + 1))) rd (pl + 1) 1) ok 12 rfl dX7_readOne_166 (by omega) (by decide) rfl ?_
                refine z_aload_n ok dX7_readOne_167 rfl ?_
                refine z_dup ok dX7_readOne_168 rfl ?_
                refine z_get (v := .int (iI rd)) ok zc7 0 rfl 15 (by decide) qf_RX7_173 rfl rfl dX7_readOne_169 ?_
                refine z_iconst ok dX7_readOne_172 ?_
                refine z_iadd ok dX7_readOne_173 ?_
                refine z_put (ws' := mW Z q now kept hist und sav isv pad sg it far many laid sides stuck (zu (zu (zu ord (3 * rd) (sgn pad sg pl)) ((3 * rd) + 1) 0) ((3 * rd) + 2) (if sdV pad sg (pl + 1) < 0 then -6 else sdV pad sg (pl + 1))) (rd + 1) (pl + 1) 1) ok zc7 0 rfl 15 (by decide) qf_RX7_173 rfl rfl rfl rfl (Nat.le_of_ble_eq_true rfl) dX7_readOne_174 rfl ?_
                have hE : (pl + 1) = ordE pad sg pl := by first | (unfold ordE; rw [zif_f hkn]; done) | (unfold ordE; rw [zif_t hk]; first | omega | ((repeat' split) <;> omega))
                have hW : 1 = zb (¬ ordOK pad sg pl) := by first | exact (zb_t (fun z => hkn z.1)).symm | exact (zb_t (fun z => by obtain ⟨o1, o2, o3, o4⟩ := z; first | omega | (have := o3 (by omega); omega) | (have := o4 (by omega); omega))).symm | exact (zb_f (fun z => z ⟨hk, by omega, fun e => by first | (exfalso; omega) | exact ⟨by omega, by omega⟩, fun e => by first | (exfalso; omega) | omega⟩)).symm
                have hO : ordOK pad sg pl → (rd + 1) = rd + 1 ∧ (zu (zu (zu ord (3 * rd) (sgn pad sg pl)) ((3 * rd) + 1) 0) ((3 * rd) + 2) (if sdV pad sg (pl + 1) < 0 then -6 else sdV pad sg (pl + 1))) (3 * rd) = sgn pad sg pl ∧ (zu (zu (zu ord (3 * rd) (sgn pad sg pl)) ((3 * rd) + 1) 0) ((3 * rd) + 2) (if sdV pad sg (pl + 1) < 0 then -6 else sdV pad sg (pl + 1))) (3 * rd + 1) = numV pad sg (pl + 1) ∧ (sgn pad sg pl ≠ 116 → (zu (zu (zu ord (3 * rd) (sgn pad sg pl)) ((3 * rd) + 1) 0) ((3 * rd) + 2) (if sdV pad sg (pl + 1) < 0 then -6 else sdV pad sg (pl + 1))) (3 * rd + 2) = ordS pad sg pl) := by first | exact fun ho => absurd ho.1 hkn | (intro ho; obtain ⟨o1, o2, o3, o4⟩ := ho; first | (exfalso; omega) | (exfalso; have := o3 (by omega); omega) | (exfalso; have := o4 (by omega); omega) | exact ⟨rfl, by rw [zu_n (by omega), zu_n (by omega), zu_s], by rw [zu_n (by omega), zu_s], fun _ => by rw [zu_s]; unfold ordS; first | rw [if_pos (by omega)] | rw [if_neg (by omega)]⟩ | exact ⟨rfl, by rw [zu_n (by omega), zu_s], by rw [zu_s], fun z => absurd (by omega) z⟩)
                have hX : ∀ x : Int, x < 3 * rd → (zu (zu (zu ord (3 * rd) (sgn pad sg pl)) ((3 * rd) + 1) 0) ((3 * rd) + 2) (if sdV pad sg (pl + 1) < 0 then -6 else sdV pad sg (pl + 1))) x = ord x := by intro x hx; first | (rw [zu_n (by omega), zu_n (by omega), zu_n (by omega)]; done) | (rw [zu_n (by omega), zu_n (by omega)]; done) | (rw [zu_n (by omega)])
                have hR : rd ≤ (rd + 1) ∧ (rd + 1) ≤ rd + 1 := by omega
                exact fin (zu (zu (zu ord (3 * rd) (sgn pad sg pl)) ((3 * rd) + 1) 0) ((3 * rd) + 2) (if sdV pad sg (pl + 1) < 0 then -6 else sdV pad sg (pl + 1)), pl + 1, 1, rd + 1) 177 _ _ _ dX7_readOne_177 (⟨hE, hW, hO, hX, hR.1, hR.2⟩) (by decide) (by decide)
            · -- f
              refine z_aload_n ok dX7_readOne_88 rfl ?_
              refine z_aload_n ok dX7_readOne_89 rfl ?_
              refine z_get (v := .int (iI 1)) ok zc7 0 rfl 17 (by decide) qf_RX7_170 rfl rfl dX7_readOne_90 ?_
              refine z_if_ne (tgt := 105) ok dX7_readOne_93 (by decide) (by omega) (fun c93 => ?_) (fun c93 => ?_)
              · -- t
                refine z_iconst ok dX7_readOne_105 ?_
                refine z_goto (tgt := 110) ok dX7_readOne_106 (by decide) ?_
                refine z_put (ws' := mW Z q now kept hist und sav isv pad sg it far many laid sides stuck (zu (zu ord (3 * rd) (sgn pad sg pl)) ((3 * rd) + 1) 0) rd (pl + 1) 1) ok zc7 0 rfl 17 (by decide) qf_RX7_170 rfl rfl (znZ _ (by first | decide | exact zb_01 _ | omega)) (zfZ _ (by first | decide | exact zb_01 _ | omega)) (Nat.le_of_ble_eq_true rfl) dX7_readOne_110 rfl ?_
                refine z_aload_n ok dX7_readOne_113 rfl ?_
                refine z_dup ok dX7_readOne_114 rfl ?_
                refine z_get (v := .int (iI (pl + 1))) ok zc7 0 rfl 16 (by decide) qf_RX7_164 rfl rfl dX7_readOne_115 ?_
                refine z_aload_n ok dX7_readOne_118 rfl ?_
                refine z_get (v := .int (iI 1)) ok zc7 0 rfl 17 (by decide) qf_RX7_170 rfl rfl dX7_readOne_119 ?_
                refine z_if_eq (tgt := 129) ok dX7_readOne_122 (by decide) (by omega) (fun c122 => ?_) (fun c122 => ?_)
                · -- t
                  exact absurd c122 (by decide)
                · -- f
                  refine z_iconst ok dX7_readOne_125 ?_
                  refine z_goto (tgt := 130) ok dX7_readOne_126 (by decide) ?_
                  refine z_iadd ok dX7_readOne_130 ?_
                  refine z_put (ws' := mW Z q now kept hist und sav isv pad sg it far many laid sides stuck (zu (zu ord (3 * rd) (sgn pad sg pl)) ((3 * rd) + 1) 0) rd ((pl + 1) + 0) 1) ok zc7 0 rfl 16 (by decide) qf_RX7_164 rfl rfl rfl rfl (Nat.le_of_ble_eq_true rfl) dX7_readOne_131 rfl ?_
                  refine z_aload_n ok dX7_readOne_134 rfl ?_
                  refine z_get (v := .ref (q 12)) ok zc7 0 rfl 14 (by decide) qf_RX7_44 rfl rfl dX7_readOne_135 ?_
                  refine z_iload_n ok dX7_readOne_138 rfl ?_
                  refine z_iconst ok dX7_readOne_139 ?_
                  refine z_iadd ok dX7_readOne_140 ?_
                  refine z_aload_n ok dX7_readOne_141 rfl ?_
                  refine z_callVi0 ok (fun l => c_X7_number  (hpd) (by omega) (by omega)) zm_X7_number zv_X7_number qm_RX7_176 dX7_readOne_142 (by decide) (by decide) rfl rfl (Nat.le_of_ble_eq_true rfl) (q0 := 0) rfl rfl rfl (fun ρ _ hρ => ?_)
                  subst hρ
                  refine z_eq (ws' := mW Z q now kept hist und sav isv pad sg it far many laid sides stuck (zu (zu ord (3 * rd) (sgn pad sg pl)) ((3 * rd) + 1) 0) rd (if (¬ 1 = 0 ∨ numV pad sg ((pl + 1) + 0) < 0) then ((pl + 1) + 0) else numP pad sg ((pl + 1) + 0)) (if (¬ 1 = 0 ∨ numV pad sg ((pl + 1) + 0) < 0) then 1 else 0)) rfl ?_
                  refine z_eq (ws' := mW Z q now kept hist und sav isv pad sg it far many laid sides stuck (zu (zu ord (3 * rd) (sgn pad sg pl)) ((3 * rd) + 1) 0) rd ((pl + 1) + 0) 1) (by rw [if_pos (show (¬ (1 : Int) = 0 ∨ numV pad sg ((pl + 1) + 0) < 0) from Or.inl (by decide)), if_pos (show (¬ (1 : Int) = 0 ∨ numV pad sg ((pl + 1) + 0) < 0) from Or.inl (by decide))]) ?_
                  refine z_st (st' := [.int (iI 0), .int (iI ((3 * rd) + 2)), .ref (q 12)]) (by rw [if_pos (show (¬ (1 : Int) = 0 ∨ numV pad sg ((pl + 1) + 0) < 0) from Or.inl (by decide))]) ?_
                  refine z_iast (f := zu (zu ord (3 * rd) (sgn pad sg pl)) ((3 * rd) + 1) 0) (v := 0) (ws' := mW Z q now kept hist und sav isv pad sg it far many laid sides stuck (zu (zu (zu ord (3 * rd) (sgn pad sg pl)) ((3 * rd) + 1) 0) ((3 * rd) + 2) 0) rd ((pl + 1) + 0) 1) ok 12 rfl dX7_readOne_145 (by omega) (by decide) rfl ?_
                  refine z_goto (tgt := 167) ok dX7_readOne_146 (by decide) ?_
                  refine z_aload_n ok dX7_readOne_167 rfl ?_
                  refine z_dup ok dX7_readOne_168 rfl ?_
                  refine z_get (v := .int (iI rd)) ok zc7 0 rfl 15 (by decide) qf_RX7_173 rfl rfl dX7_readOne_169 ?_
                  refine z_iconst ok dX7_readOne_172 ?_
                  refine z_iadd ok dX7_readOne_173 ?_
                  refine z_put (ws' := mW Z q now kept hist und sav isv pad sg it far many laid sides stuck (zu (zu (zu ord (3 * rd) (sgn pad sg pl)) ((3 * rd) + 1) 0) ((3 * rd) + 2) 0) (rd + 1) ((pl + 1) + 0) 1) ok zc7 0 rfl 15 (by decide) qf_RX7_173 rfl rfl rfl rfl (Nat.le_of_ble_eq_true rfl) dX7_readOne_174 rfl ?_
                  have hE : ((pl + 1) + 0) = ordE pad sg pl := by first | (unfold ordE; rw [zif_f hkn]; done) | (unfold ordE; rw [zif_t hk]; first | omega | ((repeat' split) <;> omega))
                  have hW : 1 = zb (¬ ordOK pad sg pl) := by first | exact (zb_t (fun z => hkn z.1)).symm | exact (zb_t (fun z => by obtain ⟨o1, o2, o3, o4⟩ := z; first | omega | (have := o3 (by omega); omega) | (have := o4 (by omega); omega))).symm | exact (zb_f (fun z => z ⟨hk, by omega, fun e => by first | (exfalso; omega) | exact ⟨by omega, by omega⟩, fun e => by first | (exfalso; omega) | omega⟩)).symm
                  have hO : ordOK pad sg pl → (rd + 1) = rd + 1 ∧ (zu (zu (zu ord (3 * rd) (sgn pad sg pl)) ((3 * rd) + 1) 0) ((3 * rd) + 2) 0) (3 * rd) = sgn pad sg pl ∧ (zu (zu (zu ord (3 * rd) (sgn pad sg pl)) ((3 * rd) + 1) 0) ((3 * rd) + 2) 0) (3 * rd + 1) = numV pad sg (pl + 1) ∧ (sgn pad sg pl ≠ 116 → (zu (zu (zu ord (3 * rd) (sgn pad sg pl)) ((3 * rd) + 1) 0) ((3 * rd) + 2) 0) (3 * rd + 2) = ordS pad sg pl) := by first | exact fun ho => absurd ho.1 hkn | (intro ho; obtain ⟨o1, o2, o3, o4⟩ := ho; first | (exfalso; omega) | (exfalso; have := o3 (by omega); omega) | (exfalso; have := o4 (by omega); omega) | exact ⟨rfl, by rw [zu_n (by omega), zu_n (by omega), zu_s], by rw [zu_n (by omega), zu_s], fun _ => by rw [zu_s]; unfold ordS; first | rw [if_pos (by omega)] | rw [if_neg (by omega)]⟩ | exact ⟨rfl, by rw [zu_n (by omega), zu_s], by rw [zu_s], fun z => absurd (by omega) z⟩)
                  have hX : ∀ x : Int, x < 3 * rd → (zu (zu (zu ord (3 * rd) (sgn pad sg pl)) ((3 * rd) + 1) 0) ((3 * rd) + 2) 0) x = ord x := by intro x hx; first | (rw [zu_n (by omega), zu_n (by omega), zu_n (by omega)]; done) | (rw [zu_n (by omega), zu_n (by omega)]; done) | (rw [zu_n (by omega)])
                  have hR : rd ≤ (rd + 1) ∧ (rd + 1) ≤ rd + 1 := by omega
                  exact fin (zu (zu (zu ord (3 * rd) (sgn pad sg pl)) ((3 * rd) + 1) 0) ((3 * rd) + 2) 0, ((pl + 1) + 0), 1, rd + 1) 177 _ _ _ dX7_readOne_177 (⟨hE, hW, hO, hX, hR.1, hR.2⟩) (by decide) (by decide)
              · -- f
                exact absurd c93 (by decide)
          · -- split
            refine z_eq (ws' := mW Z q now kept hist und sav isv pad sg it far many laid sides stuck (zu ord (3 * rd) (sgn pad sg pl)) rd (numP pad sg (pl + 1)) 0) (by rw [if_neg (show ¬ (¬ (0 : Int) = 0 ∨ numV pad sg (pl + 1) < 0) from fun z => z.elim (fun y => y rfl) hn), if_neg (show ¬ (¬ (0 : Int) = 0 ∨ numV pad sg (pl + 1) < 0) from fun z => z.elim (fun y => y rfl) hn)]) ?_
            refine z_st (st' := [.int (iI (numV pad sg (pl + 1))), .int (iI ((3 * rd) + 1)), .ref (q 12)]) (by rw [if_neg (show ¬ (¬ (0 : Int) = 0 ∨ numV pad sg (pl + 1) < 0) from fun z => z.elim (fun y => y rfl) hn)]) ?_
            refine z_iast (f := zu ord (3 * rd) (sgn pad sg pl)) (v := numV pad sg (pl + 1)) (ws' := mW Z q now kept hist und sav isv pad sg it far many laid sides stuck (zu (zu ord (3 * rd) (sgn pad sg pl)) ((3 * rd) + 1) (numV pad sg (pl + 1))) rd (numP pad sg (pl + 1)) 0) ok 12 rfl dX7_readOne_81 (by omega) (by decide) rfl ?_
            refine z_iload_n ok dX7_readOne_82 rfl ?_
            refine z_bipush ok dX7_readOne_83 (by decide) ?_
            refine z_icmp_ne (tgt := 149) ok dX7_readOne_85 (by decide) (by omega) (by omega) (fun c85 => ?_) (fun c85 => ?_)
            · -- t
              refine z_iload_n ok dX7_readOne_149 rfl ?_
              refine z_bipush ok dX7_readOne_150 (by decide) ?_
              refine z_icmp_eq (tgt := 167) ok dX7_readOne_152 (by decide) (by omega) (by omega) (fun c152 => ?_) (fun c152 => ?_)
              · -- t
                refine z_aload_n ok dX7_readOne_167 rfl ?_
                refine z_dup ok dX7_readOne_168 rfl ?_
                refine z_get (v := .int (iI rd)) ok zc7 0 rfl 15 (by decide) qf_RX7_173 rfl rfl dX7_readOne_169 ?_
                refine z_iconst ok dX7_readOne_172 ?_
                refine z_iadd ok dX7_readOne_173 ?_
                refine z_put (ws' := mW Z q now kept hist und sav isv pad sg it far many laid sides stuck (zu (zu ord (3 * rd) (sgn pad sg pl)) ((3 * rd) + 1) (numV pad sg (pl + 1))) (rd + 1) (numP pad sg (pl + 1)) 0) ok zc7 0 rfl 15 (by decide) qf_RX7_173 rfl rfl rfl rfl (Nat.le_of_ble_eq_true rfl) dX7_readOne_174 rfl ?_
                have hE : (numP pad sg (pl + 1)) = ordE pad sg pl := by first | (unfold ordE; rw [zif_f hkn]; done) | (unfold ordE; rw [zif_t hk]; first | omega | ((repeat' split) <;> omega))
                have hW : 0 = zb (¬ ordOK pad sg pl) := by first | exact (zb_t (fun z => hkn z.1)).symm | exact (zb_t (fun z => by obtain ⟨o1, o2, o3, o4⟩ := z; first | omega | (have := o3 (by omega); omega) | (have := o4 (by omega); omega))).symm | exact (zb_f (fun z => z ⟨hk, by omega, fun e => by first | (exfalso; omega) | exact ⟨by omega, by omega⟩, fun e => by first | (exfalso; omega) | omega⟩)).symm
                have hO : ordOK pad sg pl → (rd + 1) = rd + 1 ∧ (zu (zu ord (3 * rd) (sgn pad sg pl)) ((3 * rd) + 1) (numV pad sg (pl + 1))) (3 * rd) = sgn pad sg pl ∧ (zu (zu ord (3 * rd) (sgn pad sg pl)) ((3 * rd) + 1) (numV pad sg (pl + 1))) (3 * rd + 1) = numV pad sg (pl + 1) ∧ (sgn pad sg pl ≠ 116 → (zu (zu ord (3 * rd) (sgn pad sg pl)) ((3 * rd) + 1) (numV pad sg (pl + 1))) (3 * rd + 2) = ordS pad sg pl) := by first | exact fun ho => absurd ho.1 hkn | (intro ho; obtain ⟨o1, o2, o3, o4⟩ := ho; first | (exfalso; omega) | (exfalso; have := o3 (by omega); omega) | (exfalso; have := o4 (by omega); omega) | exact ⟨rfl, by rw [zu_n (by omega), zu_n (by omega), zu_s], by rw [zu_n (by omega), zu_s], fun _ => by rw [zu_s]; unfold ordS; first | rw [if_pos (by omega)] | rw [if_neg (by omega)]⟩ | exact ⟨rfl, by rw [zu_n (by omega), zu_s], by rw [zu_s], fun z => absurd (by omega) z⟩)
                have hX : ∀ x : Int, x < 3 * rd → (zu (zu ord (3 * rd) (sgn pad sg pl)) ((3 * rd) + 1) (numV pad sg (pl + 1))) x = ord x := by intro x hx; first | (rw [zu_n (by omega), zu_n (by omega), zu_n (by omega)]; done) | (rw [zu_n (by omega), zu_n (by omega)]; done) | (rw [zu_n (by omega)])
                have hR : rd ≤ (rd + 1) ∧ (rd + 1) ≤ rd + 1 := by omega
                exact fin (zu (zu ord (3 * rd) (sgn pad sg pl)) ((3 * rd) + 1) (numV pad sg (pl + 1)), numP pad sg (pl + 1), 0, rd + 1) 177 _ _ _ dX7_readOne_177 (⟨hE, hW, hO, hX, hR.1, hR.2⟩) (by decide) (by decide)
              · -- f
                refine z_aload_n ok dX7_readOne_155 rfl ?_
                refine z_get (v := .ref (q 12)) ok zc7 0 rfl 14 (by decide) qf_RX7_44 rfl rfl dX7_readOne_156 ?_
                refine z_iload_n ok dX7_readOne_159 rfl ?_
                refine z_iconst ok dX7_readOne_160 ?_
                refine z_iadd ok dX7_readOne_161 ?_
                refine z_aload_n ok dX7_readOne_162 rfl ?_
                refine z_callVi0 ok (fun l => c_X7_side  (hpd) (by omega) (by omega)) zm_X7_side zv_X7_side qm_RX7_179 dX7_readOne_163 (by decide) (by decide) rfl rfl (Nat.le_of_ble_eq_true rfl) (q0 := 0) rfl rfl rfl (fun ρ _ hρ => ?_)
                subst hρ
                refine z_eq (ws' := mW Z q now kept hist und sav isv pad sg it far many laid sides stuck (zu (zu ord (3 * rd) (sgn pad sg pl)) ((3 * rd) + 1) (numV pad sg (pl + 1))) rd (if (¬ 0 = 0 ∨ sdV pad sg (numP pad sg (pl + 1)) < 0) then (numP pad sg (pl + 1)) else (numP pad sg (pl + 1)) + 1) (if (¬ 0 = 0 ∨ sdV pad sg (numP pad sg (pl + 1)) < 0) then 1 else 0)) rfl ?_
                by_cases hq : sdV pad sg (numP pad sg (pl + 1)) < 0
                · -- split
                  refine z_eq (ws' := mW Z q now kept hist und sav isv pad sg it far many laid sides stuck (zu (zu ord (3 * rd) (sgn pad sg pl)) ((3 * rd) + 1) (numV pad sg (pl + 1))) rd (numP pad sg (pl + 1)) 1) (by rw [if_pos (show (¬ (0 : Int) = 0 ∨ sdV pad sg (numP pad sg (pl + 1)) < 0) from Or.inr hq), if_pos (show (¬ (0 : Int) = 0 ∨ sdV pad sg (numP pad sg (pl + 1)) < 0) from Or.inr hq)]) ?_
                  refine z_iast (f := zu (zu ord (3 * rd) (sgn pad sg pl)) ((3 * rd) + 1) (numV pad sg (pl + 1))) (v := (if sdV pad sg (numP pad sg (pl + 1)) < 0 then -6 else sdV pad sg (numP pad sg (pl + 1)))) (ws' := mW Z q now kept hist und sav isv pad sg it far many laid sides stuck (zu (zu (zu ord (3 * rd) (sgn pad sg pl)) ((3 * rd) + 1) (numV pad sg (pl + 1))) ((3 * rd) + 2) (if sdV pad sg (numP pad sg (pl + 1)) < 0 then -6 else sdV pad sg (numP pad sg (pl + 1)))) rd (numP pad sg (pl + 1)) 1) ok 12 rfl dX7_readOne_166 (by omega) (by decide) rfl ?_
                  refine z_aload_n ok dX7_readOne_167 rfl ?_
                  refine z_dup ok dX7_readOne_168 rfl ?_
                  refine z_get (v := .int (iI rd)) ok zc7 0 rfl 15 (by decide) qf_RX7_173 rfl rfl dX7_readOne_169 ?_
                  refine z_iconst ok dX7_readOne_172 ?_
                  refine z_iadd ok dX7_readOne_173 ?_
                  refine z_put (ws' := mW Z q now kept hist und sav isv pad sg it far many laid sides stuck (zu (zu (zu ord (3 * rd) (sgn pad sg pl)) ((3 * rd) + 1) (numV pad sg (pl + 1))) ((3 * rd) + 2) (if sdV pad sg (numP pad sg (pl + 1)) < 0 then -6 else sdV pad sg (numP pad sg (pl + 1)))) (rd + 1) (numP pad sg (pl + 1)) 1) ok zc7 0 rfl 15 (by decide) qf_RX7_173 rfl rfl rfl rfl (Nat.le_of_ble_eq_true rfl) dX7_readOne_174 rfl ?_
                  have hE : (numP pad sg (pl + 1)) = ordE pad sg pl := by first | (unfold ordE; rw [zif_f hkn]; done) | (unfold ordE; rw [zif_t hk]; first | omega | ((repeat' split) <;> omega))
                  have hW : 1 = zb (¬ ordOK pad sg pl) := by first | exact (zb_t (fun z => hkn z.1)).symm | exact (zb_t (fun z => by obtain ⟨o1, o2, o3, o4⟩ := z; first | omega | (have := o3 (by omega); omega) | (have := o4 (by omega); omega))).symm | exact (zb_f (fun z => z ⟨hk, by omega, fun e => by first | (exfalso; omega) | exact ⟨by omega, by omega⟩, fun e => by first | (exfalso; omega) | omega⟩)).symm
                  have hO : ordOK pad sg pl → (rd + 1) = rd + 1 ∧ (zu (zu (zu ord (3 * rd) (sgn pad sg pl)) ((3 * rd) + 1) (numV pad sg (pl + 1))) ((3 * rd) + 2) (if sdV pad sg (numP pad sg (pl + 1)) < 0 then -6 else sdV pad sg (numP pad sg (pl + 1)))) (3 * rd) = sgn pad sg pl ∧ (zu (zu (zu ord (3 * rd) (sgn pad sg pl)) ((3 * rd) + 1) (numV pad sg (pl + 1))) ((3 * rd) + 2) (if sdV pad sg (numP pad sg (pl + 1)) < 0 then -6 else sdV pad sg (numP pad sg (pl + 1)))) (3 * rd + 1) = numV pad sg (pl + 1) ∧ (sgn pad sg pl ≠ 116 → (zu (zu (zu ord (3 * rd) (sgn pad sg pl)) ((3 * rd) + 1) (numV pad sg (pl + 1))) ((3 * rd) + 2) (if sdV pad sg (numP pad sg (pl + 1)) < 0 then -6 else sdV pad sg (numP pad sg (pl + 1)))) (3 * rd + 2) = ordS pad sg pl) := by first | exact fun ho => absurd ho.1 hkn | (intro ho; obtain ⟨o1, o2, o3, o4⟩ := ho; first | (exfalso; omega) | (exfalso; have := o3 (by omega); omega) | (exfalso; have := o4 (by omega); omega) | exact ⟨rfl, by rw [zu_n (by omega), zu_n (by omega), zu_s], by rw [zu_n (by omega), zu_s], fun _ => by rw [zu_s]; unfold ordS; first | rw [if_pos (by omega)] | rw [if_neg (by omega)]⟩ | exact ⟨rfl, by rw [zu_n (by omega), zu_s], by rw [zu_s], fun z => absurd (by omega) z⟩)
                  have hX : ∀ x : Int, x < 3 * rd → (zu (zu (zu ord (3 * rd) (sgn pad sg pl)) ((3 * rd) + 1) (numV pad sg (pl + 1))) ((3 * rd) + 2) (if sdV pad sg (numP pad sg (pl + 1)) < 0 then -6 else sdV pad sg (numP pad sg (pl + 1)))) x = ord x := by intro x hx; first | (rw [zu_n (by omega), zu_n (by omega), zu_n (by omega)]; done) | (rw [zu_n (by omega), zu_n (by omega)]; done) | (rw [zu_n (by omega)])
                  have hR : rd ≤ (rd + 1) ∧ (rd + 1) ≤ rd + 1 := by omega
                  exact fin (zu (zu (zu ord (3 * rd) (sgn pad sg pl)) ((3 * rd) + 1) (numV pad sg (pl + 1))) ((3 * rd) + 2) (if sdV pad sg (numP pad sg (pl + 1)) < 0 then -6 else sdV pad sg (numP pad sg (pl + 1))), numP pad sg (pl + 1), 1, rd + 1) 177 _ _ _ dX7_readOne_177 (⟨hE, hW, hO, hX, hR.1, hR.2⟩) (by decide) (by decide)
                · -- split
                  refine z_eq (ws' := mW Z q now kept hist und sav isv pad sg it far many laid sides stuck (zu (zu ord (3 * rd) (sgn pad sg pl)) ((3 * rd) + 1) (numV pad sg (pl + 1))) rd (numP pad sg (pl + 1) + 1) 0) (by rw [if_neg (show ¬ (¬ (0 : Int) = 0 ∨ sdV pad sg (numP pad sg (pl + 1)) < 0) from fun z => z.elim (fun y => y rfl) hq), if_neg (show ¬ (¬ (0 : Int) = 0 ∨ sdV pad sg (numP pad sg (pl + 1)) < 0) from fun z => z.elim (fun y => y rfl) hq)]) ?_
                  refine z_st (st' := [.int (iI (sdV pad sg (numP pad sg (pl + 1)))), .int (iI ((3 * rd) + 2)), .ref (q 12)]) (by rw [if_neg hq]) ?_
                  refine z_iast (f := zu (zu ord (3 * rd) (sgn pad sg pl)) ((3 * rd) + 1) (numV pad sg (pl + 1))) (v := sdV pad sg (numP pad sg (pl + 1))) (ws' := mW Z q now kept hist und sav isv pad sg it far many laid sides stuck (zu (zu (zu ord (3 * rd) (sgn pad sg pl)) ((3 * rd) + 1) (numV pad sg (pl + 1))) ((3 * rd) + 2) (sdV pad sg (numP pad sg (pl + 1)))) rd (numP pad sg (pl + 1) + 1) 0) ok 12 rfl dX7_readOne_166 (by omega) (by decide) rfl ?_
                  refine z_aload_n ok dX7_readOne_167 rfl ?_
                  refine z_dup ok dX7_readOne_168 rfl ?_
                  refine z_get (v := .int (iI rd)) ok zc7 0 rfl 15 (by decide) qf_RX7_173 rfl rfl dX7_readOne_169 ?_
                  refine z_iconst ok dX7_readOne_172 ?_
                  refine z_iadd ok dX7_readOne_173 ?_
                  refine z_put (ws' := mW Z q now kept hist und sav isv pad sg it far many laid sides stuck (zu (zu (zu ord (3 * rd) (sgn pad sg pl)) ((3 * rd) + 1) (numV pad sg (pl + 1))) ((3 * rd) + 2) (sdV pad sg (numP pad sg (pl + 1)))) (rd + 1) (numP pad sg (pl + 1) + 1) 0) ok zc7 0 rfl 15 (by decide) qf_RX7_173 rfl rfl rfl rfl (Nat.le_of_ble_eq_true rfl) dX7_readOne_174 rfl ?_
                  have hE : (numP pad sg (pl + 1) + 1) = ordE pad sg pl := by first | (unfold ordE; rw [zif_f hkn]; done) | (unfold ordE; rw [zif_t hk]; first | omega | ((repeat' split) <;> omega))
                  have hW : 0 = zb (¬ ordOK pad sg pl) := by first | exact (zb_t (fun z => hkn z.1)).symm | exact (zb_t (fun z => by obtain ⟨o1, o2, o3, o4⟩ := z; first | omega | (have := o3 (by omega); omega) | (have := o4 (by omega); omega))).symm | exact (zb_f (fun z => z ⟨hk, by omega, fun e => by first | (exfalso; omega) | exact ⟨by omega, by omega⟩, fun e => by first | (exfalso; omega) | omega⟩)).symm
                  have hO : ordOK pad sg pl → (rd + 1) = rd + 1 ∧ (zu (zu (zu ord (3 * rd) (sgn pad sg pl)) ((3 * rd) + 1) (numV pad sg (pl + 1))) ((3 * rd) + 2) (sdV pad sg (numP pad sg (pl + 1)))) (3 * rd) = sgn pad sg pl ∧ (zu (zu (zu ord (3 * rd) (sgn pad sg pl)) ((3 * rd) + 1) (numV pad sg (pl + 1))) ((3 * rd) + 2) (sdV pad sg (numP pad sg (pl + 1)))) (3 * rd + 1) = numV pad sg (pl + 1) ∧ (sgn pad sg pl ≠ 116 → (zu (zu (zu ord (3 * rd) (sgn pad sg pl)) ((3 * rd) + 1) (numV pad sg (pl + 1))) ((3 * rd) + 2) (sdV pad sg (numP pad sg (pl + 1)))) (3 * rd + 2) = ordS pad sg pl) := by first | exact fun ho => absurd ho.1 hkn | (intro ho; obtain ⟨o1, o2, o3, o4⟩ := ho; first | (exfalso; omega) | (exfalso; have := o3 (by omega); omega) | (exfalso; have := o4 (by omega); omega) | exact ⟨rfl, by rw [zu_n (by omega), zu_n (by omega), zu_s], by rw [zu_n (by omega), zu_s], fun _ => by rw [zu_s]; unfold ordS; first | rw [if_pos (by omega)] | rw [if_neg (by omega)]⟩ | exact ⟨rfl, by rw [zu_n (by omega), zu_s], by rw [zu_s], fun z => absurd (by omega) z⟩)
                  have hX : ∀ x : Int, x < 3 * rd → (zu (zu (zu ord (3 * rd) (sgn pad sg pl)) ((3 * rd) + 1) (numV pad sg (pl + 1))) ((3 * rd) + 2) (sdV pad sg (numP pad sg (pl + 1)))) x = ord x := by intro x hx; first | (rw [zu_n (by omega), zu_n (by omega), zu_n (by omega)]; done) | (rw [zu_n (by omega), zu_n (by omega)]; done) | (rw [zu_n (by omega)])
                  have hR : rd ≤ (rd + 1) ∧ (rd + 1) ≤ rd + 1 := by omega
                  exact fin (zu (zu (zu ord (3 * rd) (sgn pad sg pl)) ((3 * rd) + 1) (numV pad sg (pl + 1))) ((3 * rd) + 2) (sdV pad sg (numP pad sg (pl + 1))), numP pad sg (pl + 1) + 1, 0, rd + 1) 177 _ _ _ dX7_readOne_177 (⟨hE, hW, hO, hX, hR.1, hR.2⟩) (by decide) (by decide)
            · -- f
              refine z_aload_n ok dX7_readOne_88 rfl ?_
              refine z_aload_n ok dX7_readOne_89 rfl ?_
              refine z_get (v := .int (iI 0)) ok zc7 0 rfl 17 (by decide) qf_RX7_170 rfl rfl dX7_readOne_90 ?_
              refine z_if_ne (tgt := 105) ok dX7_readOne_93 (by decide) (by omega) (fun c93 => ?_) (fun c93 => ?_)
              · -- t
                exact absurd c93 (by decide)
              · -- f
                refine z_aload_n ok dX7_readOne_96 rfl ?_
                refine z_callVi0 ok (fun l => c_X7_sign  (by omega) (by omega)) zm_X7_sign zv_X7_sign qm_RX7_167 dX7_readOne_97 (by decide) (by decide) rfl rfl (Nat.le_of_ble_eq_true rfl) (q0 := 0) rfl rfl rfl (fun ρ _ hρ => ?_)
                subst hρ
                refine z_eq (ws' := mW Z q now kept hist und sav isv pad sg it far many laid sides stuck (zu (zu ord (3 * rd) (sgn pad sg pl)) ((3 * rd) + 1) (numV pad sg (pl + 1))) rd (numP pad sg (pl + 1)) 0) rfl ?_
                refine z_bipush ok dX7_readOne_100 (by decide) ?_
                refine z_icmp_eq (tgt := 109) ok dX7_readOne_102 (by decide) (by omega) (by omega) (fun c102 => ?_) (fun c102 => ?_)
                · -- t
                  refine z_iconst ok dX7_readOne_109 ?_
                  refine z_put (ws' := mW Z q now kept hist und sav isv pad sg it far many laid sides stuck (zu (zu ord (3 * rd) (sgn pad sg pl)) ((3 * rd) + 1) (numV pad sg (pl + 1))) rd (numP pad sg (pl + 1)) 0) ok zc7 0 rfl 17 (by decide) qf_RX7_170 rfl rfl (znZ _ (by first | decide | exact zb_01 _ | omega)) (zfZ _ (by first | decide | exact zb_01 _ | omega)) (Nat.le_of_ble_eq_true rfl) dX7_readOne_110 rfl ?_
                  refine z_aload_n ok dX7_readOne_113 rfl ?_
                  refine z_dup ok dX7_readOne_114 rfl ?_
                  refine z_get (v := .int (iI (numP pad sg (pl + 1)))) ok zc7 0 rfl 16 (by decide) qf_RX7_164 rfl rfl dX7_readOne_115 ?_
                  refine z_aload_n ok dX7_readOne_118 rfl ?_
                  refine z_get (v := .int (iI 0)) ok zc7 0 rfl 17 (by decide) qf_RX7_170 rfl rfl dX7_readOne_119 ?_
                  refine z_if_eq (tgt := 129) ok dX7_readOne_122 (by decide) (by omega) (fun c122 => ?_) (fun c122 => ?_)
                  · -- t
                    refine z_iconst ok dX7_readOne_129 ?_
                    refine z_iadd ok dX7_readOne_130 ?_
                    refine z_put (ws' := mW Z q now kept hist und sav isv pad sg it far many laid sides stuck (zu (zu ord (3 * rd) (sgn pad sg pl)) ((3 * rd) + 1) (numV pad sg (pl + 1))) rd ((numP pad sg (pl + 1)) + 1) 0) ok zc7 0 rfl 16 (by decide) qf_RX7_164 rfl rfl rfl rfl (Nat.le_of_ble_eq_true rfl) dX7_readOne_131 rfl ?_
                    refine z_aload_n ok dX7_readOne_134 rfl ?_
                    refine z_get (v := .ref (q 12)) ok zc7 0 rfl 14 (by decide) qf_RX7_44 rfl rfl dX7_readOne_135 ?_
                    refine z_iload_n ok dX7_readOne_138 rfl ?_
                    refine z_iconst ok dX7_readOne_139 ?_
                    refine z_iadd ok dX7_readOne_140 ?_
                    refine z_aload_n ok dX7_readOne_141 rfl ?_
                    refine z_callVi0 ok (fun l => c_X7_number  (hpd) (by omega) (by omega)) zm_X7_number zv_X7_number qm_RX7_176 dX7_readOne_142 (by decide) (by decide) rfl rfl (Nat.le_of_ble_eq_true rfl) (q0 := 0) rfl rfl rfl (fun ρ _ hρ => ?_)
                    subst hρ
                    refine z_eq (ws' := mW Z q now kept hist und sav isv pad sg it far many laid sides stuck (zu (zu ord (3 * rd) (sgn pad sg pl)) ((3 * rd) + 1) (numV pad sg (pl + 1))) rd (if (¬ 0 = 0 ∨ numV pad sg ((numP pad sg (pl + 1)) + 1) < 0) then ((numP pad sg (pl + 1)) + 1) else numP pad sg ((numP pad sg (pl + 1)) + 1)) (if (¬ 0 = 0 ∨ numV pad sg ((numP pad sg (pl + 1)) + 1) < 0) then 1 else 0)) rfl ?_
                    by_cases hm : numV pad sg (numP pad sg (pl + 1) + 1) < 0
                    · -- split
                      refine z_eq (ws' := mW Z q now kept hist und sav isv pad sg it far many laid sides stuck (zu (zu ord (3 * rd) (sgn pad sg pl)) ((3 * rd) + 1) (numV pad sg (pl + 1))) rd (numP pad sg (pl + 1) + 1) 1) (by rw [if_pos (show (¬ (0 : Int) = 0 ∨ numV pad sg (numP pad sg (pl + 1) + 1) < 0) from Or.inr hm), if_pos (show (¬ (0 : Int) = 0 ∨ numV pad sg (numP pad sg (pl + 1) + 1) < 0) from Or.inr hm)]) ?_
                      refine z_st (st' := [.int (iI 0), .int (iI ((3 * rd) + 2)), .ref (q 12)]) (by rw [if_pos (show (¬ (0 : Int) = 0 ∨ numV pad sg (numP pad sg (pl + 1) + 1) < 0) from Or.inr hm)]) ?_
                      refine z_iast (f := zu (zu ord (3 * rd) (sgn pad sg pl)) ((3 * rd) + 1) (numV pad sg (pl + 1))) (v := 0) (ws' := mW Z q now kept hist und sav isv pad sg it far many laid sides stuck (zu (zu (zu ord (3 * rd) (sgn pad sg pl)) ((3 * rd) + 1) (numV pad sg (pl + 1))) ((3 * rd) + 2) 0) rd (numP pad sg (pl + 1) + 1) 1) ok 12 rfl dX7_readOne_145 (by omega) (by decide) rfl ?_
                      refine z_goto (tgt := 167) ok dX7_readOne_146 (by decide) ?_
                      refine z_aload_n ok dX7_readOne_167 rfl ?_
                      refine z_dup ok dX7_readOne_168 rfl ?_
                      refine z_get (v := .int (iI rd)) ok zc7 0 rfl 15 (by decide) qf_RX7_173 rfl rfl dX7_readOne_169 ?_
                      refine z_iconst ok dX7_readOne_172 ?_
                      refine z_iadd ok dX7_readOne_173 ?_
                      refine z_put (ws' := mW Z q now kept hist und sav isv pad sg it far many laid sides stuck (zu (zu (zu ord (3 * rd) (sgn pad sg pl)) ((3 * rd) + 1) (numV pad sg (pl + 1))) ((3 * rd) + 2) 0) (rd + 1) (numP pad sg (pl + 1) + 1) 1) ok zc7 0 rfl 15 (by decide) qf_RX7_173 rfl rfl rfl rfl (Nat.le_of_ble_eq_true rfl) dX7_readOne_174 rfl ?_
                      have hE : (numP pad sg (pl + 1) + 1) = ordE pad sg pl := by first | (unfold ordE; rw [zif_f hkn]; done) | (unfold ordE; rw [zif_t hk]; first | omega | ((repeat' split) <;> omega))
                      have hW : 1 = zb (¬ ordOK pad sg pl) := by first | exact (zb_t (fun z => hkn z.1)).symm | exact (zb_t (fun z => by obtain ⟨o1, o2, o3, o4⟩ := z; first | omega | (have := o3 (by omega); omega) | (have := o4 (by omega); omega))).symm | exact (zb_f (fun z => z ⟨hk, by omega, fun e => by first | (exfalso; omega) | exact ⟨by omega, by omega⟩, fun e => by first | (exfalso; omega) | omega⟩)).symm
                      have hO : ordOK pad sg pl → (rd + 1) = rd + 1 ∧ (zu (zu (zu ord (3 * rd) (sgn pad sg pl)) ((3 * rd) + 1) (numV pad sg (pl + 1))) ((3 * rd) + 2) 0) (3 * rd) = sgn pad sg pl ∧ (zu (zu (zu ord (3 * rd) (sgn pad sg pl)) ((3 * rd) + 1) (numV pad sg (pl + 1))) ((3 * rd) + 2) 0) (3 * rd + 1) = numV pad sg (pl + 1) ∧ (sgn pad sg pl ≠ 116 → (zu (zu (zu ord (3 * rd) (sgn pad sg pl)) ((3 * rd) + 1) (numV pad sg (pl + 1))) ((3 * rd) + 2) 0) (3 * rd + 2) = ordS pad sg pl) := by first | exact fun ho => absurd ho.1 hkn | (intro ho; obtain ⟨o1, o2, o3, o4⟩ := ho; first | (exfalso; omega) | (exfalso; have := o3 (by omega); omega) | (exfalso; have := o4 (by omega); omega) | exact ⟨rfl, by rw [zu_n (by omega), zu_n (by omega), zu_s], by rw [zu_n (by omega), zu_s], fun _ => by rw [zu_s]; unfold ordS; first | rw [if_pos (by omega)] | rw [if_neg (by omega)]⟩ | exact ⟨rfl, by rw [zu_n (by omega), zu_s], by rw [zu_s], fun z => absurd (by omega) z⟩)
                      have hX : ∀ x : Int, x < 3 * rd → (zu (zu (zu ord (3 * rd) (sgn pad sg pl)) ((3 * rd) + 1) (numV pad sg (pl + 1))) ((3 * rd) + 2) 0) x = ord x := by intro x hx; first | (rw [zu_n (by omega), zu_n (by omega), zu_n (by omega)]; done) | (rw [zu_n (by omega), zu_n (by omega)]; done) | (rw [zu_n (by omega)])
                      have hR : rd ≤ (rd + 1) ∧ (rd + 1) ≤ rd + 1 := by omega
                      exact fin (zu (zu (zu ord (3 * rd) (sgn pad sg pl)) ((3 * rd) + 1) (numV pad sg (pl + 1))) ((3 * rd) + 2) 0, numP pad sg (pl + 1) + 1, 1, rd + 1) 177 _ _ _ dX7_readOne_177 (⟨hE, hW, hO, hX, hR.1, hR.2⟩) (by decide) (by decide)
                    · -- split
                      refine z_eq (ws' := mW Z q now kept hist und sav isv pad sg it far many laid sides stuck (zu (zu ord (3 * rd) (sgn pad sg pl)) ((3 * rd) + 1) (numV pad sg (pl + 1))) rd (numP pad sg (numP pad sg (pl + 1) + 1)) 0) (by rw [if_neg (show ¬ (¬ (0 : Int) = 0 ∨ numV pad sg (numP pad sg (pl + 1) + 1) < 0) from fun z => z.elim (fun y => y rfl) hm), if_neg (show ¬ (¬ (0 : Int) = 0 ∨ numV pad sg (numP pad sg (pl + 1) + 1) < 0) from fun z => z.elim (fun y => y rfl) hm)]) ?_
                      refine z_st (st' := [.int (iI (numV pad sg (numP pad sg (pl + 1) + 1))), .int (iI ((3 * rd) + 2)), .ref (q 12)]) (by rw [if_neg (show ¬ (¬ (0 : Int) = 0 ∨ numV pad sg (numP pad sg (pl + 1) + 1) < 0) from fun z => z.elim (fun y => y rfl) hm)]) ?_
                      refine z_iast (f := zu (zu ord (3 * rd) (sgn pad sg pl)) ((3 * rd) + 1) (numV pad sg (pl + 1))) (v := numV pad sg (numP pad sg (pl + 1) + 1)) (ws' := mW Z q now kept hist und sav isv pad sg it far many laid sides stuck (zu (zu (zu ord (3 * rd) (sgn pad sg pl)) ((3 * rd) + 1) (numV pad sg (pl + 1))) ((3 * rd) + 2) (numV pad sg (numP pad sg (pl + 1) + 1))) rd (numP pad sg (numP pad sg (pl + 1) + 1)) 0) ok 12 rfl dX7_readOne_145 (by omega) (by decide) rfl ?_
                      refine z_goto (tgt := 167) ok dX7_readOne_146 (by decide) ?_
                      refine z_aload_n ok dX7_readOne_167 rfl ?_
                      refine z_dup ok dX7_readOne_168 rfl ?_
                      refine z_get (v := .int (iI rd)) ok zc7 0 rfl 15 (by decide) qf_RX7_173 rfl rfl dX7_readOne_169 ?_
                      refine z_iconst ok dX7_readOne_172 ?_
                      refine z_iadd ok dX7_readOne_173 ?_
                      refine z_put (ws' := mW Z q now kept hist und sav isv pad sg it far many laid sides stuck (zu (zu (zu ord (3 * rd) (sgn pad sg pl)) ((3 * rd) + 1) (numV pad sg (pl + 1))) ((3 * rd) + 2) (numV pad sg (numP pad sg (pl + 1) + 1))) (rd + 1) (numP pad sg (numP pad sg (pl + 1) + 1)) 0) ok zc7 0 rfl 15 (by decide) qf_RX7_173 rfl rfl rfl rfl (Nat.le_of_ble_eq_true rfl) dX7_readOne_174 rfl ?_
                      have hE : (numP pad sg (numP pad sg (pl + 1) + 1)) = ordE pad sg pl := by first | (unfold ordE; rw [zif_f hkn]; done) | (unfold ordE; rw [zif_t hk]; first | omega | ((repeat' split) <;> omega))
                      have hW : 0 = zb (¬ ordOK pad sg pl) := by first | exact (zb_t (fun z => hkn z.1)).symm | exact (zb_t (fun z => by obtain ⟨o1, o2, o3, o4⟩ := z; first | omega | (have := o3 (by omega); omega) | (have := o4 (by omega); omega))).symm | exact (zb_f (fun z => z ⟨hk, by omega, fun e => by first | (exfalso; omega) | exact ⟨by omega, by omega⟩, fun e => by first | (exfalso; omega) | omega⟩)).symm
                      have hO : ordOK pad sg pl → (rd + 1) = rd + 1 ∧ (zu (zu (zu ord (3 * rd) (sgn pad sg pl)) ((3 * rd) + 1) (numV pad sg (pl + 1))) ((3 * rd) + 2) (numV pad sg (numP pad sg (pl + 1) + 1))) (3 * rd) = sgn pad sg pl ∧ (zu (zu (zu ord (3 * rd) (sgn pad sg pl)) ((3 * rd) + 1) (numV pad sg (pl + 1))) ((3 * rd) + 2) (numV pad sg (numP pad sg (pl + 1) + 1))) (3 * rd + 1) = numV pad sg (pl + 1) ∧ (sgn pad sg pl ≠ 116 → (zu (zu (zu ord (3 * rd) (sgn pad sg pl)) ((3 * rd) + 1) (numV pad sg (pl + 1))) ((3 * rd) + 2) (numV pad sg (numP pad sg (pl + 1) + 1))) (3 * rd + 2) = ordS pad sg pl) := by first | exact fun ho => absurd ho.1 hkn | (intro ho; obtain ⟨o1, o2, o3, o4⟩ := ho; first | (exfalso; omega) | (exfalso; have := o3 (by omega); omega) | (exfalso; have := o4 (by omega); omega) | exact ⟨rfl, by rw [zu_n (by omega), zu_n (by omega), zu_s], by rw [zu_n (by omega), zu_s], fun _ => by rw [zu_s]; unfold ordS; first | rw [if_pos (by omega)] | rw [if_neg (by omega)]⟩ | exact ⟨rfl, by rw [zu_n (by omega), zu_s], by rw [zu_s], fun z => absurd (by omega) z⟩)
                      have hX : ∀ x : Int, x < 3 * rd → (zu (zu (zu ord (3 * rd) (sgn pad sg pl)) ((3 * rd) + 1) (numV pad sg (pl + 1))) ((3 * rd) + 2) (numV pad sg (numP pad sg (pl + 1) + 1))) x = ord x := by intro x hx; first | (rw [zu_n (by omega), zu_n (by omega), zu_n (by omega)]; done) | (rw [zu_n (by omega), zu_n (by omega)]; done) | (rw [zu_n (by omega)])
                      have hR : rd ≤ (rd + 1) ∧ (rd + 1) ≤ rd + 1 := by omega
                      exact fin (zu (zu (zu ord (3 * rd) (sgn pad sg pl)) ((3 * rd) + 1) (numV pad sg (pl + 1))) ((3 * rd) + 2) (numV pad sg (numP pad sg (pl + 1) + 1)), numP pad sg (numP pad sg (pl + 1) + 1), 0, rd + 1) 177 _ _ _ dX7_readOne_177 (⟨hE, hW, hO, hX, hR.1, hR.2⟩) (by decide) (by decide)
                  · -- f
                    exact absurd c122 (by decide)
                · -- f
                  refine z_iconst ok dX7_readOne_105 ?_
                  refine z_goto (tgt := 110) ok dX7_readOne_106 (by decide) ?_
                  refine z_put (ws' := mW Z q now kept hist und sav isv pad sg it far many laid sides stuck (zu (zu ord (3 * rd) (sgn pad sg pl)) ((3 * rd) + 1) (numV pad sg (pl + 1))) rd (numP pad sg (pl + 1)) 1) ok zc7 0 rfl 17 (by decide) qf_RX7_170 rfl rfl (znZ _ (by first | decide | exact zb_01 _ | omega)) (zfZ _ (by first | decide | exact zb_01 _ | omega)) (Nat.le_of_ble_eq_true rfl) dX7_readOne_110 rfl ?_
                  refine z_aload_n ok dX7_readOne_113 rfl ?_
                  refine z_dup ok dX7_readOne_114 rfl ?_
                  refine z_get (v := .int (iI (numP pad sg (pl + 1)))) ok zc7 0 rfl 16 (by decide) qf_RX7_164 rfl rfl dX7_readOne_115 ?_
                  refine z_aload_n ok dX7_readOne_118 rfl ?_
                  refine z_get (v := .int (iI 1)) ok zc7 0 rfl 17 (by decide) qf_RX7_170 rfl rfl dX7_readOne_119 ?_
                  refine z_if_eq (tgt := 129) ok dX7_readOne_122 (by decide) (by omega) (fun c122 => ?_) (fun c122 => ?_)
                  · -- t
                    exact absurd c122 (by decide)
                  · -- f
                    refine z_iconst ok dX7_readOne_125 ?_
                    refine z_goto (tgt := 130) ok dX7_readOne_126 (by decide) ?_
                    refine z_iadd ok dX7_readOne_130 ?_
                    refine z_put (ws' := mW Z q now kept hist und sav isv pad sg it far many laid sides stuck (zu (zu ord (3 * rd) (sgn pad sg pl)) ((3 * rd) + 1) (numV pad sg (pl + 1))) rd ((numP pad sg (pl + 1)) + 0) 1) ok zc7 0 rfl 16 (by decide) qf_RX7_164 rfl rfl rfl rfl (Nat.le_of_ble_eq_true rfl) dX7_readOne_131 rfl ?_
                    refine z_aload_n ok dX7_readOne_134 rfl ?_
                    refine z_get (v := .ref (q 12)) ok zc7 0 rfl 14 (by decide) qf_RX7_44 rfl rfl dX7_readOne_135 ?_
                    refine z_iload_n ok dX7_readOne_138 rfl ?_
                    refine z_iconst ok dX7_readOne_139 ?_
                    refine z_iadd ok dX7_readOne_140 ?_
                    refine z_aload_n ok dX7_readOne_141 rfl ?_
                    refine z_callVi0 ok (fun l => c_X7_number  (hpd) (by omega) (by omega)) zm_X7_number zv_X7_number qm_RX7_176 dX7_readOne_142 (by decide) (by decide) rfl rfl (Nat.le_of_ble_eq_true rfl) (q0 := 0) rfl rfl rfl (fun ρ _ hρ => ?_)
                    subst hρ
                    refine z_eq (ws' := mW Z q now kept hist und sav isv pad sg it far many laid sides stuck (zu (zu ord (3 * rd) (sgn pad sg pl)) ((3 * rd) + 1) (numV pad sg (pl + 1))) rd (if (¬ 1 = 0 ∨ numV pad sg ((numP pad sg (pl + 1)) + 0) < 0) then ((numP pad sg (pl + 1)) + 0) else numP pad sg ((numP pad sg (pl + 1)) + 0)) (if (¬ 1 = 0 ∨ numV pad sg ((numP pad sg (pl + 1)) + 0) < 0) then 1 else 0)) rfl ?_
                    refine z_eq (ws' := mW Z q now kept hist und sav isv pad sg it far many laid sides stuck (zu (zu ord (3 * rd) (sgn pad sg pl)) ((3 * rd) + 1) (numV pad sg (pl + 1))) rd ((numP pad sg (pl + 1)) + 0) 1) (by rw [if_pos (show (¬ (1 : Int) = 0 ∨ numV pad sg ((numP pad sg (pl + 1)) + 0) < 0) from Or.inl (by decide)), if_pos (show (¬ (1 : Int) = 0 ∨ numV pad sg ((numP pad sg (pl + 1)) + 0) < 0) from Or.inl (by decide))]) ?_
                    refine z_st (st' := [.int (iI 0), .int (iI ((3 * rd) + 2)), .ref (q 12)]) (by rw [if_pos (show (¬ (1 : Int) = 0 ∨ numV pad sg ((numP pad sg (pl + 1)) + 0) < 0) from Or.inl (by decide))]) ?_
                    refine z_iast (f := zu (zu ord (3 * rd) (sgn pad sg pl)) ((3 * rd) + 1) (numV pad sg (pl + 1))) (v := 0) (ws' := mW Z q now kept hist und sav isv pad sg it far many laid sides stuck (zu (zu (zu ord (3 * rd) (sgn pad sg pl)) ((3 * rd) + 1) (numV pad sg (pl + 1))) ((3 * rd) + 2) 0) rd ((numP pad sg (pl + 1)) + 0) 1) ok 12 rfl dX7_readOne_145 (by omega) (by decide) rfl ?_
                    refine z_goto (tgt := 167) ok dX7_readOne_146 (by decide) ?_
                    refine z_aload_n ok dX7_readOne_167 rfl ?_
                    refine z_dup ok dX7_readOne_168 rfl ?_
                    refine z_get (v := .int (iI rd)) ok zc7 0 rfl 15 (by decide) qf_RX7_173 rfl rfl dX7_readOne_169 ?_
                    refine z_iconst ok dX7_readOne_172 ?_
                    refine z_iadd ok dX7_readOne_173 ?_
                    refine z_put (ws' := mW Z q now kept hist und sav isv pad sg it far many laid sides stuck (zu (zu (zu ord (3 * rd) (sgn pad sg pl)) ((3 * rd) + 1) (numV pad sg (pl + 1))) ((3 * rd) + 2) 0) (rd + 1) ((numP pad sg (pl + 1)) + 0) 1) ok zc7 0 rfl 15 (by decide) qf_RX7_173 rfl rfl rfl rfl (Nat.le_of_ble_eq_true rfl) dX7_readOne_174 rfl ?_
                    have hE : ((numP pad sg (pl + 1)) + 0) = ordE pad sg pl := by first | (unfold ordE; rw [zif_f hkn]; done) | (unfold ordE; rw [zif_t hk]; first | omega | ((repeat' split) <;> omega))
                    have hW : 1 = zb (¬ ordOK pad sg pl) := by first | exact (zb_t (fun z => hkn z.1)).symm | exact (zb_t (fun z => by obtain ⟨o1, o2, o3, o4⟩ := z; first | omega | (have := o3 (by omega); omega) | (have := o4 (by omega); omega))).symm | exact (zb_f (fun z => z ⟨hk, by omega, fun e => by first | (exfalso; omega) | exact ⟨by omega, by omega⟩, fun e => by first | (exfalso; omega) | omega⟩)).symm
                    have hO : ordOK pad sg pl → (rd + 1) = rd + 1 ∧ (zu (zu (zu ord (3 * rd) (sgn pad sg pl)) ((3 * rd) + 1) (numV pad sg (pl + 1))) ((3 * rd) + 2) 0) (3 * rd) = sgn pad sg pl ∧ (zu (zu (zu ord (3 * rd) (sgn pad sg pl)) ((3 * rd) + 1) (numV pad sg (pl + 1))) ((3 * rd) + 2) 0) (3 * rd + 1) = numV pad sg (pl + 1) ∧ (sgn pad sg pl ≠ 116 → (zu (zu (zu ord (3 * rd) (sgn pad sg pl)) ((3 * rd) + 1) (numV pad sg (pl + 1))) ((3 * rd) + 2) 0) (3 * rd + 2) = ordS pad sg pl) := by first | exact fun ho => absurd ho.1 hkn | (intro ho; obtain ⟨o1, o2, o3, o4⟩ := ho; first | (exfalso; omega) | (exfalso; have := o3 (by omega); omega) | (exfalso; have := o4 (by omega); omega) | exact ⟨rfl, by rw [zu_n (by omega), zu_n (by omega), zu_s], by rw [zu_n (by omega), zu_s], fun _ => by rw [zu_s]; unfold ordS; first | rw [if_pos (by omega)] | rw [if_neg (by omega)]⟩ | exact ⟨rfl, by rw [zu_n (by omega), zu_s], by rw [zu_s], fun z => absurd (by omega) z⟩)
                    have hX : ∀ x : Int, x < 3 * rd → (zu (zu (zu ord (3 * rd) (sgn pad sg pl)) ((3 * rd) + 1) (numV pad sg (pl + 1))) ((3 * rd) + 2) 0) x = ord x := by intro x hx; first | (rw [zu_n (by omega), zu_n (by omega), zu_n (by omega)]; done) | (rw [zu_n (by omega), zu_n (by omega)]; done) | (rw [zu_n (by omega)])
                    have hR : rd ≤ (rd + 1) ∧ (rd + 1) ≤ rd + 1 := by omega
                    exact fin (zu (zu (zu ord (3 * rd) (sgn pad sg pl)) ((3 * rd) + 1) (numV pad sg (pl + 1))) ((3 * rd) + 2) 0, ((numP pad sg (pl + 1)) + 0), 1, rd + 1) 177 _ _ _ dX7_readOne_177 (⟨hE, hW, hO, hX, hR.1, hR.2⟩) (by decide) (by decide)
        · -- f
          exact absurd c56 (by decide)
      · -- f
        refine z_iload_n ok dX7_readOne_38 rfl ?_
        refine z_bipush ok dX7_readOne_39 (by decide) ?_
        refine z_icmp_eq (tgt := 48) ok dX7_readOne_41 (by decide) (by omega) (by omega) (fun c41 => ?_) (fun c41 => ?_)
        · -- t
          have hk : knd pad sg pl := by unfold knd; omega
          refine z_iconst ok dX7_readOne_48 ?_
          refine z_put (ws' := mW Z q now kept hist und sav isv pad sg it far many laid sides stuck (zu ord (3 * rd) (sgn pad sg pl)) rd pl 0) ok zc7 0 rfl 17 (by decide) qf_RX7_170 rfl rfl (znZ _ (by first | decide | exact zb_01 _ | omega)) (zfZ _ (by first | decide | exact zb_01 _ | omega)) (Nat.le_of_ble_eq_true rfl) dX7_readOne_49 rfl ?_
          refine z_aload_n ok dX7_readOne_52 rfl ?_
          refine z_get (v := .int (iI 0)) ok zc7 0 rfl 17 (by decide) qf_RX7_170 rfl rfl dX7_readOne_53 ?_
          refine z_if_eq (tgt := 60) ok dX7_readOne_56 (by decide) (by omega) (fun c56 => ?_) (fun c56 => ?_)
          · -- t
            refine z_aload_n ok dX7_readOne_60 rfl ?_
            refine z_dup ok dX7_readOne_61 rfl ?_
            refine z_get (v := .int (iI pl)) ok zc7 0 rfl 16 (by decide) qf_RX7_164 rfl rfl dX7_readOne_62 ?_
            refine z_iconst ok dX7_readOne_65 ?_
            refine z_iadd ok dX7_readOne_66 ?_
            refine z_put (ws' := mW Z q now kept hist und sav isv pad sg it far many laid sides stuck (zu ord (3 * rd) (sgn pad sg pl)) rd (pl + 1) 0) ok zc7 0 rfl 16 (by decide) qf_RX7_164 rfl rfl rfl rfl (Nat.le_of_ble_eq_true rfl) dX7_readOne_67 rfl ?_
            refine z_aload_n ok dX7_readOne_70 rfl ?_
            refine z_get (v := .ref (q 12)) ok zc7 0 rfl 14 (by decide) qf_RX7_44 rfl rfl dX7_readOne_71 ?_
            refine z_iload_n ok dX7_readOne_74 rfl ?_
            refine z_iconst ok dX7_readOne_75 ?_
            refine z_iadd ok dX7_readOne_76 ?_
            refine z_aload_n ok dX7_readOne_77 rfl ?_
            refine z_callVi0 ok (fun l => c_X7_number  (hpd) (by omega) (by omega)) zm_X7_number zv_X7_number qm_RX7_176 dX7_readOne_78 (by decide) (by decide) rfl rfl (Nat.le_of_ble_eq_true rfl) (q0 := 0) rfl rfl rfl (fun ρ _ hρ => ?_)
            subst hρ
            refine z_eq (ws' := mW Z q now kept hist und sav isv pad sg it far many laid sides stuck (zu ord (3 * rd) (sgn pad sg pl)) rd (if (¬ 0 = 0 ∨ numV pad sg (pl + 1) < 0) then (pl + 1) else numP pad sg (pl + 1)) (if (¬ 0 = 0 ∨ numV pad sg (pl + 1) < 0) then 1 else 0)) rfl ?_
            by_cases hn : numV pad sg (pl + 1) < 0
            · -- split
              refine z_eq (ws' := mW Z q now kept hist und sav isv pad sg it far many laid sides stuck (zu ord (3 * rd) (sgn pad sg pl)) rd (pl + 1) 1) (by rw [if_pos (show (¬ (0 : Int) = 0 ∨ numV pad sg (pl + 1) < 0) from Or.inr hn), if_pos (show (¬ (0 : Int) = 0 ∨ numV pad sg (pl + 1) < 0) from Or.inr hn)]) ?_
              refine z_st (st' := [.int (iI 0), .int (iI ((3 * rd) + 1)), .ref (q 12)]) (by rw [if_pos (show (¬ (0 : Int) = 0 ∨ numV pad sg (pl + 1) < 0) from Or.inr hn)]) ?_
              refine z_iast (f := zu ord (3 * rd) (sgn pad sg pl)) (v := 0) (ws' := mW Z q now kept hist und sav isv pad sg it far many laid sides stuck (zu (zu ord (3 * rd) (sgn pad sg pl)) ((3 * rd) + 1) 0) rd (pl + 1) 1) ok 12 rfl dX7_readOne_81 (by omega) (by decide) rfl ?_
              refine z_iload_n ok dX7_readOne_82 rfl ?_
              refine z_bipush ok dX7_readOne_83 (by decide) ?_
              refine z_icmp_ne (tgt := 149) ok dX7_readOne_85 (by decide) (by omega) (by omega) (fun c85 => ?_) (fun c85 => ?_)
              · -- t
                refine z_iload_n ok dX7_readOne_149 rfl ?_
                refine z_bipush ok dX7_readOne_150 (by decide) ?_
                refine z_icmp_eq (tgt := 167) ok dX7_readOne_152 (by decide) (by omega) (by omega) (fun c152 => ?_) (fun c152 => ?_)
                · -- t
                  refine z_aload_n ok dX7_readOne_167 rfl ?_
                  refine z_dup ok dX7_readOne_168 rfl ?_
                  refine z_get (v := .int (iI rd)) ok zc7 0 rfl 15 (by decide) qf_RX7_173 rfl rfl dX7_readOne_169 ?_
                  refine z_iconst ok dX7_readOne_172 ?_
                  refine z_iadd ok dX7_readOne_173 ?_
                  refine z_put (ws' := mW Z q now kept hist und sav isv pad sg it far many laid sides stuck (zu (zu ord (3 * rd) (sgn pad sg pl)) ((3 * rd) + 1) 0) (rd + 1) (pl + 1) 1) ok zc7 0 rfl 15 (by decide) qf_RX7_173 rfl rfl rfl rfl (Nat.le_of_ble_eq_true rfl) dX7_readOne_174 rfl ?_
                  have hE : (pl + 1) = ordE pad sg pl := by first | (unfold ordE; rw [zif_f hkn]; done) | (unfold ordE; rw [zif_t hk]; first | omega | ((repeat' split) <;> omega))
                  have hW : 1 = zb (¬ ordOK pad sg pl) := by first | exact (zb_t (fun z => hkn z.1)).symm | exact (zb_t (fun z => by obtain ⟨o1, o2, o3, o4⟩ := z; first | omega | (have := o3 (by omega); omega) | (have := o4 (by omega); omega))).symm | exact (zb_f (fun z => z ⟨hk, by omega, fun e => by first | (exfalso; omega) | exact ⟨by omega, by omega⟩, fun e => by first | (exfalso; omega) | omega⟩)).symm
                  have hO : ordOK pad sg pl → (rd + 1) = rd + 1 ∧ (zu (zu ord (3 * rd) (sgn pad sg pl)) ((3 * rd) + 1) 0) (3 * rd) = sgn pad sg pl ∧ (zu (zu ord (3 * rd) (sgn pad sg pl)) ((3 * rd) + 1) 0) (3 * rd + 1) = numV pad sg (pl + 1) ∧ (sgn pad sg pl ≠ 116 → (zu (zu ord (3 * rd) (sgn pad sg pl)) ((3 * rd) + 1) 0) (3 * rd + 2) = ordS pad sg pl) := by first | exact fun ho => absurd ho.1 hkn | (intro ho; obtain ⟨o1, o2, o3, o4⟩ := ho; first | (exfalso; omega) | (exfalso; have := o3 (by omega); omega) | (exfalso; have := o4 (by omega); omega) | exact ⟨rfl, by rw [zu_n (by omega), zu_n (by omega), zu_s], by rw [zu_n (by omega), zu_s], fun _ => by rw [zu_s]; unfold ordS; first | rw [if_pos (by omega)] | rw [if_neg (by omega)]⟩ | exact ⟨rfl, by rw [zu_n (by omega), zu_s], by rw [zu_s], fun z => absurd (by omega) z⟩)
                  have hX : ∀ x : Int, x < 3 * rd → (zu (zu ord (3 * rd) (sgn pad sg pl)) ((3 * rd) + 1) 0) x = ord x := by intro x hx; first | (rw [zu_n (by omega), zu_n (by omega), zu_n (by omega)]; done) | (rw [zu_n (by omega), zu_n (by omega)]; done) | (rw [zu_n (by omega)])
                  have hR : rd ≤ (rd + 1) ∧ (rd + 1) ≤ rd + 1 := by omega
                  exact fin (zu (zu ord (3 * rd) (sgn pad sg pl)) ((3 * rd) + 1) 0, pl + 1, 1, rd + 1) 177 _ _ _ dX7_readOne_177 (⟨hE, hW, hO, hX, hR.1, hR.2⟩) (by decide) (by decide)
                · -- f
                  refine z_aload_n ok dX7_readOne_155 rfl ?_
                  refine z_get (v := .ref (q 12)) ok zc7 0 rfl 14 (by decide) qf_RX7_44 rfl rfl dX7_readOne_156 ?_
                  refine z_iload_n ok dX7_readOne_159 rfl ?_
                  refine z_iconst ok dX7_readOne_160 ?_
                  refine z_iadd ok dX7_readOne_161 ?_
                  refine z_aload_n ok dX7_readOne_162 rfl ?_
                  refine z_callVi0 ok (fun l => c_X7_side  (hpd) (by omega) (by omega)) zm_X7_side zv_X7_side qm_RX7_179 dX7_readOne_163 (by decide) (by decide) rfl rfl (Nat.le_of_ble_eq_true rfl) (q0 := 0) rfl rfl rfl (fun ρ _ hρ => ?_)
                  subst hρ
                  refine z_eq (ws' := mW Z q now kept hist und sav isv pad sg it far many laid sides stuck (zu (zu ord (3 * rd) (sgn pad sg pl)) ((3 * rd) + 1) 0) rd (if (¬ 1 = 0 ∨ sdV pad sg (pl + 1) < 0) then (pl + 1) else (pl + 1) + 1) (if (¬ 1 = 0 ∨ sdV pad sg (pl + 1) < 0) then 1 else 0)) rfl ?_
                  refine z_eq (ws' := mW Z q now kept hist und sav isv pad sg it far many laid sides stuck (zu (zu ord (3 * rd) (sgn pad sg pl)) ((3 * rd) + 1) 0) rd (pl + 1) 1) (by rw [if_pos (show (¬ (1 : Int) = 0 ∨ sdV pad sg (pl + 1) < 0) from Or.inl (by decide)), if_pos (show (¬ (1 : Int) = 0 ∨ sdV pad sg (pl + 1) < 0) from Or.inl (by decide))]) ?_
                  refine z_iast (f := zu (zu ord (3 * rd) (sgn pad sg pl)) ((3 * rd) + 1) 0) (v := (if sdV pad sg (pl + 1) < 0 then -6 else sdV pad sg (pl + 1))) (ws' := mW Z q now kept hist und sav isv pad sg it far many laid sides stuck (zu (zu (zu ord (3 * rd) (sgn pad sg pl)) ((3 * rd) + 1) 0) ((3 * rd) + 2) (if sdV pad sg (pl + 1) < 0 then -6 else sdV pad sg (pl + 1))) rd (pl + 1) 1) ok 12 rfl dX7_readOne_166 (by omega) (by decide) rfl ?_
                  refine z_aload_n ok dX7_readOne_167 rfl ?_
                  refine z_dup ok dX7_readOne_168 rfl ?_
                  refine z_get (v := .int (iI rd)) ok zc7 0 rfl 15 (by decide) qf_RX7_173 rfl rfl dX7_readOne_169 ?_
                  refine z_iconst ok dX7_readOne_172 ?_
                  refine z_iadd ok dX7_readOne_173 ?_
                  refine z_put (ws' := mW Z q now kept hist und sav isv pad sg it far many laid sides stuck (zu (zu (zu ord (3 * rd) (sgn pad sg pl)) ((3 * rd) + 1) 0) ((3 * rd) + 2) (if sdV pad sg (pl + 1) < 0 then -6 else sdV pad sg (pl + 1))) (rd + 1) (pl + 1) 1) ok zc7 0 rfl 15 (by decide) qf_RX7_173 rfl rfl rfl rfl (Nat.le_of_ble_eq_true rfl) dX7_readOne_174 rfl ?_
                  have hE : (pl + 1) = ordE pad sg pl := by first | (unfold ordE; rw [zif_f hkn]; done) | (unfold ordE; rw [zif_t hk]; first | omega | ((repeat' split) <;> omega))
                  have hW : 1 = zb (¬ ordOK pad sg pl) := by first | exact (zb_t (fun z => hkn z.1)).symm | exact (zb_t (fun z => by obtain ⟨o1, o2, o3, o4⟩ := z; first | omega | (have := o3 (by omega); omega) | (have := o4 (by omega); omega))).symm | exact (zb_f (fun z => z ⟨hk, by omega, fun e => by first | (exfalso; omega) | exact ⟨by omega, by omega⟩, fun e => by first | (exfalso; omega) | omega⟩)).symm
                  have hO : ordOK pad sg pl → (rd + 1) = rd + 1 ∧ (zu (zu (zu ord (3 * rd) (sgn pad sg pl)) ((3 * rd) + 1) 0) ((3 * rd) + 2) (if sdV pad sg (pl + 1) < 0 then -6 else sdV pad sg (pl + 1))) (3 * rd) = sgn pad sg pl ∧ (zu (zu (zu ord (3 * rd) (sgn pad sg pl)) ((3 * rd) + 1) 0) ((3 * rd) + 2) (if sdV pad sg (pl + 1) < 0 then -6 else sdV pad sg (pl + 1))) (3 * rd + 1) = numV pad sg (pl + 1) ∧ (sgn pad sg pl ≠ 116 → (zu (zu (zu ord (3 * rd) (sgn pad sg pl)) ((3 * rd) + 1) 0) ((3 * rd) + 2) (if sdV pad sg (pl + 1) < 0 then -6 else sdV pad sg (pl + 1))) (3 * rd + 2) = ordS pad sg pl) := by first | exact fun ho => absurd ho.1 hkn | (intro ho; obtain ⟨o1, o2, o3, o4⟩ := ho; first | (exfalso; omega) | (exfalso; have := o3 (by omega); omega) | (exfalso; have := o4 (by omega); omega) | exact ⟨rfl, by rw [zu_n (by omega), zu_n (by omega), zu_s], by rw [zu_n (by omega), zu_s], fun _ => by rw [zu_s]; unfold ordS; first | rw [if_pos (by omega)] | rw [if_neg (by omega)]⟩ | exact ⟨rfl, by rw [zu_n (by omega), zu_s], by rw [zu_s], fun z => absurd (by omega) z⟩)
                  have hX : ∀ x : Int, x < 3 * rd → (zu (zu (zu ord (3 * rd) (sgn pad sg pl)) ((3 * rd) + 1) 0) ((3 * rd) + 2) (if sdV pad sg (pl + 1) < 0 then -6 else sdV pad sg (pl + 1))) x = ord x := by intro x hx; first | (rw [zu_n (by omega), zu_n (by omega), zu_n (by omega)]; done) | (rw [zu_n (by omega), zu_n (by omega)]; done) | (rw [zu_n (by omega)])
                  have hR : rd ≤ (rd + 1) ∧ (rd + 1) ≤ rd + 1 := by omega
                  exact fin (zu (zu (zu ord (3 * rd) (sgn pad sg pl)) ((3 * rd) + 1) 0) ((3 * rd) + 2) (if sdV pad sg (pl + 1) < 0 then -6 else sdV pad sg (pl + 1)), pl + 1, 1, rd + 1) 177 _ _ _ dX7_readOne_177 (⟨hE, hW, hO, hX, hR.1, hR.2⟩) (by decide) (by decide)
              · -- f
                refine z_aload_n ok dX7_readOne_88 rfl ?_
                refine z_aload_n ok dX7_readOne_89 rfl ?_
                refine z_get (v := .int (iI 1)) ok zc7 0 rfl 17 (by decide) qf_RX7_170 rfl rfl dX7_readOne_90 ?_
                refine z_if_ne (tgt := 105) ok dX7_readOne_93 (by decide) (by omega) (fun c93 => ?_) (fun c93 => ?_)
                · -- t
                  refine z_iconst ok dX7_readOne_105 ?_
                  refine z_goto (tgt := 110) ok dX7_readOne_106 (by decide) ?_
                  refine z_put (ws' := mW Z q now kept hist und sav isv pad sg it far many laid sides stuck (zu (zu ord (3 * rd) (sgn pad sg pl)) ((3 * rd) + 1) 0) rd (pl + 1) 1) ok zc7 0 rfl 17 (by decide) qf_RX7_170 rfl rfl (znZ _ (by first | decide | exact zb_01 _ | omega)) (zfZ _ (by first | decide | exact zb_01 _ | omega)) (Nat.le_of_ble_eq_true rfl) dX7_readOne_110 rfl ?_
                  refine z_aload_n ok dX7_readOne_113 rfl ?_
                  refine z_dup ok dX7_readOne_114 rfl ?_
                  refine z_get (v := .int (iI (pl + 1))) ok zc7 0 rfl 16 (by decide) qf_RX7_164 rfl rfl dX7_readOne_115 ?_
                  refine z_aload_n ok dX7_readOne_118 rfl ?_
                  refine z_get (v := .int (iI 1)) ok zc7 0 rfl 17 (by decide) qf_RX7_170 rfl rfl dX7_readOne_119 ?_
                  refine z_if_eq (tgt := 129) ok dX7_readOne_122 (by decide) (by omega) (fun c122 => ?_) (fun c122 => ?_)
                  · -- t
                    exact absurd c122 (by decide)
                  · -- f
                    refine z_iconst ok dX7_readOne_125 ?_
                    refine z_goto (tgt := 130) ok dX7_readOne_126 (by decide) ?_
                    refine z_iadd ok dX7_readOne_130 ?_
                    refine z_put (ws' := mW Z q now kept hist und sav isv pad sg it far many laid sides stuck (zu (zu ord (3 * rd) (sgn pad sg pl)) ((3 * rd) + 1) 0) rd ((pl + 1) + 0) 1) ok zc7 0 rfl 16 (by decide) qf_RX7_164 rfl rfl rfl rfl (Nat.le_of_ble_eq_true rfl) dX7_readOne_131 rfl ?_
                    refine z_aload_n ok dX7_readOne_134 rfl ?_
                    refine z_get (v := .ref (q 12)) ok zc7 0 rfl 14 (by decide) qf_RX7_44 rfl rfl dX7_readOne_135 ?_
                    refine z_iload_n ok dX7_readOne_138 rfl ?_
                    refine z_iconst ok dX7_readOne_139 ?_
                    refine z_iadd ok dX7_readOne_140 ?_
                    refine z_aload_n ok dX7_readOne_141 rfl ?_
                    refine z_callVi0 ok (fun l => c_X7_number  (hpd) (by omega) (by omega)) zm_X7_number zv_X7_number qm_RX7_176 dX7_readOne_142 (by decide) (by decide) rfl rfl (Nat.le_of_ble_eq_true rfl) (q0 := 0) rfl rfl rfl (fun ρ _ hρ => ?_)
                    subst hρ
                    refine z_eq (ws' := mW Z q now kept hist und sav isv pad sg it far many laid sides stuck (zu (zu ord (3 * rd) (sgn pad sg pl)) ((3 * rd) + 1) 0) rd (if (¬ 1 = 0 ∨ numV pad sg ((pl + 1) + 0) < 0) then ((pl + 1) + 0) else numP pad sg ((pl + 1) + 0)) (if (¬ 1 = 0 ∨ numV pad sg ((pl + 1) + 0) < 0) then 1 else 0)) rfl ?_
                    refine z_eq (ws' := mW Z q now kept hist und sav isv pad sg it far many laid sides stuck (zu (zu ord (3 * rd) (sgn pad sg pl)) ((3 * rd) + 1) 0) rd ((pl + 1) + 0) 1) (by rw [if_pos (show (¬ (1 : Int) = 0 ∨ numV pad sg ((pl + 1) + 0) < 0) from Or.inl (by decide)), if_pos (show (¬ (1 : Int) = 0 ∨ numV pad sg ((pl + 1) + 0) < 0) from Or.inl (by decide))]) ?_
                    refine z_st (st' := [.int (iI 0), .int (iI ((3 * rd) + 2)), .ref (q 12)]) (by rw [if_pos (show (¬ (1 : Int) = 0 ∨ numV pad sg ((pl + 1) + 0) < 0) from Or.inl (by decide))]) ?_
                    refine z_iast (f := zu (zu ord (3 * rd) (sgn pad sg pl)) ((3 * rd) + 1) 0) (v := 0) (ws' := mW Z q now kept hist und sav isv pad sg it far many laid sides stuck (zu (zu (zu ord (3 * rd) (sgn pad sg pl)) ((3 * rd) + 1) 0) ((3 * rd) + 2) 0) rd ((pl + 1) + 0) 1) ok 12 rfl dX7_readOne_145 (by omega) (by decide) rfl ?_
                    refine z_goto (tgt := 167) ok dX7_readOne_146 (by decide) ?_
                    refine z_aload_n ok dX7_readOne_167 rfl ?_
                    refine z_dup ok dX7_readOne_168 rfl ?_
                    refine z_get (v := .int (iI rd)) ok zc7 0 rfl 15 (by decide) qf_RX7_173 rfl rfl dX7_readOne_169 ?_
                    refine z_iconst ok dX7_readOne_172 ?_
                    refine z_iadd ok dX7_readOne_173 ?_
                    refine z_put (ws' := mW Z q now kept hist und sav isv pad sg it far many laid sides stuck (zu (zu (zu ord (3 * rd) (sgn pad sg pl)) ((3 * rd) + 1) 0) ((3 * rd) + 2) 0) (rd + 1) ((pl + 1) + 0) 1) ok zc7 0 rfl 15 (by decide) qf_RX7_173 rfl rfl rfl rfl (Nat.le_of_ble_eq_true rfl) dX7_readOne_174 rfl ?_
                    have hE : ((pl + 1) + 0) = ordE pad sg pl := by first | (unfold ordE; rw [zif_f hkn]; done) | (unfold ordE; rw [zif_t hk]; first | omega | ((repeat' split) <;> omega))
                    have hW : 1 = zb (¬ ordOK pad sg pl) := by first | exact (zb_t (fun z => hkn z.1)).symm | exact (zb_t (fun z => by obtain ⟨o1, o2, o3, o4⟩ := z; first | omega | (have := o3 (by omega); omega) | (have := o4 (by omega); omega))).symm | exact (zb_f (fun z => z ⟨hk, by omega, fun e => by first | (exfalso; omega) | exact ⟨by omega, by omega⟩, fun e => by first | (exfalso; omega) | omega⟩)).symm
                    have hO : ordOK pad sg pl → (rd + 1) = rd + 1 ∧ (zu (zu (zu ord (3 * rd) (sgn pad sg pl)) ((3 * rd) + 1) 0) ((3 * rd) + 2) 0) (3 * rd) = sgn pad sg pl ∧ (zu (zu (zu ord (3 * rd) (sgn pad sg pl)) ((3 * rd) + 1) 0) ((3 * rd) + 2) 0) (3 * rd + 1) = numV pad sg (pl + 1) ∧ (sgn pad sg pl ≠ 116 → (zu (zu (zu ord (3 * rd) (sgn pad sg pl)) ((3 * rd) + 1) 0) ((3 * rd) + 2) 0) (3 * rd + 2) = ordS pad sg pl) := by first | exact fun ho => absurd ho.1 hkn | (intro ho; obtain ⟨o1, o2, o3, o4⟩ := ho; first | (exfalso; omega) | (exfalso; have := o3 (by omega); omega) | (exfalso; have := o4 (by omega); omega) | exact ⟨rfl, by rw [zu_n (by omega), zu_n (by omega), zu_s], by rw [zu_n (by omega), zu_s], fun _ => by rw [zu_s]; unfold ordS; first | rw [if_pos (by omega)] | rw [if_neg (by omega)]⟩ | exact ⟨rfl, by rw [zu_n (by omega), zu_s], by rw [zu_s], fun z => absurd (by omega) z⟩)
                    have hX : ∀ x : Int, x < 3 * rd → (zu (zu (zu ord (3 * rd) (sgn pad sg pl)) ((3 * rd) + 1) 0) ((3 * rd) + 2) 0) x = ord x := by intro x hx; first | (rw [zu_n (by omega), zu_n (by omega), zu_n (by omega)]; done) | (rw [zu_n (by omega), zu_n (by omega)]; done) | (rw [zu_n (by omega)])
                    have hR : rd ≤ (rd + 1) ∧ (rd + 1) ≤ rd + 1 := by omega
                    exact fin (zu (zu (zu ord (3 * rd) (sgn pad sg pl)) ((3 * rd) + 1) 0) ((3 * rd) + 2) 0, ((pl + 1) + 0), 1, rd + 1) 177 _ _ _ dX7_readOne_177 (⟨hE, hW, hO, hX, hR.1, hR.2⟩) (by decide) (by decide)
                · -- f
                  exact absurd c93 (by decide)
            · -- split
              refine z_eq (ws' := mW Z q now kept hist und sav isv pad sg it far many laid sides stuck (zu ord (3 * rd) (sgn pad sg pl)) rd (numP pad sg (pl + 1)) 0) (by rw [if_neg (show ¬ (¬ (0 : Int) = 0 ∨ numV pad sg (pl + 1) < 0) from fun z => z.elim (fun y => y rfl) hn), if_neg (show ¬ (¬ (0 : Int) = 0 ∨ numV pad sg (pl + 1) < 0) from fun z => z.elim (fun y => y rfl) hn)]) ?_
              refine z_st (st' := [.int (iI (numV pad sg (pl + 1))), .int (iI ((3 * rd) + 1)), .ref (q 12)]) (by rw [if_neg (show ¬ (¬ (0 : Int) = 0 ∨ numV pad sg (pl + 1) < 0) from fun z => z.elim (fun y => y rfl) hn)]) ?_
              refine z_iast (f := zu ord (3 * rd) (sgn pad sg pl)) (v := numV pad sg (pl + 1)) (ws' := mW Z q now kept hist und sav isv pad sg it far many laid sides stuck (zu (zu ord (3 * rd) (sgn pad sg pl)) ((3 * rd) + 1) (numV pad sg (pl + 1))) rd (numP pad sg (pl + 1)) 0) ok 12 rfl dX7_readOne_81 (by omega) (by decide) rfl ?_
              refine z_iload_n ok dX7_readOne_82 rfl ?_
              refine z_bipush ok dX7_readOne_83 (by decide) ?_
              refine z_icmp_ne (tgt := 149) ok dX7_readOne_85 (by decide) (by omega) (by omega) (fun c85 => ?_) (fun c85 => ?_)
              · -- t
                refine z_iload_n ok dX7_readOne_149 rfl ?_
                refine z_bipush ok dX7_readOne_150 (by decide) ?_
                refine z_icmp_eq (tgt := 167) ok dX7_readOne_152 (by decide) (by omega) (by omega) (fun c152 => ?_) (fun c152 => ?_)
                · -- t
                  refine z_aload_n ok dX7_readOne_167 rfl ?_
                  refine z_dup ok dX7_readOne_168 rfl ?_
                  refine z_get (v := .int (iI rd)) ok zc7 0 rfl 15 (by decide) qf_RX7_173 rfl rfl dX7_readOne_169 ?_
                  refine z_iconst ok dX7_readOne_172 ?_
                  refine z_iadd ok dX7_readOne_173 ?_
                  refine z_put (ws' := mW Z q now kept hist und sav isv pad sg it far many laid sides stuck (zu (zu ord (3 * rd) (sgn pad sg pl)) ((3 * rd) + 1) (numV pad sg (pl + 1))) (rd + 1) (numP pad sg (pl + 1)) 0) ok zc7 0 rfl 15 (by decide) qf_RX7_173 rfl rfl rfl rfl (Nat.le_of_ble_eq_true rfl) dX7_readOne_174 rfl ?_
                  have hE : (numP pad sg (pl + 1)) = ordE pad sg pl := by first | (unfold ordE; rw [zif_f hkn]; done) | (unfold ordE; rw [zif_t hk]; first | omega | ((repeat' split) <;> omega))
                  have hW : 0 = zb (¬ ordOK pad sg pl) := by first | exact (zb_t (fun z => hkn z.1)).symm | exact (zb_t (fun z => by obtain ⟨o1, o2, o3, o4⟩ := z; first | omega | (have := o3 (by omega); omega) | (have := o4 (by omega); omega))).symm | exact (zb_f (fun z => z ⟨hk, by omega, fun e => by first | (exfalso; omega) | exact ⟨by omega, by omega⟩, fun e => by first | (exfalso; omega) | omega⟩)).symm
                  have hO : ordOK pad sg pl → (rd + 1) = rd + 1 ∧ (zu (zu ord (3 * rd) (sgn pad sg pl)) ((3 * rd) + 1) (numV pad sg (pl + 1))) (3 * rd) = sgn pad sg pl ∧ (zu (zu ord (3 * rd) (sgn pad sg pl)) ((3 * rd) + 1) (numV pad sg (pl + 1))) (3 * rd + 1) = numV pad sg (pl + 1) ∧ (sgn pad sg pl ≠ 116 → (zu (zu ord (3 * rd) (sgn pad sg pl)) ((3 * rd) + 1) (numV pad sg (pl + 1))) (3 * rd + 2) = ordS pad sg pl) := by first | exact fun ho => absurd ho.1 hkn | (intro ho; obtain ⟨o1, o2, o3, o4⟩ := ho; first | (exfalso; omega) | (exfalso; have := o3 (by omega); omega) | (exfalso; have := o4 (by omega); omega) | exact ⟨rfl, by rw [zu_n (by omega), zu_n (by omega), zu_s], by rw [zu_n (by omega), zu_s], fun _ => by rw [zu_s]; unfold ordS; first | rw [if_pos (by omega)] | rw [if_neg (by omega)]⟩ | exact ⟨rfl, by rw [zu_n (by omega), zu_s], by rw [zu_s], fun z => absurd (by omega) z⟩)
                  have hX : ∀ x : Int, x < 3 * rd → (zu (zu ord (3 * rd) (sgn pad sg pl)) ((3 * rd) + 1) (numV pad sg (pl + 1))) x = ord x := by intro x hx; first | (rw [zu_n (by omega), zu_n (by omega), zu_n (by omega)]; done) | (rw [zu_n (by omega), zu_n (by omega)]; done) | (rw [zu_n (by omega)])
                  have hR : rd ≤ (rd + 1) ∧ (rd + 1) ≤ rd + 1 := by omega
                  exact fin (zu (zu ord (3 * rd) (sgn pad sg pl)) ((3 * rd) + 1) (numV pad sg (pl + 1)), numP pad sg (pl + 1), 0, rd + 1) 177 _ _ _ dX7_readOne_177 (⟨hE, hW, hO, hX, hR.1, hR.2⟩) (by decide) (by decide)
                · -- f
                  refine z_aload_n ok dX7_readOne_155 rfl ?_
                  refine z_get (v := .ref (q 12)) ok zc7 0 rfl 14 (by decide) qf_RX7_44 rfl rfl dX7_readOne_156 ?_
                  refine z_iload_n ok dX7_readOne_159 rfl ?_
                  refine z_iconst ok dX7_readOne_160 ?_
                  refine z_iadd ok dX7_readOne_161 ?_
                  refine z_aload_n ok dX7_readOne_162 rfl ?_
                  refine z_callVi0 ok (fun l => c_X7_side  (hpd) (by omega) (by omega)) zm_X7_side zv_X7_side qm_RX7_179 dX7_readOne_163 (by decide) (by decide) rfl rfl (Nat.le_of_ble_eq_true rfl) (q0 := 0) rfl rfl rfl (fun ρ _ hρ => ?_)
                  subst hρ
                  refine z_eq (ws' := mW Z q now kept hist und sav isv pad sg it far many laid sides stuck (zu (zu ord (3 * rd) (sgn pad sg pl)) ((3 * rd) + 1) (numV pad sg (pl + 1))) rd (if (¬ 0 = 0 ∨ sdV pad sg (numP pad sg (pl + 1)) < 0) then (numP pad sg (pl + 1)) else (numP pad sg (pl + 1)) + 1) (if (¬ 0 = 0 ∨ sdV pad sg (numP pad sg (pl + 1)) < 0) then 1 else 0)) rfl ?_
                  by_cases hq : sdV pad sg (numP pad sg (pl + 1)) < 0
                  · -- split
                    refine z_eq (ws' := mW Z q now kept hist und sav isv pad sg it far many laid sides stuck (zu (zu ord (3 * rd) (sgn pad sg pl)) ((3 * rd) + 1) (numV pad sg (pl + 1))) rd (numP pad sg (pl + 1)) 1) (by rw [if_pos (show (¬ (0 : Int) = 0 ∨ sdV pad sg (numP pad sg (pl + 1)) < 0) from Or.inr hq), if_pos (show (¬ (0 : Int) = 0 ∨ sdV pad sg (numP pad sg (pl + 1)) < 0) from Or.inr hq)]) ?_
                    refine z_iast (f := zu (zu ord (3 * rd) (sgn pad sg pl)) ((3 * rd) + 1) (numV pad sg (pl + 1))) (v := (if sdV pad sg (numP pad sg (pl + 1)) < 0 then -6 else sdV pad sg (numP pad sg (pl + 1)))) (ws' := mW Z q now kept hist und sav isv pad sg it far many laid sides stuck (zu (zu (zu ord (3 * rd) (sgn pad sg pl)) ((3 * rd) + 1) (numV pad sg (pl + 1))) ((3 * rd) + 2) (if sdV pad sg (numP pad sg (pl + 1)) < 0 then -6 else sdV pad sg (numP pad sg (pl + 1)))) rd (numP pad sg (pl + 1)) 1) ok 12 rfl dX7_readOne_166 (by omega) (by decide) rfl ?_
                    refine z_aload_n ok dX7_readOne_167 rfl ?_
                    refine z_dup ok dX7_readOne_168 rfl ?_
                    refine z_get (v := .int (iI rd)) ok zc7 0 rfl 15 (by decide) qf_RX7_173 rfl rfl dX7_readOne_169 ?_
                    refine z_iconst ok dX7_readOne_172 ?_
                    refine z_iadd ok dX7_readOne_173 ?_
                    refine z_put (ws' := mW Z q now kept hist und sav isv pad sg it far many laid sides stuck (zu (zu (zu ord (3 * rd) (sgn pad sg pl)) ((3 * rd) + 1) (numV pad sg (pl + 1))) ((3 * rd) + 2) (if sdV pad sg (numP pad sg (pl + 1)) < 0 then -6 else sdV pad sg (numP pad sg (pl + 1)))) (rd + 1) (numP pad sg (pl + 1)) 1) ok zc7 0 rfl 15 (by decide) qf_RX7_173 rfl rfl rfl rfl (Nat.le_of_ble_eq_true rfl) dX7_readOne_174 rfl ?_
                    have hE : (numP pad sg (pl + 1)) = ordE pad sg pl := by first | (unfold ordE; rw [zif_f hkn]; done) | (unfold ordE; rw [zif_t hk]; first | omega | ((repeat' split) <;> omega))
                    have hW : 1 = zb (¬ ordOK pad sg pl) := by first | exact (zb_t (fun z => hkn z.1)).symm | exact (zb_t (fun z => by obtain ⟨o1, o2, o3, o4⟩ := z; first | omega | (have := o3 (by omega); omega) | (have := o4 (by omega); omega))).symm | exact (zb_f (fun z => z ⟨hk, by omega, fun e => by first | (exfalso; omega) | exact ⟨by omega, by omega⟩, fun e => by first | (exfalso; omega) | omega⟩)).symm
                    have hO : ordOK pad sg pl → (rd + 1) = rd + 1 ∧ (zu (zu (zu ord (3 * rd) (sgn pad sg pl)) ((3 * rd) + 1) (numV pad sg (pl + 1))) ((3 * rd) + 2) (if sdV pad sg (numP pad sg (pl + 1)) < 0 then -6 else sdV pad sg (numP pad sg (pl + 1)))) (3 * rd) = sgn pad sg pl ∧ (zu (zu (zu ord (3 * rd) (sgn pad sg pl)) ((3 * rd) + 1) (numV pad sg (pl + 1))) ((3 * rd) + 2) (if sdV pad sg (numP pad sg (pl + 1)) < 0 then -6 else sdV pad sg (numP pad sg (pl + 1)))) (3 * rd + 1) = numV pad sg (pl + 1) ∧ (sgn pad sg pl ≠ 116 → (zu (zu (zu ord (3 * rd) (sgn pad sg pl)) ((3 * rd) + 1) (numV pad sg (pl + 1))) ((3 * rd) + 2) (if sdV pad sg (numP pad sg (pl + 1)) < 0 then -6 else sdV pad sg (numP pad sg (pl + 1)))) (3 * rd + 2) = ordS pad sg pl) := by first | exact fun ho => absurd ho.1 hkn | (intro ho; obtain ⟨o1, o2, o3, o4⟩ := ho; first | (exfalso; omega) | (exfalso; have := o3 (by omega); omega) | (exfalso; have := o4 (by omega); omega) | exact ⟨rfl, by rw [zu_n (by omega), zu_n (by omega), zu_s], by rw [zu_n (by omega), zu_s], fun _ => by rw [zu_s]; unfold ordS; first | rw [if_pos (by omega)] | rw [if_neg (by omega)]⟩ | exact ⟨rfl, by rw [zu_n (by omega), zu_s], by rw [zu_s], fun z => absurd (by omega) z⟩)
                    have hX : ∀ x : Int, x < 3 * rd → (zu (zu (zu ord (3 * rd) (sgn pad sg pl)) ((3 * rd) + 1) (numV pad sg (pl + 1))) ((3 * rd) + 2) (if sdV pad sg (numP pad sg (pl + 1)) < 0 then -6 else sdV pad sg (numP pad sg (pl + 1)))) x = ord x := by intro x hx; first | (rw [zu_n (by omega), zu_n (by omega), zu_n (by omega)]; done) | (rw [zu_n (by omega), zu_n (by omega)]; done) | (rw [zu_n (by omega)])
                    have hR : rd ≤ (rd + 1) ∧ (rd + 1) ≤ rd + 1 := by omega
                    exact fin (zu (zu (zu ord (3 * rd) (sgn pad sg pl)) ((3 * rd) + 1) (numV pad sg (pl + 1))) ((3 * rd) + 2) (if sdV pad sg (numP pad sg (pl + 1)) < 0 then -6 else sdV pad sg (numP pad sg (pl + 1))), numP pad sg (pl + 1), 1, rd + 1) 177 _ _ _ dX7_readOne_177 (⟨hE, hW, hO, hX, hR.1, hR.2⟩) (by decide) (by decide)
                  · -- split
                    refine z_eq (ws' := mW Z q now kept hist und sav isv pad sg it far many laid sides stuck (zu (zu ord (3 * rd) (sgn pad sg pl)) ((3 * rd) + 1) (numV pad sg (pl + 1))) rd (numP pad sg (pl + 1) + 1) 0) (by rw [if_neg (show ¬ (¬ (0 : Int) = 0 ∨ sdV pad sg (numP pad sg (pl + 1)) < 0) from fun z => z.elim (fun y => y rfl) hq), if_neg (show ¬ (¬ (0 : Int) = 0 ∨ sdV pad sg (numP pad sg (pl + 1)) < 0) from fun z => z.elim (fun y => y rfl) hq)]) ?_
                    refine z_st (st' := [.int (iI (sdV pad sg (numP pad sg (pl + 1)))), .int (iI ((3 * rd) + 2)), .ref (q 12)]) (by rw [if_neg hq]) ?_
                    refine z_iast (f := zu (zu ord (3 * rd) (sgn pad sg pl)) ((3 * rd) + 1) (numV pad sg (pl + 1))) (v := sdV pad sg (numP pad sg (pl + 1))) (ws' := mW Z q now kept hist und sav isv pad sg it far many laid sides stuck (zu (zu (zu ord (3 * rd) (sgn pad sg pl)) ((3 * rd) + 1) (numV pad sg (pl + 1))) ((3 * rd) + 2) (sdV pad sg (numP pad sg (pl + 1)))) rd (numP pad sg (pl + 1) + 1) 0) ok 12 rfl dX7_readOne_166 (by omega) (by decide) rfl ?_
                    refine z_aload_n ok dX7_readOne_167 rfl ?_
                    refine z_dup ok dX7_readOne_168 rfl ?_
                    refine z_get (v := .int (iI rd)) ok zc7 0 rfl 15 (by decide) qf_RX7_173 rfl rfl dX7_readOne_169 ?_
                    refine z_iconst ok dX7_readOne_172 ?_
                    refine z_iadd ok dX7_readOne_173 ?_
                    refine z_put (ws' := mW Z q now kept hist und sav isv pad sg it far many laid sides stuck (zu (zu (zu ord (3 * rd) (sgn pad sg pl)) ((3 * rd) + 1) (numV pad sg (pl + 1))) ((3 * rd) + 2) (sdV pad sg (numP pad sg (pl + 1)))) (rd + 1) (numP pad sg (pl + 1) + 1) 0) ok zc7 0 rfl 15 (by decide) qf_RX7_173 rfl rfl rfl rfl (Nat.le_of_ble_eq_true rfl) dX7_readOne_174 rfl ?_
                    have hE : (numP pad sg (pl + 1) + 1) = ordE pad sg pl := by first | (unfold ordE; rw [zif_f hkn]; done) | (unfold ordE; rw [zif_t hk]; first | omega | ((repeat' split) <;> omega))
                    have hW : 0 = zb (¬ ordOK pad sg pl) := by first | exact (zb_t (fun z => hkn z.1)).symm | exact (zb_t (fun z => by obtain ⟨o1, o2, o3, o4⟩ := z; first | omega | (have := o3 (by omega); omega) | (have := o4 (by omega); omega))).symm | exact (zb_f (fun z => z ⟨hk, by omega, fun e => by first | (exfalso; omega) | exact ⟨by omega, by omega⟩, fun e => by first | (exfalso; omega) | omega⟩)).symm
                    have hO : ordOK pad sg pl → (rd + 1) = rd + 1 ∧ (zu (zu (zu ord (3 * rd) (sgn pad sg pl)) ((3 * rd) + 1) (numV pad sg (pl + 1))) ((3 * rd) + 2) (sdV pad sg (numP pad sg (pl + 1)))) (3 * rd) = sgn pad sg pl ∧ (zu (zu (zu ord (3 * rd) (sgn pad sg pl)) ((3 * rd) + 1) (numV pad sg (pl + 1))) ((3 * rd) + 2) (sdV pad sg (numP pad sg (pl + 1)))) (3 * rd + 1) = numV pad sg (pl + 1) ∧ (sgn pad sg pl ≠ 116 → (zu (zu (zu ord (3 * rd) (sgn pad sg pl)) ((3 * rd) + 1) (numV pad sg (pl + 1))) ((3 * rd) + 2) (sdV pad sg (numP pad sg (pl + 1)))) (3 * rd + 2) = ordS pad sg pl) := by first | exact fun ho => absurd ho.1 hkn | (intro ho; obtain ⟨o1, o2, o3, o4⟩ := ho; first | (exfalso; omega) | (exfalso; have := o3 (by omega); omega) | (exfalso; have := o4 (by omega); omega) | exact ⟨rfl, by rw [zu_n (by omega), zu_n (by omega), zu_s], by rw [zu_n (by omega), zu_s], fun _ => by rw [zu_s]; unfold ordS; first | rw [if_pos (by omega)] | rw [if_neg (by omega)]⟩ | exact ⟨rfl, by rw [zu_n (by omega), zu_s], by rw [zu_s], fun z => absurd (by omega) z⟩)
                    have hX : ∀ x : Int, x < 3 * rd → (zu (zu (zu ord (3 * rd) (sgn pad sg pl)) ((3 * rd) + 1) (numV pad sg (pl + 1))) ((3 * rd) + 2) (sdV pad sg (numP pad sg (pl + 1)))) x = ord x := by intro x hx; first | (rw [zu_n (by omega), zu_n (by omega), zu_n (by omega)]; done) | (rw [zu_n (by omega), zu_n (by omega)]; done) | (rw [zu_n (by omega)])
                    have hR : rd ≤ (rd + 1) ∧ (rd + 1) ≤ rd + 1 := by omega
                    exact fin (zu (zu (zu ord (3 * rd) (sgn pad sg pl)) ((3 * rd) + 1) (numV pad sg (pl + 1))) ((3 * rd) + 2) (sdV pad sg (numP pad sg (pl + 1))), numP pad sg (pl + 1) + 1, 0, rd + 1) 177 _ _ _ dX7_readOne_177 (⟨hE, hW, hO, hX, hR.1, hR.2⟩) (by decide) (by decide)
              · -- f
                refine z_aload_n ok dX7_readOne_88 rfl ?_
                refine z_aload_n ok dX7_readOne_89 rfl ?_
                refine z_get (v := .int (iI 0)) ok zc7 0 rfl 17 (by decide) qf_RX7_170 rfl rfl dX7_readOne_90 ?_
                refine z_if_ne (tgt := 105) ok dX7_readOne_93 (by decide) (by omega) (fun c93 => ?_) (fun c93 => ?_)
                · -- t
                  exact absurd c93 (by decide)
                · -- f
                  refine z_aload_n ok dX7_readOne_96 rfl ?_
                  refine z_callVi0 ok (fun l => c_X7_sign  (by omega) (by omega)) zm_X7_sign zv_X7_sign qm_RX7_167 dX7_readOne_97 (by decide) (by decide) rfl rfl (Nat.le_of_ble_eq_true rfl) (q0 := 0) rfl rfl rfl (fun ρ _ hρ => ?_)
                  subst hρ
                  refine z_eq (ws' := mW Z q now kept hist und sav isv pad sg it far many laid sides stuck (zu (zu ord (3 * rd) (sgn pad sg pl)) ((3 * rd) + 1) (numV pad sg (pl + 1))) rd (numP pad sg (pl + 1)) 0) rfl ?_
                  refine z_bipush ok dX7_readOne_100 (by decide) ?_
                  refine z_icmp_eq (tgt := 109) ok dX7_readOne_102 (by decide) (by omega) (by omega) (fun c102 => ?_) (fun c102 => ?_)
                  · -- t
                    refine z_iconst ok dX7_readOne_109 ?_
                    refine z_put (ws' := mW Z q now kept hist und sav isv pad sg it far many laid sides stuck (zu (zu ord (3 * rd) (sgn pad sg pl)) ((3 * rd) + 1) (numV pad sg (pl + 1))) rd (numP pad sg (pl + 1)) 0) ok zc7 0 rfl 17 (by decide) qf_RX7_170 rfl rfl (znZ _ (by first | decide | exact zb_01 _ | omega)) (zfZ _ (by first | decide | exact zb_01 _ | omega)) (Nat.le_of_ble_eq_true rfl) dX7_readOne_110 rfl ?_
                    refine z_aload_n ok dX7_readOne_113 rfl ?_
                    refine z_dup ok dX7_readOne_114 rfl ?_
                    refine z_get (v := .int (iI (numP pad sg (pl + 1)))) ok zc7 0 rfl 16 (by decide) qf_RX7_164 rfl rfl dX7_readOne_115 ?_
                    refine z_aload_n ok dX7_readOne_118 rfl ?_
                    refine z_get (v := .int (iI 0)) ok zc7 0 rfl 17 (by decide) qf_RX7_170 rfl rfl dX7_readOne_119 ?_
                    refine z_if_eq (tgt := 129) ok dX7_readOne_122 (by decide) (by omega) (fun c122 => ?_) (fun c122 => ?_)
                    · -- t
                      refine z_iconst ok dX7_readOne_129 ?_
                      refine z_iadd ok dX7_readOne_130 ?_
                      refine z_put (ws' := mW Z q now kept hist und sav isv pad sg it far many laid sides stuck (zu (zu ord (3 * rd) (sgn pad sg pl)) ((3 * rd) + 1) (numV pad sg (pl + 1))) rd ((numP pad sg (pl + 1)) + 1) 0) ok zc7 0 rfl 16 (by decide) qf_RX7_164 rfl rfl rfl rfl (Nat.le_of_ble_eq_true rfl) dX7_readOne_131 rfl ?_
                      refine z_aload_n ok dX7_readOne_134 rfl ?_
                      refine z_get (v := .ref (q 12)) ok zc7 0 rfl 14 (by decide) qf_RX7_44 rfl rfl dX7_readOne_135 ?_
                      refine z_iload_n ok dX7_readOne_138 rfl ?_
                      refine z_iconst ok dX7_readOne_139 ?_
                      refine z_iadd ok dX7_readOne_140 ?_
                      refine z_aload_n ok dX7_readOne_141 rfl ?_
                      refine z_callVi0 ok (fun l => c_X7_number  (hpd) (by omega) (by omega)) zm_X7_number zv_X7_number qm_RX7_176 dX7_readOne_142 (by decide) (by decide) rfl rfl (Nat.le_of_ble_eq_true rfl) (q0 := 0) rfl rfl rfl (fun ρ _ hρ => ?_)
                      subst hρ
                      refine z_eq (ws' := mW Z q now kept hist und sav isv pad sg it far many laid sides stuck (zu (zu ord (3 * rd) (sgn pad sg pl)) ((3 * rd) + 1) (numV pad sg (pl + 1))) rd (if (¬ 0 = 0 ∨ numV pad sg ((numP pad sg (pl + 1)) + 1) < 0) then ((numP pad sg (pl + 1)) + 1) else numP pad sg ((numP pad sg (pl + 1)) + 1)) (if (¬ 0 = 0 ∨ numV pad sg ((numP pad sg (pl + 1)) + 1) < 0) then 1 else 0)) rfl ?_
                      by_cases hm : numV pad sg (numP pad sg (pl + 1) + 1) < 0
                      · -- split
                        refine z_eq (ws' := mW Z q now kept hist und sav isv pad sg it far many laid sides stuck (zu (zu ord (3 * rd) (sgn pad sg pl)) ((3 * rd) + 1) (numV pad sg (pl + 1))) rd (numP pad sg (pl + 1) + 1) 1) (by rw [if_pos (show (¬ (0 : Int) = 0 ∨ numV pad sg (numP pad sg (pl + 1) + 1) < 0) from Or.inr hm), if_pos (show (¬ (0 : Int) = 0 ∨ numV pad sg (numP pad sg (pl + 1) + 1) < 0) from Or.inr hm)]) ?_
                        refine z_st (st' := [.int (iI 0), .int (iI ((3 * rd) + 2)), .ref (q 12)]) (by rw [if_pos (show (¬ (0 : Int) = 0 ∨ numV pad sg (numP pad sg (pl + 1) + 1) < 0) from Or.inr hm)]) ?_
                        refine z_iast (f := zu (zu ord (3 * rd) (sgn pad sg pl)) ((3 * rd) + 1) (numV pad sg (pl + 1))) (v := 0) (ws' := mW Z q now kept hist und sav isv pad sg it far many laid sides stuck (zu (zu (zu ord (3 * rd) (sgn pad sg pl)) ((3 * rd) + 1) (numV pad sg (pl + 1))) ((3 * rd) + 2) 0) rd (numP pad sg (pl + 1) + 1) 1) ok 12 rfl dX7_readOne_145 (by omega) (by decide) rfl ?_
                        refine z_goto (tgt := 167) ok dX7_readOne_146 (by decide) ?_
                        refine z_aload_n ok dX7_readOne_167 rfl ?_
                        refine z_dup ok dX7_readOne_168 rfl ?_
                        refine z_get (v := .int (iI rd)) ok zc7 0 rfl 15 (by decide) qf_RX7_173 rfl rfl dX7_readOne_169 ?_
                        refine z_iconst ok dX7_readOne_172 ?_
                        refine z_iadd ok dX7_readOne_173 ?_
                        refine z_put (ws' := mW Z q now kept hist und sav isv pad sg it far many laid sides stuck (zu (zu (zu ord (3 * rd) (sgn pad sg pl)) ((3 * rd) + 1) (numV pad sg (pl + 1))) ((3 * rd) + 2) 0) (rd + 1) (numP pad sg (pl + 1) + 1) 1) ok zc7 0 rfl 15 (by decide) qf_RX7_173 rfl rfl rfl rfl (Nat.le_of_ble_eq_true rfl) dX7_readOne_174 rfl ?_
                        have hE : (numP pad sg (pl + 1) + 1) = ordE pad sg pl := by first | (unfold ordE; rw [zif_f hkn]; done) | (unfold ordE; rw [zif_t hk]; first | omega | ((repeat' split) <;> omega))
                        have hW : 1 = zb (¬ ordOK pad sg pl) := by first | exact (zb_t (fun z => hkn z.1)).symm | exact (zb_t (fun z => by obtain ⟨o1, o2, o3, o4⟩ := z; first | omega | (have := o3 (by omega); omega) | (have := o4 (by omega); omega))).symm | exact (zb_f (fun z => z ⟨hk, by omega, fun e => by first | (exfalso; omega) | exact ⟨by omega, by omega⟩, fun e => by first | (exfalso; omega) | omega⟩)).symm
                        have hO : ordOK pad sg pl → (rd + 1) = rd + 1 ∧ (zu (zu (zu ord (3 * rd) (sgn pad sg pl)) ((3 * rd) + 1) (numV pad sg (pl + 1))) ((3 * rd) + 2) 0) (3 * rd) = sgn pad sg pl ∧ (zu (zu (zu ord (3 * rd) (sgn pad sg pl)) ((3 * rd) + 1) (numV pad sg (pl + 1))) ((3 * rd) + 2) 0) (3 * rd + 1) = numV pad sg (pl + 1) ∧ (sgn pad sg pl ≠ 116 → (zu (zu (zu ord (3 * rd) (sgn pad sg pl)) ((3 * rd) + 1) (numV pad sg (pl + 1))) ((3 * rd) + 2) 0) (3 * rd + 2) = ordS pad sg pl) := by first | exact fun ho => absurd ho.1 hkn | (intro ho; obtain ⟨o1, o2, o3, o4⟩ := ho; first | (exfalso; omega) | (exfalso; have := o3 (by omega); omega) | (exfalso; have := o4 (by omega); omega) | exact ⟨rfl, by rw [zu_n (by omega), zu_n (by omega), zu_s], by rw [zu_n (by omega), zu_s], fun _ => by rw [zu_s]; unfold ordS; first | rw [if_pos (by omega)] | rw [if_neg (by omega)]⟩ | exact ⟨rfl, by rw [zu_n (by omega), zu_s], by rw [zu_s], fun z => absurd (by omega) z⟩)
                        have hX : ∀ x : Int, x < 3 * rd → (zu (zu (zu ord (3 * rd) (sgn pad sg pl)) ((3 * rd) + 1) (numV pad sg (pl + 1))) ((3 * rd) + 2) 0) x = ord x := by intro x hx; first | (rw [zu_n (by omega), zu_n (by omega), zu_n (by omega)]; done) | (rw [zu_n (by omega), zu_n (by omega)]; done) | (rw [zu_n (by omega)])
                        have hR : rd ≤ (rd + 1) ∧ (rd + 1) ≤ rd + 1 := by omega
                        exact fin (zu (zu (zu ord (3 * rd) (sgn pad sg pl)) ((3 * rd) + 1) (numV pad sg (pl + 1))) ((3 * rd) + 2) 0, numP pad sg (pl + 1) + 1, 1, rd + 1) 177 _ _ _ dX7_readOne_177 (⟨hE, hW, hO, hX, hR.1, hR.2⟩) (by decide) (by decide)
                      · -- split
                        refine z_eq (ws' := mW Z q now kept hist und sav isv pad sg it far many laid sides stuck (zu (zu ord (3 * rd) (sgn pad sg pl)) ((3 * rd) + 1) (numV pad sg (pl + 1))) rd (numP pad sg (numP pad sg (pl + 1) + 1)) 0) (by rw [if_neg (show ¬ (¬ (0 : Int) = 0 ∨ numV pad sg (numP pad sg (pl + 1) + 1) < 0) from fun z => z.elim (fun y => y rfl) hm), if_neg (show ¬ (¬ (0 : Int) = 0 ∨ numV pad sg (numP pad sg (pl + 1) + 1) < 0) from fun z => z.elim (fun y => y rfl) hm)]) ?_
                        refine z_st (st' := [.int (iI (numV pad sg (numP pad sg (pl + 1) + 1))), .int (iI ((3 * rd) + 2)), .ref (q 12)]) (by rw [if_neg (show ¬ (¬ (0 : Int) = 0 ∨ numV pad sg (numP pad sg (pl + 1) + 1) < 0) from fun z => z.elim (fun y => y rfl) hm)]) ?_
                        refine z_iast (f := zu (zu ord (3 * rd) (sgn pad sg pl)) ((3 * rd) + 1) (numV pad sg (pl + 1))) (v := numV pad sg (numP pad sg (pl + 1) + 1)) (ws' := mW Z q now kept hist und sav isv pad sg it far many laid sides stuck (zu (zu (zu ord (3 * rd) (sgn pad sg pl)) ((3 * rd) + 1) (numV pad sg (pl + 1))) ((3 * rd) + 2) (numV pad sg (numP pad sg (pl + 1) + 1))) rd (numP pad sg (numP pad sg (pl + 1) + 1)) 0) ok 12 rfl dX7_readOne_145 (by omega) (by decide) rfl ?_
                        refine z_goto (tgt := 167) ok dX7_readOne_146 (by decide) ?_
                        refine z_aload_n ok dX7_readOne_167 rfl ?_
                        refine z_dup ok dX7_readOne_168 rfl ?_
                        refine z_get (v := .int (iI rd)) ok zc7 0 rfl 15 (by decide) qf_RX7_173 rfl rfl dX7_readOne_169 ?_
                        refine z_iconst ok dX7_readOne_172 ?_
                        refine z_iadd ok dX7_readOne_173 ?_
                        refine z_put (ws' := mW Z q now kept hist und sav isv pad sg it far many laid sides stuck (zu (zu (zu ord (3 * rd) (sgn pad sg pl)) ((3 * rd) + 1) (numV pad sg (pl + 1))) ((3 * rd) + 2) (numV pad sg (numP pad sg (pl + 1) + 1))) (rd + 1) (numP pad sg (numP pad sg (pl + 1) + 1)) 0) ok zc7 0 rfl 15 (by decide) qf_RX7_173 rfl rfl rfl rfl (Nat.le_of_ble_eq_true rfl) dX7_readOne_174 rfl ?_
                        have hE : (numP pad sg (numP pad sg (pl + 1) + 1)) = ordE pad sg pl := by first | (unfold ordE; rw [zif_f hkn]; done) | (unfold ordE; rw [zif_t hk]; first | omega | ((repeat' split) <;> omega))
                        have hW : 0 = zb (¬ ordOK pad sg pl) := by first | exact (zb_t (fun z => hkn z.1)).symm | exact (zb_t (fun z => by obtain ⟨o1, o2, o3, o4⟩ := z; first | omega | (have := o3 (by omega); omega) | (have := o4 (by omega); omega))).symm | exact (zb_f (fun z => z ⟨hk, by omega, fun e => by first | (exfalso; omega) | exact ⟨by omega, by omega⟩, fun e => by first | (exfalso; omega) | omega⟩)).symm
                        have hO : ordOK pad sg pl → (rd + 1) = rd + 1 ∧ (zu (zu (zu ord (3 * rd) (sgn pad sg pl)) ((3 * rd) + 1) (numV pad sg (pl + 1))) ((3 * rd) + 2) (numV pad sg (numP pad sg (pl + 1) + 1))) (3 * rd) = sgn pad sg pl ∧ (zu (zu (zu ord (3 * rd) (sgn pad sg pl)) ((3 * rd) + 1) (numV pad sg (pl + 1))) ((3 * rd) + 2) (numV pad sg (numP pad sg (pl + 1) + 1))) (3 * rd + 1) = numV pad sg (pl + 1) ∧ (sgn pad sg pl ≠ 116 → (zu (zu (zu ord (3 * rd) (sgn pad sg pl)) ((3 * rd) + 1) (numV pad sg (pl + 1))) ((3 * rd) + 2) (numV pad sg (numP pad sg (pl + 1) + 1))) (3 * rd + 2) = ordS pad sg pl) := by first | exact fun ho => absurd ho.1 hkn | (intro ho; obtain ⟨o1, o2, o3, o4⟩ := ho; first | (exfalso; omega) | (exfalso; have := o3 (by omega); omega) | (exfalso; have := o4 (by omega); omega) | exact ⟨rfl, by rw [zu_n (by omega), zu_n (by omega), zu_s], by rw [zu_n (by omega), zu_s], fun _ => by rw [zu_s]; unfold ordS; first | rw [if_pos (by omega)] | rw [if_neg (by omega)]⟩ | exact ⟨rfl, by rw [zu_n (by omega), zu_s], by rw [zu_s], fun z => absurd (by omega) z⟩)
                        have hX : ∀ x : Int, x < 3 * rd → (zu (zu (zu ord (3 * rd) (sgn pad sg pl)) ((3 * rd) + 1) (numV pad sg (pl + 1))) ((3 * rd) + 2) (numV pad sg (numP pad sg (pl + 1) + 1))) x = ord x := by intro x hx; first | (rw [zu_n (by omega), zu_n (by omega), zu_n (by omega)]; done) | (rw [zu_n (by omega), zu_n (by omega)]; done) | (rw [zu_n (by omega)])
                        have hR : rd ≤ (rd + 1) ∧ (rd + 1) ≤ rd + 1 := by omega
                        exact fin (zu (zu (zu ord (3 * rd) (sgn pad sg pl)) ((3 * rd) + 1) (numV pad sg (pl + 1))) ((3 * rd) + 2) (numV pad sg (numP pad sg (pl + 1) + 1)), numP pad sg (numP pad sg (pl + 1) + 1), 0, rd + 1) 177 _ _ _ dX7_readOne_177 (⟨hE, hW, hO, hX, hR.1, hR.2⟩) (by decide) (by decide)
                    · -- f
                      exact absurd c122 (by decide)
                  · -- f
                    refine z_iconst ok dX7_readOne_105 ?_
                    refine z_goto (tgt := 110) ok dX7_readOne_106 (by decide) ?_
                    refine z_put (ws' := mW Z q now kept hist und sav isv pad sg it far many laid sides stuck (zu (zu ord (3 * rd) (sgn pad sg pl)) ((3 * rd) + 1) (numV pad sg (pl + 1))) rd (numP pad sg (pl + 1)) 1) ok zc7 0 rfl 17 (by decide) qf_RX7_170 rfl rfl (znZ _ (by first | decide | exact zb_01 _ | omega)) (zfZ _ (by first | decide | exact zb_01 _ | omega)) (Nat.le_of_ble_eq_true rfl) dX7_readOne_110 rfl ?_
                    refine z_aload_n ok dX7_readOne_113 rfl ?_
                    refine z_dup ok dX7_readOne_114 rfl ?_
                    refine z_get (v := .int (iI (numP pad sg (pl + 1)))) ok zc7 0 rfl 16 (by decide) qf_RX7_164 rfl rfl dX7_readOne_115 ?_
                    refine z_aload_n ok dX7_readOne_118 rfl ?_
                    refine z_get (v := .int (iI 1)) ok zc7 0 rfl 17 (by decide) qf_RX7_170 rfl rfl dX7_readOne_119 ?_
                    refine z_if_eq (tgt := 129) ok dX7_readOne_122 (by decide) (by omega) (fun c122 => ?_) (fun c122 => ?_)
                    · -- t
                      exact absurd c122 (by decide)
                    · -- f
                      refine z_iconst ok dX7_readOne_125 ?_
                      refine z_goto (tgt := 130) ok dX7_readOne_126 (by decide) ?_
                      refine z_iadd ok dX7_readOne_130 ?_
                      refine z_put (ws' := mW Z q now kept hist und sav isv pad sg it far many laid sides stuck (zu (zu ord (3 * rd) (sgn pad sg pl)) ((3 * rd) + 1) (numV pad sg (pl + 1))) rd ((numP pad sg (pl + 1)) + 0) 1) ok zc7 0 rfl 16 (by decide) qf_RX7_164 rfl rfl rfl rfl (Nat.le_of_ble_eq_true rfl) dX7_readOne_131 rfl ?_
                      refine z_aload_n ok dX7_readOne_134 rfl ?_
                      refine z_get (v := .ref (q 12)) ok zc7 0 rfl 14 (by decide) qf_RX7_44 rfl rfl dX7_readOne_135 ?_
                      refine z_iload_n ok dX7_readOne_138 rfl ?_
                      refine z_iconst ok dX7_readOne_139 ?_
                      refine z_iadd ok dX7_readOne_140 ?_
                      refine z_aload_n ok dX7_readOne_141 rfl ?_
                      refine z_callVi0 ok (fun l => c_X7_number  (hpd) (by omega) (by omega)) zm_X7_number zv_X7_number qm_RX7_176 dX7_readOne_142 (by decide) (by decide) rfl rfl (Nat.le_of_ble_eq_true rfl) (q0 := 0) rfl rfl rfl (fun ρ _ hρ => ?_)
                      subst hρ
                      refine z_eq (ws' := mW Z q now kept hist und sav isv pad sg it far many laid sides stuck (zu (zu ord (3 * rd) (sgn pad sg pl)) ((3 * rd) + 1) (numV pad sg (pl + 1))) rd (if (¬ 1 = 0 ∨ numV pad sg ((numP pad sg (pl + 1)) + 0) < 0) then ((numP pad sg (pl + 1)) + 0) else numP pad sg ((numP pad sg (pl + 1)) + 0)) (if (¬ 1 = 0 ∨ numV pad sg ((numP pad sg (pl + 1)) + 0) < 0) then 1 else 0)) rfl ?_
                      refine z_eq (ws' := mW Z q now kept hist und sav isv pad sg it far many laid sides stuck (zu (zu ord (3 * rd) (sgn pad sg pl)) ((3 * rd) + 1) (numV pad sg (pl + 1))) rd ((numP pad sg (pl + 1)) + 0) 1) (by rw [if_pos (show (¬ (1 : Int) = 0 ∨ numV pad sg ((numP pad sg (pl + 1)) + 0) < 0) from Or.inl (by decide)), if_pos (show (¬ (1 : Int) = 0 ∨ numV pad sg ((numP pad sg (pl + 1)) + 0) < 0) from Or.inl (by decide))]) ?_
                      refine z_st (st' := [.int (iI 0), .int (iI ((3 * rd) + 2)), .ref (q 12)]) (by rw [if_pos (show (¬ (1 : Int) = 0 ∨ numV pad sg ((numP pad sg (pl + 1)) + 0) < 0) from Or.inl (by decide))]) ?_
                      refine z_iast (f := zu (zu ord (3 * rd) (sgn pad sg pl)) ((3 * rd) + 1) (numV pad sg (pl + 1))) (v := 0) (ws' := mW Z q now kept hist und sav isv pad sg it far many laid sides stuck (zu (zu (zu ord (3 * rd) (sgn pad sg pl)) ((3 * rd) + 1) (numV pad sg (pl + 1))) ((3 * rd) + 2) 0) rd ((numP pad sg (pl + 1)) + 0) 1) ok 12 rfl dX7_readOne_145 (by omega) (by decide) rfl ?_
                      refine z_goto (tgt := 167) ok dX7_readOne_146 (by decide) ?_
                      refine z_aload_n ok dX7_readOne_167 rfl ?_
                      refine z_dup ok dX7_readOne_168 rfl ?_
                      refine z_get (v := .int (iI rd)) ok zc7 0 rfl 15 (by decide) qf_RX7_173 rfl rfl dX7_readOne_169 ?_
                      refine z_iconst ok dX7_readOne_172 ?_
                      refine z_iadd ok dX7_readOne_173 ?_
                      refine z_put (ws' := mW Z q now kept hist und sav isv pad sg it far many laid sides stuck (zu (zu (zu ord (3 * rd) (sgn pad sg pl)) ((3 * rd) + 1) (numV pad sg (pl + 1))) ((3 * rd) + 2) 0) (rd + 1) ((numP pad sg (pl + 1)) + 0) 1) ok zc7 0 rfl 15 (by decide) qf_RX7_173 rfl rfl rfl rfl (Nat.le_of_ble_eq_true rfl) dX7_readOne_174 rfl ?_
                      have hE : ((numP pad sg (pl + 1)) + 0) = ordE pad sg pl := by first | (unfold ordE; rw [zif_f hkn]; done) | (unfold ordE; rw [zif_t hk]; first | omega | ((repeat' split) <;> omega))
                      have hW : 1 = zb (¬ ordOK pad sg pl) := by first | exact (zb_t (fun z => hkn z.1)).symm | exact (zb_t (fun z => by obtain ⟨o1, o2, o3, o4⟩ := z; first | omega | (have := o3 (by omega); omega) | (have := o4 (by omega); omega))).symm | exact (zb_f (fun z => z ⟨hk, by omega, fun e => by first | (exfalso; omega) | exact ⟨by omega, by omega⟩, fun e => by first | (exfalso; omega) | omega⟩)).symm
                      have hO : ordOK pad sg pl → (rd + 1) = rd + 1 ∧ (zu (zu (zu ord (3 * rd) (sgn pad sg pl)) ((3 * rd) + 1) (numV pad sg (pl + 1))) ((3 * rd) + 2) 0) (3 * rd) = sgn pad sg pl ∧ (zu (zu (zu ord (3 * rd) (sgn pad sg pl)) ((3 * rd) + 1) (numV pad sg (pl + 1))) ((3 * rd) + 2) 0) (3 * rd + 1) = numV pad sg (pl + 1) ∧ (sgn pad sg pl ≠ 116 → (zu (zu (zu ord (3 * rd) (sgn pad sg pl)) ((3 * rd) + 1) (numV pad sg (pl + 1))) ((3 * rd) + 2) 0) (3 * rd + 2) = ordS pad sg pl) := by first | exact fun ho => absurd ho.1 hkn | (intro ho; obtain ⟨o1, o2, o3, o4⟩ := ho; first | (exfalso; omega) | (exfalso; have := o3 (by omega); omega) | (exfalso; have := o4 (by omega); omega) | exact ⟨rfl, by rw [zu_n (by omega), zu_n (by omega), zu_s], by rw [zu_n (by omega), zu_s], fun _ => by rw [zu_s]; unfold ordS; first | rw [if_pos (by omega)] | rw [if_neg (by omega)]⟩ | exact ⟨rfl, by rw [zu_n (by omega), zu_s], by rw [zu_s], fun z => absurd (by omega) z⟩)
                      have hX : ∀ x : Int, x < 3 * rd → (zu (zu (zu ord (3 * rd) (sgn pad sg pl)) ((3 * rd) + 1) (numV pad sg (pl + 1))) ((3 * rd) + 2) 0) x = ord x := by intro x hx; first | (rw [zu_n (by omega), zu_n (by omega), zu_n (by omega)]; done) | (rw [zu_n (by omega), zu_n (by omega)]; done) | (rw [zu_n (by omega)])
                      have hR : rd ≤ (rd + 1) ∧ (rd + 1) ≤ rd + 1 := by omega
                      exact fin (zu (zu (zu ord (3 * rd) (sgn pad sg pl)) ((3 * rd) + 1) (numV pad sg (pl + 1))) ((3 * rd) + 2) 0, ((numP pad sg (pl + 1)) + 0), 1, rd + 1) 177 _ _ _ dX7_readOne_177 (⟨hE, hW, hO, hX, hR.1, hR.2⟩) (by decide) (by decide)
          · -- f
            exact absurd c56 (by decide)
        · -- f
          have hkn : ¬ knd pad sg pl := fun z => by unfold knd at z; omega
          refine z_iconst ok dX7_readOne_44 ?_
          refine z_goto (tgt := 49) ok dX7_readOne_45 (by decide) ?_
          refine z_put (ws' := mW Z q now kept hist und sav isv pad sg it far many laid sides stuck (zu ord (3 * rd) (sgn pad sg pl)) rd pl 1) ok zc7 0 rfl 17 (by decide) qf_RX7_170 rfl rfl (znZ _ (by first | decide | exact zb_01 _ | omega)) (zfZ _ (by first | decide | exact zb_01 _ | omega)) (Nat.le_of_ble_eq_true rfl) dX7_readOne_49 rfl ?_
          refine z_aload_n ok dX7_readOne_52 rfl ?_
          refine z_get (v := .int (iI 1)) ok zc7 0 rfl 17 (by decide) qf_RX7_170 rfl rfl dX7_readOne_53 ?_
          refine z_if_eq (tgt := 60) ok dX7_readOne_56 (by decide) (by omega) (fun c56 => ?_) (fun c56 => ?_)
          · -- t
            exact absurd c56 (by decide)
          · -- f
            have hE : pl = ordE pad sg pl := by first | (unfold ordE; rw [zif_f hkn]; done) | (unfold ordE; rw [zif_t hk]; first | omega | ((repeat' split) <;> omega))
            have hW : 1 = zb (¬ ordOK pad sg pl) := by first | exact (zb_t (fun z => hkn z.1)).symm | exact (zb_t (fun z => by obtain ⟨o1, o2, o3, o4⟩ := z; first | omega | (have := o3 (by omega); omega) | (have := o4 (by omega); omega))).symm | exact (zb_f (fun z => z ⟨hk, by omega, fun e => by first | (exfalso; omega) | exact ⟨by omega, by omega⟩, fun e => by first | (exfalso; omega) | omega⟩)).symm
            have hO : ordOK pad sg pl → rd = rd + 1 ∧ (zu ord (3 * rd) (sgn pad sg pl)) (3 * rd) = sgn pad sg pl ∧ (zu ord (3 * rd) (sgn pad sg pl)) (3 * rd + 1) = numV pad sg (pl + 1) ∧ (sgn pad sg pl ≠ 116 → (zu ord (3 * rd) (sgn pad sg pl)) (3 * rd + 2) = ordS pad sg pl) := by first | exact fun ho => absurd ho.1 hkn | (intro ho; obtain ⟨o1, o2, o3, o4⟩ := ho; first | (exfalso; omega) | (exfalso; have := o3 (by omega); omega) | (exfalso; have := o4 (by omega); omega) | exact ⟨rfl, by rw [zu_n (by omega), zu_n (by omega), zu_s], by rw [zu_n (by omega), zu_s], fun _ => by rw [zu_s]; unfold ordS; first | rw [if_pos (by omega)] | rw [if_neg (by omega)]⟩ | exact ⟨rfl, by rw [zu_n (by omega), zu_s], by rw [zu_s], fun z => absurd (by omega) z⟩)
            have hX : ∀ x : Int, x < 3 * rd → (zu ord (3 * rd) (sgn pad sg pl)) x = ord x := by intro x hx; first | (rw [zu_n (by omega), zu_n (by omega), zu_n (by omega)]; done) | (rw [zu_n (by omega), zu_n (by omega)]; done) | (rw [zu_n (by omega)])
            have hR : rd ≤ rd ∧ rd ≤ rd + 1 := by omega
            exact fin (zu ord (3 * rd) (sgn pad sg pl), pl, 1, rd) 59 _ _ _ dX7_readOne_59 (⟨hE, hW, hO, hX, hR.1, hR.2⟩) (by decide) (by decide)
